noncomputable def rx_drp (n : Nat) : List UInt8 → List UInt8 := Nat.rec (motive := fun _ => List UInt8 → List UInt8) (fun l => l) (fun _ ih l => List.rec (motive := fun _ => List UInt8) [] (fun _ t _ => ih t) l) n
theorem rx_drp_cons : ∀ (n : Nat) (l : List UInt8) (x : UInt8) (t : List UInt8), rx_drp n l = x :: t → ∃ h : n < l.length, l[n] = x ∧ rx_drp (n + 1) l = t
  | 0, [], _, _, h => by
    have h : ([] : List UInt8) = _ :: _ := h
    cases h
  | 0, _ :: _, _, _, h => by
    have h : (_ :: _ : List UInt8) = _ :: _ := h
    cases h
    exact ⟨Nat.succ_pos _, rfl, rfl⟩
  | n + 1, [], _, _, h => by
    have h : ([] : List UInt8) = _ :: _ := h
    cases h
  | n + 1, _ :: l, x, t, h => by
    obtain ⟨h1, h2, h3⟩ := rx_drp_cons n l x t h
    exact ⟨Nat.succ_lt_succ h1, h2, h3⟩
section RXDEC
variable {c : ByteArray} {p pc op k : Nat} {x y : UInt8} {t : List UInt8} {P : Nat → Bool}
theorem rx_u1 (h : rx_drp p c.data.toList = x :: t) : (Reader.u1 : Decoder Nat) c p = .ok (x.toNat, p + 1) ∧ rx_drp (p + 1) c.data.toList = t := by
  obtain ⟨⟨l⟩⟩ := c
  obtain ⟨h1, h2, h3⟩ := rx_drp_cons p l x t h
  refine ⟨?_, h3⟩
  have e : (Reader.u1 : Decoder Nat) (ByteArray.mk ⟨l⟩) p = (if h : p < (ByteArray.mk ⟨l⟩).size then (do set (p + 1); Pure.pure (ByteArray.mk ⟨l⟩)[p].toNat : Decoder Nat) else throw (HasTruncated.truncated p)) (ByteArray.mk ⟨l⟩) p := rfl
  rw [e, dif_pos (show p < (ByteArray.mk ⟨l⟩).size from h1)]
  show Except.ok (l[p].toNat, p + 1) = _
  rw [h2]
theorem rx_bdm {α β : Type} {m : Decoder α} {f : α → Decoder β} {a : α} {q : Nat} (h : m c p = .ok (a, q)) : (m >>= f) c p = f a c q := by
  show Except.bind (m c p) _ = _
  rw [h]
  rfl
theorem rx_mp {α β : Type} {m : Decoder α} {f : α → β} {a : α} {q : Nat} (h : m c p = .ok (a, q)) : (f <$> m) c p = .ok (f a, q) := by
  show Except.bind (m c p) _ = _
  rw [h]
  rfl
theorem rx_u2 (h : rx_drp p c.data.toList = x :: y :: t) : (Reader.u2 : Decoder Nat) c p = .ok (x.toNat * 256 + y.toNat, p + 2) := by
  obtain ⟨h1, h2⟩ := rx_u1 h
  show (Reader.u1 >>= fun hi => Reader.u1 >>= fun lo => (Pure.pure (hi * 256 + lo) : Decoder Nat)) c p = _
  rw [rx_bdm h1, rx_bdm (rx_u1 h2).1]
  rfl
theorem rx_iOf {i : Instr} (h : Decoder.instr pc c pc = .ok (i, pc + k)) : decode c pc = .ok (i, k) := by
  show Except.bind (Decoder.instr pc c pc) _ = _
  rw [h]
  show Except.ok (i, pc + k - pc) = _
  rw [Nat.add_sub_cancel_left]
theorem rx_g0 {F : Nat → Decoder Instr} {i : Instr} (hF : Decoder.instr pc = (Reader.u1 >>= F)) (hG : F op = Pure.pure i) (hb : (Reader.u1 : Decoder Nat) c pc = .ok (op, pc + 1)) : decode c pc = .ok (i, 1) := by
  refine rx_iOf ?_
  rw [hF, rx_bdm hb, hG]
  rfl
theorem rx_g1 {F : Nat → Decoder Instr} {α : Type} {m : Decoder α} {J : α → Instr} {a : α} (hF : Decoder.instr pc = (Reader.u1 >>= F)) (hG : F op = (m >>= fun x => Pure.pure (J x))) (hb : (Reader.u1 : Decoder Nat) c pc = .ok (op, pc + 1)) (hx : m c (pc + 1) = .ok (a, pc + k)) : decode c pc = .ok (J a, k) := by
  refine rx_iOf ?_
  rw [hF, rx_bdm hb, hG, rx_bdm hx]
  rfl
theorem rx_g2 {F : Nat → Decoder Instr} {α β : Type} {m : Decoder α} {m2 : Decoder β} {J : α → β → Instr} {a : α} {b : β} (hF : Decoder.instr pc = (Reader.u1 >>= F)) (hG : F op = (m >>= fun x => m2 >>= fun y => Pure.pure (J x y))) (hb : (Reader.u1 : Decoder Nat) c pc = .ok (op, pc + 1)) (hx : m c (pc + 1) = .ok (a, pc + 2)) (hy : m2 c (pc + 2) = .ok (b, pc + k)) : decode c pc = .ok (J a b, k) := by
  refine rx_iOf ?_
  rw [hF, rx_bdm hb, hG, rx_bdm hx, rx_bdm hy]
  rfl
noncomputable def rx_a0 (c : ByteArray) (pc op : Nat) : Bool := List.rec (motive := fun _ => Bool) false (fun a _ _ => Nat.beq a.toNat op) (rx_drp pc c.data.toList)
noncomputable def rx_a1 (c : ByteArray) (pc op : Nat) (P : Nat → Bool) : Bool := List.rec (motive := fun _ => Bool) false (fun a t _ => List.rec (motive := fun _ => Bool) false (fun b _ _ => Nat.beq a.toNat op && P b.toNat) t) (rx_drp pc c.data.toList)
noncomputable def rx_a2 (c : ByteArray) (pc op : Nat) (P : Nat → Bool) : Bool := List.rec (motive := fun _ => Bool) false (fun a t _ => List.rec (motive := fun _ => Bool) false (fun b t _ => List.rec (motive := fun _ => Bool) false (fun d _ _ => Nat.beq a.toNat op && P (b.toNat * 256 + d.toNat)) t) t) (rx_drp pc c.data.toList)
noncomputable def rx_a3 (c : ByteArray) (pc op : Nat) (P : Nat → Nat → Bool) : Bool := List.rec (motive := fun _ => Bool) false (fun a t _ => List.rec (motive := fun _ => Bool) false (fun b t _ => List.rec (motive := fun _ => Bool) false (fun d _ _ => Nat.beq a.toNat op && P b.toNat d.toNat) t) t) (rx_drp pc c.data.toList)
theorem rx_a0_ok (h : rx_a0 c pc op = true) : (Reader.u1 : Decoder Nat) c pc = .ok (op, pc + 1) := by
  unfold rx_a0 at h
  cases e : rx_drp pc c.data.toList with
  | nil =>
    rw [e] at h
    exact absurd (show false = true from h) Bool.false_ne_true
  | cons a t =>
    rw [e] at h
    have h : Nat.beq a.toNat op = true := h
    rw [← Nat.eq_of_beq_eq_true h]
    exact (rx_u1 e).1
theorem rx_a1_ok (h : rx_a1 c pc op P = true) : (Reader.u1 : Decoder Nat) c pc = .ok (op, pc + 1) ∧ ∃ a : Nat, (Reader.u1 : Decoder Nat) c (pc + 1) = .ok (a, pc + 2) ∧ P a = true := by
  unfold rx_a1 at h
  cases e : rx_drp pc c.data.toList with
  | nil =>
    rw [e] at h
    exact absurd (show false = true from h) Bool.false_ne_true
  | cons a t =>
    rw [e] at h
    obtain ⟨u, v⟩ := rx_u1 e
    cases t with
    | nil => exact absurd (show false = true from h) Bool.false_ne_true
    | cons b t =>
      have h : (Nat.beq a.toNat op && P b.toNat) = true := h
      rw [Bool.and_eq_true] at h
      rw [← Nat.eq_of_beq_eq_true h.1]
      exact ⟨u, _, (rx_u1 v).1, h.2⟩
theorem rx_a2_ok (h : rx_a2 c pc op P = true) : (Reader.u1 : Decoder Nat) c pc = .ok (op, pc + 1) ∧ ∃ a : Nat, (Reader.u2 : Decoder Nat) c (pc + 1) = .ok (a, pc + 3) ∧ P a = true := by
  unfold rx_a2 at h
  cases e : rx_drp pc c.data.toList with
  | nil =>
    rw [e] at h
    exact absurd (show false = true from h) Bool.false_ne_true
  | cons a t =>
    rw [e] at h
    obtain ⟨u, v⟩ := rx_u1 e
    cases t with
    | nil => exact absurd (show false = true from h) Bool.false_ne_true
    | cons b t =>
      cases t with
      | nil => exact absurd (show false = true from h) Bool.false_ne_true
      | cons d t =>
        have h : (Nat.beq a.toNat op && P (b.toNat * 256 + d.toNat)) = true := h
        rw [Bool.and_eq_true] at h
        rw [← Nat.eq_of_beq_eq_true h.1]
        exact ⟨u, _, rx_u2 v, h.2⟩
theorem rx_a3_ok {P : Nat → Nat → Bool} (h : rx_a3 c pc op P = true) : (Reader.u1 : Decoder Nat) c pc = .ok (op, pc + 1) ∧ ∃ a b : Nat, (Reader.u1 : Decoder Nat) c (pc + 1) = .ok (a, pc + 2) ∧ (Reader.u1 : Decoder Nat) c (pc + 2) = .ok (b, pc + 3) ∧ P a b = true := by
  unfold rx_a3 at h
  cases e : rx_drp pc c.data.toList with
  | nil =>
    rw [e] at h
    exact absurd (show false = true from h) Bool.false_ne_true
  | cons a t =>
    rw [e] at h
    obtain ⟨u, v⟩ := rx_u1 e
    cases t with
    | nil => exact absurd (show false = true from h) Bool.false_ne_true
    | cons b t =>
      obtain ⟨u2, v2⟩ := rx_u1 v
      cases t with
      | nil => exact absurd (show false = true from h) Bool.false_ne_true
      | cons d t =>
        have h : (Nat.beq a.toNat op && P b.toNat d.toNat) = true := h
        rw [Bool.and_eq_true] at h
        rw [← Nat.eq_of_beq_eq_true h.1]
        exact ⟨u, _, _, u2, (rx_u1 v2).1, h.2⟩
noncomputable def rx_au (c : ByteArray) (pc op i : Nat) : Bool := rx_a1 c pc op (fun a => Nat.beq a i)
noncomputable def rx_aw (c : ByteArray) (pc op i : Nat) : Bool := rx_a2 c pc op (fun a => Nat.beq a i)
noncomputable def rx_as (c : ByteArray) (pc op : Nat) (n : Int) : Bool := rx_a1 c pc op (fun a => decide (Reader.signed 8 a = n))
noncomputable def rx_at_ (c : ByteArray) (pc op : Nat) (n : Int) : Bool := rx_a2 c pc op (fun a => decide (Reader.signed 16 a = n))
noncomputable def rx_ai (c : ByteArray) (pc op i : Nat) (n : Int) : Bool := rx_a3 c pc op (fun a b => Nat.beq a i && decide (Reader.signed 8 b = n))
theorem rx_hu {J : Nat → Instr} {i : Nat} {F : Nat → Decoder Instr} (h : rx_au c pc op i = true) (hF : Decoder.instr pc = (Reader.u1 >>= F)) (hG : F op = (Reader.u1 >>= fun x => Pure.pure (J x))) : decode c pc = .ok (J i, 2) := by
  obtain ⟨hb, a, ha, e⟩ := rx_a1_ok h
  rw [← Nat.eq_of_beq_eq_true e]
  exact rx_g1 hF hG hb ha
theorem rx_hw {J : Nat → Instr} {i : Nat} {F : Nat → Decoder Instr} (h : rx_aw c pc op i = true) (hF : Decoder.instr pc = (Reader.u1 >>= F)) (hG : F op = (Reader.u2 >>= fun x => Pure.pure (J x))) : decode c pc = .ok (J i, 3) := by
  obtain ⟨hb, a, ha, e⟩ := rx_a2_ok h
  rw [← Nat.eq_of_beq_eq_true e]
  exact rx_g1 hF hG hb ha
theorem rx_hs {J : Int → Instr} {n : Int} {F : Nat → Decoder Instr} (h : rx_as c pc op n = true) (hF : Decoder.instr pc = (Reader.u1 >>= F)) (hG : F op = (Reader.s1 >>= fun x => Pure.pure (J x))) : decode c pc = .ok (J n, 2) := by
  obtain ⟨hb, a, ha, e⟩ := rx_a1_ok h
  rw [← of_decide_eq_true e]
  exact rx_g1 hF hG hb (rx_mp ha)
theorem rx_ht {J : Int → Instr} {n : Int} {F : Nat → Decoder Instr} (h : rx_at_ c pc op n = true) (hF : Decoder.instr pc = (Reader.u1 >>= F)) (hG : F op = (Reader.s2 >>= fun x => Pure.pure (J x))) : decode c pc = .ok (J n, 3) := by
  obtain ⟨hb, a, ha, e⟩ := rx_a2_ok h
  rw [← of_decide_eq_true e]
  exact rx_g1 hF hG hb (rx_mp ha)
theorem rx_d_iinc {i : Nat} {n : Int} (h : rx_ai c pc 132 i n = true) : decode c pc = .ok (.iinc i n, 3) := by
  obtain ⟨hb, a, b, ha, hb2, e⟩ := rx_a3_ok h
  rw [Bool.and_eq_true] at e
  rw [← Nat.eq_of_beq_eq_true e.1, ← of_decide_eq_true e.2]
  exact rx_g2 (J := .iinc) rfl rfl hb ha (rx_mp hb2)
noncomputable def rx_cdn : Jvm.ClassFile.Cond → Nat
  | .eq => 0
  | .ne => 1
  | .lt => 2
  | .ge => 3
  | .gt => 4
  | .le => 5
theorem rx_d_iaload (h : rx_a0 c pc 46 = true) : decode c pc = .ok (.iaload, 1) := rx_g0 rfl rfl (rx_a0_ok h)
theorem rx_d_laload (h : rx_a0 c pc 47 = true) : decode c pc = .ok (.laload, 1) := rx_g0 rfl rfl (rx_a0_ok h)
theorem rx_d_aaload (h : rx_a0 c pc 50 = true) : decode c pc = .ok (.aaload, 1) := rx_g0 rfl rfl (rx_a0_ok h)
theorem rx_d_baload (h : rx_a0 c pc 51 = true) : decode c pc = .ok (.baload, 1) := rx_g0 rfl rfl (rx_a0_ok h)
theorem rx_d_iastore (h : rx_a0 c pc 79 = true) : decode c pc = .ok (.iastore, 1) := rx_g0 rfl rfl (rx_a0_ok h)
theorem rx_d_lastore (h : rx_a0 c pc 80 = true) : decode c pc = .ok (.lastore, 1) := rx_g0 rfl rfl (rx_a0_ok h)
theorem rx_d_aastore (h : rx_a0 c pc 83 = true) : decode c pc = .ok (.aastore, 1) := rx_g0 rfl rfl (rx_a0_ok h)
theorem rx_d_bastore (h : rx_a0 c pc 84 = true) : decode c pc = .ok (.bastore, 1) := rx_g0 rfl rfl (rx_a0_ok h)
theorem rx_d_pop (h : rx_a0 c pc 87 = true) : decode c pc = .ok (.pop, 1) := rx_g0 rfl rfl (rx_a0_ok h)
theorem rx_d_pop2 (h : rx_a0 c pc 88 = true) : decode c pc = .ok (.pop2, 1) := rx_g0 rfl rfl (rx_a0_ok h)
theorem rx_d_dup (h : rx_a0 c pc 89 = true) : decode c pc = .ok (.dup, 1) := rx_g0 rfl rfl (rx_a0_ok h)
theorem rx_d_dup2 (h : rx_a0 c pc 92 = true) : decode c pc = .ok (.dup2, 1) := rx_g0 rfl rfl (rx_a0_ok h)
theorem rx_d_iadd (h : rx_a0 c pc 96 = true) : decode c pc = .ok (.iadd, 1) := rx_g0 rfl rfl (rx_a0_ok h)
theorem rx_d_ladd (h : rx_a0 c pc 97 = true) : decode c pc = .ok (.ladd, 1) := rx_g0 rfl rfl (rx_a0_ok h)
theorem rx_d_isub (h : rx_a0 c pc 100 = true) : decode c pc = .ok (.isub, 1) := rx_g0 rfl rfl (rx_a0_ok h)
theorem rx_d_lsub (h : rx_a0 c pc 101 = true) : decode c pc = .ok (.lsub, 1) := rx_g0 rfl rfl (rx_a0_ok h)
theorem rx_d_imul (h : rx_a0 c pc 104 = true) : decode c pc = .ok (.imul, 1) := rx_g0 rfl rfl (rx_a0_ok h)
theorem rx_d_lmul (h : rx_a0 c pc 105 = true) : decode c pc = .ok (.lmul, 1) := rx_g0 rfl rfl (rx_a0_ok h)
theorem rx_d_idiv (h : rx_a0 c pc 108 = true) : decode c pc = .ok (.idiv, 1) := rx_g0 rfl rfl (rx_a0_ok h)
theorem rx_d_ldiv (h : rx_a0 c pc 109 = true) : decode c pc = .ok (.ldiv, 1) := rx_g0 rfl rfl (rx_a0_ok h)
theorem rx_d_irem (h : rx_a0 c pc 112 = true) : decode c pc = .ok (.irem, 1) := rx_g0 rfl rfl (rx_a0_ok h)
theorem rx_d_lrem (h : rx_a0 c pc 113 = true) : decode c pc = .ok (.lrem, 1) := rx_g0 rfl rfl (rx_a0_ok h)
theorem rx_d_ineg (h : rx_a0 c pc 116 = true) : decode c pc = .ok (.ineg, 1) := rx_g0 rfl rfl (rx_a0_ok h)
theorem rx_d_ishl (h : rx_a0 c pc 120 = true) : decode c pc = .ok (.ishl, 1) := rx_g0 rfl rfl (rx_a0_ok h)
theorem rx_d_lshl (h : rx_a0 c pc 121 = true) : decode c pc = .ok (.lshl, 1) := rx_g0 rfl rfl (rx_a0_ok h)
theorem rx_d_ishr (h : rx_a0 c pc 122 = true) : decode c pc = .ok (.ishr, 1) := rx_g0 rfl rfl (rx_a0_ok h)
theorem rx_d_lshr (h : rx_a0 c pc 123 = true) : decode c pc = .ok (.lshr, 1) := rx_g0 rfl rfl (rx_a0_ok h)
theorem rx_d_iushr (h : rx_a0 c pc 124 = true) : decode c pc = .ok (.iushr, 1) := rx_g0 rfl rfl (rx_a0_ok h)
theorem rx_d_iand (h : rx_a0 c pc 126 = true) : decode c pc = .ok (.iand, 1) := rx_g0 rfl rfl (rx_a0_ok h)
theorem rx_d_land (h : rx_a0 c pc 127 = true) : decode c pc = .ok (.land, 1) := rx_g0 rfl rfl (rx_a0_ok h)
theorem rx_d_ior (h : rx_a0 c pc 128 = true) : decode c pc = .ok (.ior, 1) := rx_g0 rfl rfl (rx_a0_ok h)
theorem rx_d_lor (h : rx_a0 c pc 129 = true) : decode c pc = .ok (.lor, 1) := rx_g0 rfl rfl (rx_a0_ok h)
theorem rx_d_ixor (h : rx_a0 c pc 130 = true) : decode c pc = .ok (.ixor, 1) := rx_g0 rfl rfl (rx_a0_ok h)
theorem rx_d_i2l (h : rx_a0 c pc 133 = true) : decode c pc = .ok (.i2l, 1) := rx_g0 rfl rfl (rx_a0_ok h)
theorem rx_d_l2i (h : rx_a0 c pc 136 = true) : decode c pc = .ok (.l2i, 1) := rx_g0 rfl rfl (rx_a0_ok h)
theorem rx_d_lcmp (h : rx_a0 c pc 148 = true) : decode c pc = .ok (.lcmp, 1) := rx_g0 rfl rfl (rx_a0_ok h)
theorem rx_d_ireturn (h : rx_a0 c pc 172 = true) : decode c pc = .ok (.ireturn, 1) := rx_g0 rfl rfl (rx_a0_ok h)
theorem rx_d_lreturn (h : rx_a0 c pc 173 = true) : decode c pc = .ok (.lreturn, 1) := rx_g0 rfl rfl (rx_a0_ok h)
theorem rx_d_areturn (h : rx_a0 c pc 176 = true) : decode c pc = .ok (.areturn, 1) := rx_g0 rfl rfl (rx_a0_ok h)
theorem rx_d_return_ (h : rx_a0 c pc 177 = true) : decode c pc = .ok (.return_, 1) := rx_g0 rfl rfl (rx_a0_ok h)
theorem rx_d_arraylength (h : rx_a0 c pc 190 = true) : decode c pc = .ok (.arraylength, 1) := rx_g0 rfl rfl (rx_a0_ok h)
theorem rx_d_ldc {i : Nat} (h : rx_au c pc 18 i = true) : decode c pc = .ok (.ldc i, 2) := rx_hu (J := .ldc) h rfl rfl
theorem rx_d_iload {i : Nat} (h : rx_au c pc 21 i = true) : decode c pc = .ok (.iload i, 2) := rx_hu (J := .iload) h rfl rfl
theorem rx_d_lload {i : Nat} (h : rx_au c pc 22 i = true) : decode c pc = .ok (.lload i, 2) := rx_hu (J := .lload) h rfl rfl
theorem rx_d_aload {i : Nat} (h : rx_au c pc 25 i = true) : decode c pc = .ok (.aload i, 2) := rx_hu (J := .aload) h rfl rfl
theorem rx_d_istore {i : Nat} (h : rx_au c pc 54 i = true) : decode c pc = .ok (.istore i, 2) := rx_hu (J := .istore) h rfl rfl
theorem rx_d_lstore {i : Nat} (h : rx_au c pc 55 i = true) : decode c pc = .ok (.lstore i, 2) := rx_hu (J := .lstore) h rfl rfl
theorem rx_d_astore {i : Nat} (h : rx_au c pc 58 i = true) : decode c pc = .ok (.astore i, 2) := rx_hu (J := .astore) h rfl rfl
theorem rx_d_ldc_w {i : Nat} (h : rx_aw c pc 19 i = true) : decode c pc = .ok (.ldc_w i, 3) := rx_hw (J := .ldc_w) h rfl rfl
theorem rx_d_ldc2_w {i : Nat} (h : rx_aw c pc 20 i = true) : decode c pc = .ok (.ldc2_w i, 3) := rx_hw (J := .ldc2_w) h rfl rfl
theorem rx_d_getfield {i : Nat} (h : rx_aw c pc 180 i = true) : decode c pc = .ok (.getfield i, 3) := rx_hw (J := .getfield) h rfl rfl
theorem rx_d_putfield {i : Nat} (h : rx_aw c pc 181 i = true) : decode c pc = .ok (.putfield i, 3) := rx_hw (J := .putfield) h rfl rfl
theorem rx_d_invokevirtual {i : Nat} (h : rx_aw c pc 182 i = true) : decode c pc = .ok (.invokevirtual i, 3) := rx_hw (J := .invokevirtual) h rfl rfl
theorem rx_d_invokespecial {i : Nat} (h : rx_aw c pc 183 i = true) : decode c pc = .ok (.invokespecial i, 3) := rx_hw (J := .invokespecial) h rfl rfl
theorem rx_d_invokestatic {i : Nat} (h : rx_aw c pc 184 i = true) : decode c pc = .ok (.invokestatic i, 3) := rx_hw (J := .invokestatic) h rfl rfl
theorem rx_d_new {i : Nat} (h : rx_aw c pc 187 i = true) : decode c pc = .ok (.new i, 3) := rx_hw (J := .new) h rfl rfl
theorem rx_d_anewarray {i : Nat} (h : rx_aw c pc 189 i = true) : decode c pc = .ok (.anewarray i, 3) := rx_hw (J := .anewarray) h rfl rfl
theorem rx_d_iload_n : ∀ {k : Fin 4}, rx_a0 c pc (26 + (k : Nat)) = true → decode c pc = .ok (.iload_n k, 1)
  | 0, h => rx_g0 (op := 26) rfl rfl (rx_a0_ok h)
  | 1, h => rx_g0 (op := 27) rfl rfl (rx_a0_ok h)
  | 2, h => rx_g0 (op := 28) rfl rfl (rx_a0_ok h)
  | 3, h => rx_g0 (op := 29) rfl rfl (rx_a0_ok h)
theorem rx_d_lload_n : ∀ {k : Fin 4}, rx_a0 c pc (30 + (k : Nat)) = true → decode c pc = .ok (.lload_n k, 1)
  | 0, h => rx_g0 (op := 30) rfl rfl (rx_a0_ok h)
  | 1, h => rx_g0 (op := 31) rfl rfl (rx_a0_ok h)
  | 2, h => rx_g0 (op := 32) rfl rfl (rx_a0_ok h)
  | 3, h => rx_g0 (op := 33) rfl rfl (rx_a0_ok h)
theorem rx_d_aload_n : ∀ {k : Fin 4}, rx_a0 c pc (42 + (k : Nat)) = true → decode c pc = .ok (.aload_n k, 1)
  | 0, h => rx_g0 (op := 42) rfl rfl (rx_a0_ok h)
  | 1, h => rx_g0 (op := 43) rfl rfl (rx_a0_ok h)
  | 2, h => rx_g0 (op := 44) rfl rfl (rx_a0_ok h)
  | 3, h => rx_g0 (op := 45) rfl rfl (rx_a0_ok h)
theorem rx_d_istore_n : ∀ {k : Fin 4}, rx_a0 c pc (59 + (k : Nat)) = true → decode c pc = .ok (.istore_n k, 1)
  | 0, h => rx_g0 (op := 59) rfl rfl (rx_a0_ok h)
  | 1, h => rx_g0 (op := 60) rfl rfl (rx_a0_ok h)
  | 2, h => rx_g0 (op := 61) rfl rfl (rx_a0_ok h)
  | 3, h => rx_g0 (op := 62) rfl rfl (rx_a0_ok h)
theorem rx_d_lstore_n : ∀ {k : Fin 4}, rx_a0 c pc (63 + (k : Nat)) = true → decode c pc = .ok (.lstore_n k, 1)
  | 0, h => rx_g0 (op := 63) rfl rfl (rx_a0_ok h)
  | 1, h => rx_g0 (op := 64) rfl rfl (rx_a0_ok h)
  | 2, h => rx_g0 (op := 65) rfl rfl (rx_a0_ok h)
  | 3, h => rx_g0 (op := 66) rfl rfl (rx_a0_ok h)
theorem rx_d_astore_n : ∀ {k : Fin 4}, rx_a0 c pc (75 + (k : Nat)) = true → decode c pc = .ok (.astore_n k, 1)
  | 0, h => rx_g0 (op := 75) rfl rfl (rx_a0_ok h)
  | 1, h => rx_g0 (op := 76) rfl rfl (rx_a0_ok h)
  | 2, h => rx_g0 (op := 77) rfl rfl (rx_a0_ok h)
  | 3, h => rx_g0 (op := 78) rfl rfl (rx_a0_ok h)
theorem rx_d_lconst : ∀ {k : Fin 2}, rx_a0 c pc (9 + (k : Nat)) = true → decode c pc = .ok (.lconst k, 1)
  | 0, h => rx_g0 (op := 9) rfl rfl (rx_a0_ok h)
  | 1, h => rx_g0 (op := 10) rfl rfl (rx_a0_ok h)
theorem rx_d_bipush {n : Int} (h : rx_as c pc 16 n = true) : decode c pc = .ok (.bipush n, 2) := rx_hs (J := .bipush) h rfl rfl
theorem rx_d_sipush {n : Int} (h : rx_at_ c pc 17 n = true) : decode c pc = .ok (.sipush n, 3) := rx_ht (J := .sipush) h rfl rfl
theorem rx_d_goto {n : Int} (h : rx_at_ c pc 167 n = true) : decode c pc = .ok (.goto n, 3) := rx_ht (J := .goto) h rfl rfl
noncomputable def rx_ac (c : ByteArray) (pc : Nat) (n : Int) : Bool := decide (-1 ≤ n) && (decide (n ≤ 5) && rx_a0 c pc (n + 3).toNat)
theorem rx_d_iconst {n : Int} (h : rx_ac c pc n = true) : decode c pc = .ok (.iconst n, 1) := by
  unfold rx_ac at h
  rw [Bool.and_eq_true, Bool.and_eq_true] at h
  obtain ⟨h0, h1, h⟩ := h
  have h0 := of_decide_eq_true h0
  have h1 := of_decide_eq_true h1
  have e : n = -1 ∨ n = 0 ∨ n = 1 ∨ n = 2 ∨ n = 3 ∨ n = 4 ∨ n = 5 := by omega
  rcases e with e | e | e | e | e | e | e <;> subst e
  · exact rx_g0 (op := 2) rfl rfl (rx_a0_ok h)
  · exact rx_g0 (op := 3) rfl rfl (rx_a0_ok h)
  · exact rx_g0 (op := 4) rfl rfl (rx_a0_ok h)
  · exact rx_g0 (op := 5) rfl rfl (rx_a0_ok h)
  · exact rx_g0 (op := 6) rfl rfl (rx_a0_ok h)
  · exact rx_g0 (op := 7) rfl rfl (rx_a0_ok h)
  · exact rx_g0 (op := 8) rfl rfl (rx_a0_ok h)
theorem rx_d_ifCond : ∀ {cnd : Jvm.ClassFile.Cond} {n : Int}, rx_at_ c pc (153 + rx_cdn cnd) n = true → decode c pc = .ok (.ifCond cnd n, 3)
  | .eq, _, h => rx_ht (op := 153) (J := .ifCond .eq) h rfl rfl
  | .ne, _, h => rx_ht (op := 154) (J := .ifCond .ne) h rfl rfl
  | .lt, _, h => rx_ht (op := 155) (J := .ifCond .lt) h rfl rfl
  | .ge, _, h => rx_ht (op := 156) (J := .ifCond .ge) h rfl rfl
  | .gt, _, h => rx_ht (op := 157) (J := .ifCond .gt) h rfl rfl
  | .le, _, h => rx_ht (op := 158) (J := .ifCond .le) h rfl rfl
theorem rx_d_if_icmp : ∀ {cnd : Jvm.ClassFile.Cond} {n : Int}, rx_at_ c pc (159 + rx_cdn cnd) n = true → decode c pc = .ok (.if_icmp cnd n, 3)
  | .eq, _, h => rx_ht (op := 159) (J := .if_icmp .eq) h rfl rfl
  | .ne, _, h => rx_ht (op := 160) (J := .if_icmp .ne) h rfl rfl
  | .lt, _, h => rx_ht (op := 161) (J := .if_icmp .lt) h rfl rfl
  | .ge, _, h => rx_ht (op := 162) (J := .if_icmp .ge) h rfl rfl
  | .gt, _, h => rx_ht (op := 163) (J := .if_icmp .gt) h rfl rfl
  | .le, _, h => rx_ht (op := 164) (J := .if_icmp .le) h rfl rfl
end RXDEC
noncomputable def ry_g {α : Type} (l : List α) : Nat → Option α := List.rec (motive := fun _ => Nat → Option α) (fun _ => none) (fun a _ ih n => Nat.rec (motive := fun _ => Option α) (some a) (fun m _ => ih m) n) l
theorem ry_g_eq {α : Type} : ∀ (l : List α) (k : Nat), ry_g l k = l[k]?
  | [], _ => rfl
  | _ :: _, 0 => rfl
  | _ :: l, k + 1 => ry_g_eq l k
noncomputable def ry_sk {α β : Type} (x : α) (l : List α) : Nat → (List α → β) → β := List.rec (motive := fun _ => Nat → (List α → β) → β) (fun _ K => K []) (fun a t ih n K => Nat.rec (motive := fun _ => β) (K (x :: t)) (fun m _ => ih m (fun t2 => K (a :: t2))) n) l
theorem ry_sk_eq {α β : Type} {x : α} : ∀ (l : List α) (k : Nat) (K : List α → β), ry_sk x l k K = K (l.set k x)
  | [], _, _ => rfl
  | _ :: _, 0, _ => rfl
  | a :: l, k + 1, K => ry_sk_eq l k (fun t => K (a :: t))
noncomputable def ry_pk {α β : Type} (x : α) (l : List α) : (List α → β) → β := List.rec (motive := fun _ => (List α → β) → β) (fun K => K [x]) (fun a _ ih K => ih (fun t => K (a :: t))) l
theorem ry_pk_eq {α β : Type} {x : α} : ∀ (l : List α) (K : List α → β), ry_pk x l K = K (l ++ [x])
  | [], _ => rfl
  | a :: l, K => ry_pk_eq l (fun t => K (a :: t))
noncomputable def ry_ln {α : Type} (l : List α) : Nat := List.rec (motive := fun _ => Nat) 0 (fun _ _ ih => Nat.succ ih) l
theorem ry_ln_eq {α : Type} : ∀ l : List α, ry_ln l = l.length
  | [] => rfl
  | _ :: l => congrArg Nat.succ (ry_ln_eq l)
noncomputable def ry_nk {β : Type} (n : Nat) (K : Nat → β) : β := Nat.rec (motive := fun _ => β) (K 0) (fun m _ => K (Nat.succ m)) n
theorem ry_nk_eq {β : Type} (n : Nat) (K : Nat → β) : ry_nk n K = K n := by
  cases n <;> rfl
noncomputable def ry_l {α : Type} (l : List (Nat × α)) (i : Nat) : Option α := List.rec (motive := fun _ => Option α) none (fun q _ ih => Bool.rec (motive := fun _ => Option α) ih (some q.2) (Nat.beq q.1 i)) l
theorem ry_l_eq {i : Nat} : ∀ l : List (Nat × ry_V), ry_l l i = ry_lk l i
  | [] => rfl
  | q :: l => by
    have ih := ry_l_eq (i := i) l
    show Bool.rec (motive := fun _ => Option ry_V) (ry_l l i) (some q.2) (Nat.beq q.1 i) = ry_lk (q :: l) i
    rw [ry_lk]
    by_cases h : q.1 = i
    · rw [if_pos h, Nat.beq_eq.mpr h]
    · rw [if_neg h, Bool.eq_false_iff.mpr fun h2 => h (Nat.beq_eq.mp h2)]
      exact ih
noncomputable def ry_q_mc (mc ms : Nat) (z : ry_Z) : Bool := Nat.ble z.2.2.2.1 mc && Nat.ble z.2.2.2.2.1 ms
noncomputable def ry_q_retv (mc ms : Nat) (z : ry_Z) : Option ry_End := ry_if (ry_q_mc mc ms z) (match ry_zst z with
  | [] => some (z.1, z.2.1, z.2.2.1, none)
  | _ => none)
noncomputable def ry_q_icmp (cnd : Jvm.ClassFile.Cond) (tgt nx : Nat) (z : ry_Z) : Option (List ry_Z) := match ry_pi (ry_zst z) with
  | some (b, t) => match ry_pi t with
    | some (a, t) => if ry_okI z.1 a && ry_okI z.1 b then some (ry_fork z cnd a b tgt nx t) else none
    | none => none
  | none => none
noncomputable def ry_q_goto (tgt : Nat) (z : ry_Z) : Option (List ry_Z) := some [ry_jp z.1 z.2.1 z tgt (ry_zst z)]
noncomputable def ry_q_get (q : ry_Q) (z : ry_Z) : Option (List ry_Z) := match ry_pr (ry_zst z) with
  | some (some k, t) => match ry_g z.2.2.1 k with
    | some (.inl (ci, fs)) => match Nat.beq ci q.1 with
      | true => (match ry_g fs q.2.1 with
        | some (.inl v) => some [ry_nx z 3 (v :: t)]
        | _ => none)
      | false => none
    | _ => none
  | _ => none
theorem ry_beqd {α : Type} {a b : Nat} {x y : α} : (match Nat.beq a b with
    | true => x
    | false => y) = if a = b then x else y := by
  by_cases h : a = b
  · rw [if_pos h, Nat.beq_eq.mpr h]
  · rw [if_neg h, Bool.eq_false_iff.mpr fun h2 => h (Nat.beq_eq.mp h2)]
theorem ry_q_get_eq {fr : Nat → Option ry_Q} {idx : Nat} {q : ry_Q} (hq : fr idx = some q) (z : ry_Z) : ry_q_get q z = ry_h_get fr idx z := by
  unfold ry_q_get ry_h_get
  rw [hq]
  rcases ry_pr (ry_zst z) with _ | ⟨_ | k, t⟩
  · rfl
  · rfl
  · dsimp only
    rw [ry_g_eq]
    rcases (z.2.2.1)[k]? with _ | ⟨ci, fs⟩ | c
    · rfl
    · dsimp only
      rw [ry_beqd, ry_g_eq]
      try rfl
    · rfl
noncomputable def ry_q_put (q : ry_Q) (ini : Bool) (z : ry_Z) : Option (List ry_Z) := match ry_pv (ry_zst z) with
  | some (v, t) => match ry_pr t with
    | some (some k, t2) => match ry_g z.2.2.1 k with
      | some (.inl (ci, fs)) => ry_if (Nat.beq ci q.1 && ((ry_g fs q.2.1).isSome && (ry_fit z.1 q.2.2.1 v && (!q.2.2.2.1 || (ini && !q.2.2.2.2))))) (ry_sk (.inl v) fs q.2.1 (fun fs2 => ry_sk (.inl (ci, fs2)) z.2.2.1 k (fun ht2 => some [ry_nxh ht2 z 3 t2])))
      | _ => none
    | _ => none
  | _ => none
theorem ry_q_put_eq {fr : Nat → Option ry_Q} {ini : Bool} {idx : Nat} {q : ry_Q} (hq : fr idx = some q) (z : ry_Z) : ry_q_put q ini z = ry_h_put fr ini idx z := by
  unfold ry_q_put ry_h_put
  rw [hq]
  rcases ry_pv (ry_zst z) with _ | ⟨v, t⟩
  · rfl
  · dsimp only
    rcases ry_pr t with _ | ⟨_ | k, t2⟩
    · rfl
    · rfl
    · dsimp only
      rw [ry_g_eq]
      rcases (z.2.2.1)[k]? with _ | ⟨ci, fs⟩ | c
      · rfl
      · dsimp only
        rw [ry_sk_eq, ry_sk_eq, ry_g_eq]
        have e : (Nat.beq ci q.1 && ((fs[q.2.1]?).isSome && (ry_fit z.1 q.2.2.1 v && (!q.2.2.2.1 || (ini && !q.2.2.2.2))))) = decide (ci = q.1 ∧ q.2.1 < fs.length ∧ ry_fit z.1 q.2.2.1 v = true ∧ (q.2.2.2.1 = false ∨ (ini = true ∧ q.2.2.2.2 = false))) := by
          rw [Bool.eq_iff_iff]
          simp
        rw [e]
        by_cases h : ci = q.1 ∧ q.2.1 < fs.length ∧ ry_fit z.1 q.2.2.1 v = true ∧ (q.2.2.2.1 = false ∨ (ini = true ∧ q.2.2.2.2 = false))
        · rw [if_pos h, decide_eq_true h]
          rfl
        · rw [if_neg h, decide_eq_false h]
          rfl
      · rfl
noncomputable def ry_q_ast (okc : Nat → Bool) (okv : ry_I → List ry_C → Nat → ry_V → Bool) (z : ry_Z) : Option (List ry_Z) := match ry_pv (ry_zst z) with
  | some (v, t0) => match ry_pi t0 with
    | some (ix, t) => match ry_pr t with
      | some (some k, t2) => match ry_g z.2.2.1 k with
        | some (.inr (tc, n, df, ov)) => if okc tc && okv z.1 z.2.2.1 tc v then (match ry_bi z.1 ix with
          | some (lo, hi) => if 0 ≤ lo ∧ hi < (n : Int) ∧ lo = hi then ry_sk (.inr (tc, n, df, ry_ovset ov df lo.toNat v)) z.2.2.1 k (fun ht2 => some [ry_nxh ht2 z 1 t2]) else none
          | none => none) else none
        | _ => none
      | _ => none
    | none => none
  | none => none
theorem ry_q_ast_eq (okc : Nat → Bool) (okv : ry_I → List ry_C → Nat → ry_V → Bool) (z : ry_Z) : ry_q_ast okc okv z = ry_h_ast okc okv z := by
  unfold ry_q_ast ry_h_ast
  simp only [ry_g_eq, ry_sk_eq]
  try rfl
noncomputable def ry_q_nxa (x : ry_C) (n : Nat) (z : ry_Z) (d : Nat) (t : List ry_V) : Option (List ry_Z) := match z with
  | (I0, F1, ht0, c0, s0, pc0, lv0, _) => ry_pk x ht0 (fun ht1 => ry_nk (ry_ln ht0) (fun k => some [(I0, F1, ht1, c0 + 1, s0 + n, pc0 + d, lv0, .inl (some k) :: t)]))
theorem ry_q_nxa_eq (x : ry_C) (n : Nat) (z : ry_Z) (d : Nat) (t : List ry_V) : ry_q_nxa x n z d t = some [ry_nxa x n z d t] := by
  obtain ⟨I0, F1, ht0, c0, s0, pc0, lv0, st⟩ := z
  unfold ry_q_nxa
  dsimp only
  rw [ry_pk_eq, ry_nk_eq, ry_ln_eq]
  rfl
noncomputable def ry_q_new (q : Nat × List Nat) (mc ms : Nat) (z : ry_Z) : Option (List ry_Z) :=
  if z.2.2.2.1 + 1 ≤ mc ∧ z.2.2.2.2.1 + q.2.length ≤ ms then ry_q_nxa (.inl (q.1, q.2.map (fun tc => .inl (ry_dv tc)))) q.2.length z 3 (ry_zst z) else none
theorem ry_q_new_eq {cr : Nat → Option (Nat × List Nat)} {mc ms idx : Nat} {q : Nat × List Nat} (hq : cr idx = some q) (z : ry_Z) : ry_q_new q mc ms z = ry_h_new cr mc ms idx z := by
  unfold ry_q_new ry_h_new
  rw [hq, ry_q_nxa_eq]
noncomputable def ry_q_newa (mc ms tc : Nat) (z : ry_Z) : Option (List ry_Z) := match ry_pi (ry_zst z) with
  | some (e, t) => match ry_len z.1 e with
    | some n => if z.2.2.2.1 + 1 ≤ mc ∧ z.2.2.2.2.1 + n ≤ ms then ry_q_nxa (.inr (tc, n, .inl (ry_dv tc), [])) n z 2 t else none
    | none => none
  | none => none
theorem ry_q_newa_eq {mc ms tc : Nat} {a : ArrayType} (ha : ry_atc a = some tc) (z : ry_Z) : ry_q_newa mc ms tc z = ry_h_newa mc ms a z := by
  unfold ry_q_newa ry_h_newa
  rw [ha]
  simp only [ry_q_nxa_eq]
  rcases ry_pi (ry_zst z) with _ | ⟨e, t⟩ <;> rfl
noncomputable def ry_q_newq (ci mc ms : Nat) (z : ry_Z) : Option (List ry_Z) := match ry_pi (ry_zst z) with
  | some (e, t) => match ry_len z.1 e with
    | some n => if z.2.2.2.1 + 1 ≤ mc ∧ z.2.2.2.2.1 + n ≤ ms then ry_q_nxa (.inr (ci + 5, n, .inl (.inl none), [])) n z 3 t else none
    | none => none
  | none => none
theorem ry_q_newq_eq {ar : Nat → Option Nat} {mc ms idx ci : Nat} (ha : ar idx = some ci) (z : ry_Z) : ry_q_newq ci mc ms z = ry_h_newq ar mc ms idx z := by
  unfold ry_q_newq ry_h_newq
  rw [ha]
  simp only [ry_q_nxa_eq]
  rcases ry_pi (ry_zst z) with _ | ⟨e, t⟩ <;> rfl
noncomputable def ry_q_load (kd i d : Nat) (z : ry_Z) : Option (List ry_Z) := match ry_l (ry_zlv z) i with
  | some (.inr (j, e)) => match Nat.beq j kd with
    | true => some [ry_nx z d (.inr (j, e) :: ry_zst z)]
    | false => none
  | _ => none
theorem ry_q_load_eq (kd i d : Nat) (z : ry_Z) : ry_q_load kd i d z = ry_h_load kd i d z := by
  unfold ry_q_load ry_h_load
  simp only [ry_l_eq, ry_beqd]
  rfl
noncomputable def ry_q_loadA (i d : Nat) (z : ry_Z) : Option (List ry_Z) := match ry_l (ry_zlv z) i with
  | some (.inl o) => some [ry_nx z d (.inl o :: ry_zst z)]
  | some (.inr (j + 2, e)) => some [ry_nx z d (.inr (j + 2, e) :: ry_zst z)]
  | _ => none
theorem ry_q_loadA_eq (i d : Nat) (z : ry_Z) : ry_q_loadA i d z = ry_h_loadA i d z := by
  unfold ry_q_loadA ry_h_loadA
  simp only [ry_l_eq]
  rfl
noncomputable def ry_q_rcv (ht : List ry_C) (ci : Nat) (t : List ry_V) : Option (Nat × List ry_V) := match ry_pr t with
  | some (some k, t2) => match ry_g ht k with
    | some (.inl (ci_p, _)) => ry_if (ci_p == ci) (some (k, t2))
    | _ => none
  | _ => none
theorem ry_q_rcv_eq (ht : List ry_C) (ci : Nat) (t : List ry_V) : ry_q_rcv ht ci t = ry_rcv ht ci t := by
  unfold ry_q_rcv ry_rcv
  simp only [ry_g_eq]
  try rfl
noncomputable def ry_q_vcall (M M_p : ry_Mt) (n ci : Nat) (z : ry_Z) : Option (List ry_V × List ry_V) := match ry_take n [] (ry_zst z) with
  | some (as, t) => match ry_q_rcv z.2.2.1 ci t with
    | some (k, t2) => ry_if (ry_may M M_p z (.inl (some k) :: as) t2) (some (.inl (some k) :: as, t2))
    | none => none
  | none => none
noncomputable def ry_q_fill (d : Nat) (z : ry_Z) : Option (List ry_Z) := match ry_pi (ry_zst z) with
  | some (v, t) => match ry_pr t with
    | some (some k, t2) => match ry_g z.2.2.1 k with
      | some (.inr (tc, n, _, _)) => ry_if (tc == 0 && (decide (1 ≤ d) && (decide (ry_cats t2 ≤ 8) && decide (n < 2000000000)))) (ry_sk (.inr (0, n, .inl (.inr (0, v)), [])) z.2.2.1 k (fun h => some [ry_nxh h z 3 t2]))
      | _ => none
    | _ => none
  | none => none
theorem ry_q_fill_eq (d : Nat) (z : ry_Z) : ry_q_fill d z = ry_x_fill d z := by
  unfold ry_q_fill ry_x_fill
  simp only [ry_g_eq, ry_sk_eq]
  try rfl
theorem ry_ifN {α : Type} (b : Bool) : ry_if b (none : Option α) = none := by
  cases b <;> rfl
theorem ry_q_may {M : ry_Mt} {mc ms : Nat} {z : ry_Z} {α : Type} {x : Option α} (h1 : M.2.2.2.2.2.2.1 = mc) (h2 : M.2.2.2.2.2.2.2 = ms) : ry_if (1 == 1 && (decide (z.2.2.2.1 ≤ M.2.2.2.2.2.2.1) && decide (z.2.2.2.2.1 ≤ M.2.2.2.2.2.2.2))) x = ry_if (ry_q_mc mc ms z) x := by
  subst h1; subst h2
  have e : ∀ a b : Nat, decide (a ≤ b) = Nat.ble a b := fun a b => by
    rw [Bool.eq_iff_iff, decide_eq_true_eq, Nat.ble_eq]
  unfold ry_q_mc
  rw [e, e]
  rfl
theorem ry_xm_eq {M : ry_Mt} {mc ms : Nat} {z : ry_Z} (h1 : M.2.2.2.2.2.2.1 = mc) (h2 : M.2.2.2.2.2.2.2 = ms) : ry_xm M z = ry_q_mc mc ms z := by
  subst h1; subst h2
  have e : ∀ a b : Nat, decide (a ≤ b) = Nat.ble a b := fun a b => by
    rw [Bool.eq_iff_iff, decide_eq_true_eq, Nat.ble_eq]
  unfold ry_q_mc ry_xm
  rw [e, e]
section RYK
variable {T : ry_Tb} {lw : Bool} {M : ry_Mt} {pc : Nat} {xt sl : Nat → Nat → Option Nat} {ln : List Nat} {im : ry_Im}
theorem ry_k_iconst {n m : Int} (hn : n = m) (hd : rx_ac M.2.1 pc n = true) : ry_entOK (ry_xh xt sl ln im) T lw M pc (.inl (fun _ => ry_h_push (ry_n m) 1)) := by
  subst hn
  exact ⟨_, _, (rx_d_iconst hd), fun _ _ _ _ _ _ _ _ => ⟨ry_ifN _, fun _ h => h⟩⟩
theorem ry_k_bipush {n m : Int} (hn : (Int8.ofInt n).toInt32.toInt = m) (hd : rx_as M.2.1 pc 16 n = true) : ry_entOK (ry_xh xt sl ln im) T lw M pc (.inl (fun _ => ry_h_push (ry_n m) 2)) := by
  subst hn
  exact ⟨_, _, (rx_d_bipush hd), fun _ _ _ _ _ _ _ _ => ⟨ry_ifN _, fun _ h => h⟩⟩
theorem ry_k_lconst {n : Fin 2} {m : Int} (hn : ((n : Nat) : Int) = m) (hd : rx_a0 M.2.1 pc (9 + (n : Nat)) = true) : ry_entOK (ry_xh xt sl ln im) T lw M pc (.inl (fun _ => ry_h_push (.inr (1, (0, m))) 1)) := by
  subst hn
  exact ⟨_, _, (rx_d_lconst hd), fun _ _ _ _ _ _ _ _ => ⟨ry_ifN _, fun _ h => h⟩⟩
theorem ry_k_iload_n {k : Fin 4} {i : Nat} (hk : (k : Nat) = i) (hd : rx_a0 M.2.1 pc (26 + (k : Nat)) = true) : ry_entOK (ry_xh xt sl ln im) T lw M pc (.inl (fun _ => ry_q_load 0 i 1)) := by
  subst hk
  refine ⟨_, _, (rx_d_iload_n hd), fun d I F ht c s lv st => ⟨ry_ifN _, fun zs h => ?_⟩⟩
  try dsimp only at h
  rw [ry_q_load_eq] at h
  exact h
theorem ry_k_aload_n {k : Fin 4} {i : Nat} (hk : (k : Nat) = i) (hd : rx_a0 M.2.1 pc (42 + (k : Nat)) = true) : ry_entOK (ry_xh xt sl ln im) T lw M pc (.inl (fun _ => ry_q_loadA i 1)) := by
  subst hk
  refine ⟨_, _, (rx_d_aload_n hd), fun d I F ht c s lv st => ⟨ry_ifN _, fun zs h => ?_⟩⟩
  try dsimp only at h
  rw [ry_q_loadA_eq] at h
  exact h
theorem ry_k_istore_n {k : Fin 4} {i nL : Nat} (hk : (k : Nat) = i) (hL : M.2.2.1 = nL) (hd : rx_a0 M.2.1 pc (59 + (k : Nat)) = true) : ry_entOK (ry_xh xt sl ln im) T lw M pc (.inl (fun _ => ry_h_istore nL i 1)) := by
  subst hk; subst hL
  exact ⟨_, _, (rx_d_istore_n hd), fun _ _ _ _ _ _ _ _ => ⟨ry_ifN _, fun _ h => h⟩⟩
theorem ry_k_astore_n {k : Fin 4} {i nL : Nat} (hk : (k : Nat) = i) (hL : M.2.2.1 = nL) (hd : rx_a0 M.2.1 pc (75 + (k : Nat)) = true) : ry_entOK (ry_xh xt sl ln im) T lw M pc (.inl (fun _ => ry_h_astore nL i 1)) := by
  subst hk; subst hL
  exact ⟨_, _, (rx_d_astore_n hd), fun _ _ _ _ _ _ _ _ => ⟨ry_ifN _, fun _ h => h⟩⟩
theorem ry_k_iinc {i nL : Nat} {n m : Int} (hn : n = m) (hL : M.2.2.1 = nL) (hd : rx_ai M.2.1 pc 132 i n = true) : ry_entOK (ry_xh xt sl ln im) T lw M pc (.inl (fun _ => ry_h_iinc nL i m)) := by
  subst hL; subst hn
  exact ⟨_, _, (rx_d_iinc hd), fun _ _ _ _ _ _ _ _ => ⟨ry_ifN _, fun _ h => h⟩⟩
theorem ry_k_dup (hd : rx_a0 M.2.1 pc 89 = true) : ry_entOK (ry_xh xt sl ln im) T lw M pc (.inl (fun _ => ry_h_dup)) := ⟨_, _, (rx_d_dup hd), fun _ _ _ _ _ _ _ _ => ⟨ry_ifN _, fun _ h => h⟩⟩
theorem ry_k_iastore (hd : rx_a0 M.2.1 pc 79 = true) : ry_entOK (ry_xh xt sl ln im) T lw M pc (.inl (fun _ => ry_q_ast (ry_isTc 0) (fun I _ _ v => ry_fit I 0 v))) := by
  refine ⟨_, _, (rx_d_iastore hd), fun d I F ht c s lv st => ⟨ry_ifN _, fun zs h => ?_⟩⟩
  try dsimp only at h
  rw [ry_q_ast_eq] at h
  exact h
theorem ry_k_lastore (hd : rx_a0 M.2.1 pc 80 = true) : ry_entOK (ry_xh xt sl ln im) T lw M pc (.inl (fun _ => ry_q_ast (ry_isTc 2) (fun I _ _ v => ry_fit I 2 v))) := by
  refine ⟨_, _, (rx_d_lastore hd), fun d I F ht c s lv st => ⟨ry_ifN _, fun zs h => ?_⟩⟩
  try dsimp only at h
  rw [ry_q_ast_eq] at h
  exact h
theorem ry_k_aastore (hd : rx_a0 M.2.1 pc 83 = true) : ry_entOK (ry_xh xt sl ln im) T lw M pc (.inl (fun _ => ry_q_ast ry_isRef ry_fitA)) := by
  refine ⟨_, _, (rx_d_aastore hd), fun d I F ht c s lv st => ⟨ry_ifN _, fun zs h => ?_⟩⟩
  try dsimp only at h
  rw [ry_q_ast_eq] at h
  exact h
theorem ry_k_newarray {a : ArrayType} {mc ms tc : Nat} (ha : ry_atc a = some tc) (h1 : M.2.2.2.2.2.2.1 = mc) (h2 : M.2.2.2.2.2.2.2 = ms) (hd : decode M.2.1 pc = .ok (.newarray a, 2)) : ry_entOK (ry_xh xt sl ln im) T lw M pc (.inl (fun _ => ry_q_newa mc ms tc)) := by
  subst h1; subst h2
  refine ⟨_, _, hd, fun d I F ht c s lv st => ⟨ry_ifN _, fun zs h => ?_⟩⟩
  dsimp only at h
  rw [ry_q_newa_eq ha] at h
  exact h
theorem ry_k_ldc2 {idx : Nat} {v : Int} (hv : T.2.2.2.1 M.1 idx = some (.inr (1, (0, v)))) (hd : rx_aw M.2.1 pc 20 idx = true) : ry_entOK (ry_xh xt sl ln im) T lw M pc (.inl (fun _ => ry_h_push (.inr (1, (0, v))) 3)) := by
  refine ⟨_, _, (rx_d_ldc2_w hd), fun d I F ht c s lv st => ⟨ry_ifN _, fun zs h => ?_⟩⟩
  show ry_h_const T.2.2.2.1 M.1 idx 1 3 _ = some zs
  unfold ry_h_const
  rw [hv]
  exact h
theorem ry_k_sipush {n m : Int} (hn : (Int16.ofInt n).toInt32.toInt = m) (hi : im M n pc = false) (hd : rx_at_ M.2.1 pc 17 n = true) : ry_entOK (ry_xh xt sl ln im) T lw M pc (.inl (fun _ => ry_h_push (ry_n m) 3)) := by
  subst hn
  refine ⟨_, _, (rx_d_sipush hd), fun d I F ht c s lv st => ⟨ry_ifN _, fun zs h => ?_⟩⟩
  show ry_or (ry_if (im M n pc) (ry_x_image _)) _ = some zs
  rw [hi]
  exact h
theorem ry_k_init {idx : Nat} (hx : xt M.1 idx = some 10) (hd : rx_aw M.2.1 pc 183 idx = true) : ry_entOK (ry_xh xt sl ln im) T lw M pc (.inl ry_x_init) := by
  refine ⟨_, _, (rx_d_invokespecial hd), fun d I F ht c s lv st => ⟨ry_ifN _, fun zs h => ?_⟩⟩
  show ry_or (ry_if (3 == 3 && xt M.1 idx == some 10) (ry_x_init d _)) _ = some zs
  rw [hx]
  show ry_or (ry_x_init d (I, F, ht, c, s, pc, lv, st)) _ = some zs
  rw [h]
  rfl
theorem ry_k_fill {idx mc ms : Nat} (h1 : M.2.2.2.2.2.2.1 = mc) (h2 : M.2.2.2.2.2.2.2 = ms) (hx : xt M.1 idx = some 12) (hd : rx_aw M.2.1 pc 184 idx = true) : ry_entOK (ry_xh xt sl ln im) T lw M pc (.inl (fun d z => ry_if (ry_q_mc mc ms z) (ry_q_fill d z))) := by
  refine ⟨_, _, (rx_d_invokestatic hd), fun d I F ht c s lv st => ⟨ry_ifN _, fun zs h => ?_⟩⟩
  have e : ry_xh xt sl ln im d M (.invokestatic idx) 3 (I, F, ht, c, s, pc, lv, st) = ry_if (ry_xm M (I, F, ht, c, s, pc, lv, st)) (ry_x_fill d (I, F, ht, c, s, pc, lv, st)) := by
    show (match xt M.1 idx with
      | some 11 => ry_x_copy d (I, F, ht, c, s, pc, lv, st)
      | some 12 => ry_if (ry_xm M (I, F, ht, c, s, pc, lv, st)) (ry_x_fill d (I, F, ht, c, s, pc, lv, st))
      | some 13 => ry_if (ry_xm M (I, F, ht, c, s, pc, lv, st)) (ry_x_min d (I, F, ht, c, s, pc, lv, st))
      | _ => none) = _
    rw [hx]
    try rfl
  dsimp only at h
  rw [ry_q_fill_eq, ← ry_xm_eq h1 h2] at h
  rw [e, h]
  rfl
theorem ry_k_icmp {cnd : Jvm.ClassFile.Cond} {off : Int} {tgt nx : Nat} (ho : ry_off pc off = some tgt) (hn : pc + 3 = nx) (hd : rx_at_ M.2.1 pc (159 + rx_cdn cnd) off = true) : ry_entOK (ry_xh xt sl ln im) T lw M pc (.inl (fun _ => ry_q_icmp cnd tgt nx)) := by
  subst hn
  refine ⟨_, _, (rx_d_if_icmp hd), fun d I F ht c s lv st => ⟨ry_ifN _, fun zs h => ?_⟩⟩
  show ry_h_icmp cnd off (I, F, ht, c, s, pc, lv, st) = some zs
  have ho2 : ry_off (ry_zpc (I, F, ht, c, s, pc, lv, st)) off = some tgt := ho
  have h : ry_q_icmp cnd tgt (pc + 3) (I, F, ht, c, s, pc, lv, st) = some zs := h
  unfold ry_q_icmp at h
  unfold ry_h_icmp
  rw [ho2]
  split at h
  · rename_i e
    rw [e]
    exact h
  · cases h
theorem ry_k_goto {off : Int} {tgt : Nat} (ho : ry_off pc off = some tgt) (hd : rx_at_ M.2.1 pc 167 off = true) : ry_entOK (ry_xh xt sl ln im) T lw M pc (.inl (fun _ => ry_q_goto tgt)) := by
  refine ⟨_, _, (rx_d_goto hd), fun d I F ht c s lv st => ⟨ry_ifN _, fun zs h => ?_⟩⟩
  show ry_h_goto off (I, F, ht, c, s, pc, lv, st) = some zs
  have ho2 : ry_off (ry_zpc (I, F, ht, c, s, pc, lv, st)) off = some tgt := ho
  unfold ry_h_goto
  rw [ho2]
  exact h
theorem ry_k_get {idx : Nat} {q : ry_Q} (hq : T.1 M.1 idx = some q) (hd : rx_aw M.2.1 pc 180 idx = true) : ry_entOK (ry_xh xt sl ln im) T lw M pc (.inl (fun _ => ry_q_get q)) := by
  refine ⟨_, _, (rx_d_getfield hd), fun d I F ht c s lv st => ⟨ry_ifN _, fun zs h => ?_⟩⟩
  dsimp only at h
  rw [ry_q_get_eq hq] at h
  exact h
theorem ry_k_put {idx : Nat} {q : ry_Q} {ini : Bool} (hq : T.1 M.1 idx = some q) (hi : M.2.2.2.2.2.1 = ini) (hd : rx_aw M.2.1 pc 181 idx = true) : ry_entOK (ry_xh xt sl ln im) T lw M pc (.inl (fun _ => ry_q_put q ini)) := by
  subst hi
  refine ⟨_, _, (rx_d_putfield hd), fun d I F ht c s lv st => ⟨ry_ifN _, fun zs h => ?_⟩⟩
  dsimp only at h
  rw [ry_q_put_eq hq] at h
  exact h
theorem ry_k_new {idx mc ms : Nat} {q : Nat × List Nat} (hq : T.2.1 M.1 idx = some q) (h1 : M.2.2.2.2.2.2.1 = mc) (h2 : M.2.2.2.2.2.2.2 = ms) (hd : rx_aw M.2.1 pc 187 idx = true) : ry_entOK (ry_xh xt sl ln im) T lw M pc (.inl (fun _ => ry_q_new q mc ms)) := by
  subst h1; subst h2
  refine ⟨_, _, (rx_d_new hd), fun d I F ht c s lv st => ⟨ry_ifN _, fun zs h => ?_⟩⟩
  dsimp only at h
  rw [ry_q_new_eq hq] at h
  exact h
theorem ry_k_newq {idx ci mc ms : Nat} (hq : T.2.2.1 M.1 idx = some ci) (h1 : M.2.2.2.2.2.2.1 = mc) (h2 : M.2.2.2.2.2.2.2 = ms) (hd : rx_aw M.2.1 pc 189 idx = true) : ry_entOK (ry_xh xt sl ln im) T lw M pc (.inl (fun _ => ry_q_newq ci mc ms)) := by
  subst h1; subst h2
  refine ⟨_, _, (rx_d_anewarray hd), fun d I F ht c s lv st => ⟨ry_ifN _, fun zs h => ?_⟩⟩
  dsimp only at h
  rw [ry_q_newq_eq hq] at h
  exact h
theorem ry_k_retv {mc ms : Nat} (h1 : M.2.2.2.2.2.2.1 = mc) (h2 : M.2.2.2.2.2.2.2 = ms) (hr : M.2.2.2.1 = none) (hd : rx_a0 M.2.1 pc 177 = true) : ry_entOK (ry_xh xt sl ln im) T lw M pc (.inr (.inl (ry_q_retv mc ms))) := by
  refine ⟨_, _, (rx_d_return_ hd), fun I F ht c s lv st E h => ?_⟩
  unfold ry_retk
  rw [hr, ry_q_may h1 h2]
  exact h
theorem ry_k_call0 {idx how n ci j_p : Nat} {M_p : ry_Mt} (hq : T.2.2.2.2.1 M.1 idx = some (how, n, ci, j_p)) (hM : T.2.2.2.2.2 j_p = some M_p) (hw : (how % 3 == 0 && decide (how < 6)) = true) (hx : xt M.1 idx = none) (hd : rx_aw M.2.1 pc 182 idx = true) : ry_entOK (ry_xh xt sl ln im) T lw M pc (.inr (.inr (j_p, M_p, ry_q_vcall M M_p n ci))) := by
  refine ⟨_, _, (rx_d_invokevirtual hd), hM, fun d I F ht c s lv st => ⟨rfl, ?_, fun as t h => ⟨(how, n, ci, j_p), ?_⟩⟩⟩
  · show ry_or (ry_if (3 == 3 && xt M.1 idx == some 14) _) _ = none
    rw [hx]
    rfl
  · unfold ry_prep ry_cidx
    unfold ry_q_vcall at h
    dsimp only at h ⊢
    rw [hq]
    dsimp only
    rw [hM]
    split at h
    · rename_i as2 t2 e
      rw [e]
      dsimp only
      rw [hw]
      split at h
      · rename_i k t3 e2
        obtain ⟨h1, h2⟩ := ry_if_ok h
        cases h2
        have hne : ¬ ((0 : Nat) = 1) := by decide
        rw [ry_q_rcv_eq] at e2
        rw [if_neg hne, e2]
        dsimp only
        rw [h1]
        rfl
      · cases h
    · cases h
theorem ry_k_call2 {idx how n ci j_p : Nat} {M_p : ry_Mt} (hq : T.2.2.2.2.1 M.1 idx = some (how, n, ci, j_p)) (hM : T.2.2.2.2.2 j_p = some M_p) (hw : (how % 3 == 2 && decide (how < 6)) = true) (hx : xt M.1 idx = none) (hd : rx_aw M.2.1 pc 183 idx = true) : ry_entOK (ry_xh xt sl ln im) T lw M pc (.inr (.inr (j_p, M_p, ry_q_vcall M M_p n ci))) := by
  refine ⟨_, _, (rx_d_invokespecial hd), hM, fun d I F ht c s lv st => ⟨rfl, ?_, fun as t h => ⟨(how, n, ci, j_p), ?_⟩⟩⟩
  · show ry_or (ry_if (3 == 3 && xt M.1 idx == some 10) _) _ = none
    rw [hx]
    rfl
  · unfold ry_prep ry_cidx
    unfold ry_q_vcall at h
    dsimp only at h ⊢
    rw [hq]
    dsimp only
    rw [hM]
    split at h
    · rename_i as2 t2 e
      rw [e]
      dsimp only
      rw [hw]
      split at h
      · rename_i k t3 e2
        obtain ⟨h1, h2⟩ := ry_if_ok h
        cases h2
        have hne : ¬ ((2 : Nat) = 1) := by decide
        rw [ry_q_rcv_eq] at e2
        rw [if_neg hne, e2]
        dsimp only
        rw [h1]
        rfl
      · cases h
    · cases h
end RYK
