/-- BYTES of the code from a place on (wip/sim/gendec.py) -/
noncomputable def rx_drp (n : Nat) : List UInt8 → List UInt8 := Nat.rec (motive := fun _ => List UInt8 → List UInt8) (fun l => l) (fun _ ih l => List.rec (motive := fun _ => List UInt8) [] (fun _ t _ => ih t) l) n
theorem rx_drp_cons : ∀ (n : Nat) (l : List UInt8) (x : UInt8) (t : List UInt8), rx_drp n l = x :: t → ∃ h : n < l.length, l[n] = x ∧ rx_drp (n + 1) l = t
  | 0, [], _, _, h => by
    have h : ([] : List UInt8) = _ :: _ := h
    cases h
  | 0, _ :: _, _, _, h => by
    have h : (_ :: _ : List UInt8) = _ :: _ := h
    cases h
    exact ⟨Nat.succ_pos _, rfl, rfl⟩
  | n + 1, [], _, _, h => by
    have h : ([] : List UInt8) = _ :: _ := h
    cases h
  | n + 1, _ :: l, x, t, h => by
    obtain ⟨h1, h2, h3⟩ := rx_drp_cons n l x t h
    exact ⟨Nat.succ_lt_succ h1, h2, h3⟩
section RXDEC
variable {c : ByteArray} {p pc op k : Nat} {x y : UInt8} {t : List UInt8} {P : Nat → Bool}
theorem rx_u1 (h : rx_drp p c.data.toList = x :: t) : (Reader.u1 : Decoder Nat) c p = .ok (x.toNat, p + 1) ∧ rx_drp (p + 1) c.data.toList = t := by
  obtain ⟨⟨l⟩⟩ := c
  obtain ⟨h1, h2, h3⟩ := rx_drp_cons p l x t h
  refine ⟨?_, h3⟩
  have e : (Reader.u1 : Decoder Nat) (ByteArray.mk ⟨l⟩) p = (if h : p < (ByteArray.mk ⟨l⟩).size then (do set (p + 1); Pure.pure (ByteArray.mk ⟨l⟩)[p].toNat : Decoder Nat) else throw (HasTruncated.truncated p)) (ByteArray.mk ⟨l⟩) p := rfl
  rw [e, dif_pos (show p < (ByteArray.mk ⟨l⟩).size from h1)]
  show Except.ok (l[p].toNat, p + 1) = _
  rw [h2]
theorem rx_bdm {α β : Type} {m : Decoder α} {f : α → Decoder β} {a : α} {q : Nat} (h : m c p = .ok (a, q)) : (m >>= f) c p = f a c q := by
  show Except.bind (m c p) _ = _
  rw [h]
  rfl
theorem rx_mp {α β : Type} {m : Decoder α} {f : α → β} {a : α} {q : Nat} (h : m c p = .ok (a, q)) : (f <$> m) c p = .ok (f a, q) := by
  show Except.bind (m c p) _ = _
  rw [h]
  rfl
theorem rx_u2 (h : rx_drp p c.data.toList = x :: y :: t) : (Reader.u2 : Decoder Nat) c p = .ok (x.toNat * 256 + y.toNat, p + 2) := by
  obtain ⟨h1, h2⟩ := rx_u1 h
  show (Reader.u1 >>= fun hi => Reader.u1 >>= fun lo => (Pure.pure (hi * 256 + lo) : Decoder Nat)) c p = _
  rw [rx_bdm h1, rx_bdm (rx_u1 h2).1]
  rfl
theorem rx_iOf {i : Instr} (h : Decoder.instr pc c pc = .ok (i, pc + k)) : decode c pc = .ok (i, k) := by
  show Except.bind (Decoder.instr pc c pc) _ = _
  rw [h]
  show Except.ok (i, pc + k - pc) = _
  rw [Nat.add_sub_cancel_left]
/-- no operand -/
theorem rx_g0 {F : Nat → Decoder Instr} {i : Instr} (hF : Decoder.instr pc = (Reader.u1 >>= F)) (hG : F op = Pure.pure i) (hb : (Reader.u1 : Decoder Nat) c pc = .ok (op, pc + 1)) : decode c pc = .ok (i, 1) := by
  refine rx_iOf ?_
  rw [hF, rx_bdm hb, hG]
  rfl
/-- one -/
theorem rx_g1 {F : Nat → Decoder Instr} {α : Type} {m : Decoder α} {J : α → Instr} {a : α} (hF : Decoder.instr pc = (Reader.u1 >>= F)) (hG : F op = (m >>= fun x => Pure.pure (J x))) (hb : (Reader.u1 : Decoder Nat) c pc = .ok (op, pc + 1)) (hx : m c (pc + 1) = .ok (a, pc + k)) : decode c pc = .ok (J a, k) := by
  refine rx_iOf ?_
  rw [hF, rx_bdm hb, hG, rx_bdm hx]
  rfl
/-- two -/
theorem rx_g2 {F : Nat → Decoder Instr} {α β : Type} {m : Decoder α} {m2 : Decoder β} {J : α → β → Instr} {a : α} {b : β} (hF : Decoder.instr pc = (Reader.u1 >>= F)) (hG : F op = (m >>= fun x => m2 >>= fun y => Pure.pure (J x y))) (hb : (Reader.u1 : Decoder Nat) c pc = .ok (op, pc + 1)) (hx : m c (pc + 1) = .ok (a, pc + 2)) (hy : m2 c (pc + 2) = .ok (b, pc + k)) : decode c pc = .ok (J a b, k) := by
  refine rx_iOf ?_
  rw [hF, rx_bdm hb, hG, rx_bdm hx, rx_bdm hy]
  rfl
noncomputable def rx_a0 (c : ByteArray) (pc op : Nat) : Bool := List.rec (motive := fun _ => Bool) false (fun a _ _ => Nat.beq a.toNat op) (rx_drp pc c.data.toList)
noncomputable def rx_a1 (c : ByteArray) (pc op : Nat) (P : Nat → Bool) : Bool := List.rec (motive := fun _ => Bool) false (fun a t _ => List.rec (motive := fun _ => Bool) false (fun b _ _ => Nat.beq a.toNat op && P b.toNat) t) (rx_drp pc c.data.toList)
noncomputable def rx_a2 (c : ByteArray) (pc op : Nat) (P : Nat → Bool) : Bool := List.rec (motive := fun _ => Bool) false (fun a t _ => List.rec (motive := fun _ => Bool) false (fun b t _ => List.rec (motive := fun _ => Bool) false (fun d _ _ => Nat.beq a.toNat op && P (b.toNat * 256 + d.toNat)) t) t) (rx_drp pc c.data.toList)
noncomputable def rx_a3 (c : ByteArray) (pc op : Nat) (P : Nat → Nat → Bool) : Bool := List.rec (motive := fun _ => Bool) false (fun a t _ => List.rec (motive := fun _ => Bool) false (fun b t _ => List.rec (motive := fun _ => Bool) false (fun d _ _ => Nat.beq a.toNat op && P b.toNat d.toNat) t) t) (rx_drp pc c.data.toList)
theorem rx_a0_ok (h : rx_a0 c pc op = true) : (Reader.u1 : Decoder Nat) c pc = .ok (op, pc + 1) := by
  unfold rx_a0 at h
  cases e : rx_drp pc c.data.toList with
  | nil =>
    rw [e] at h
    exact absurd (show false = true from h) Bool.false_ne_true
  | cons a t =>
    rw [e] at h
    have h : Nat.beq a.toNat op = true := h
    rw [← Nat.eq_of_beq_eq_true h]
    exact (rx_u1 e).1
theorem rx_a1_ok (h : rx_a1 c pc op P = true) : (Reader.u1 : Decoder Nat) c pc = .ok (op, pc + 1) ∧ ∃ a : Nat, (Reader.u1 : Decoder Nat) c (pc + 1) = .ok (a, pc + 2) ∧ P a = true := by
  unfold rx_a1 at h
  cases e : rx_drp pc c.data.toList with
  | nil =>
    rw [e] at h
    exact absurd (show false = true from h) Bool.false_ne_true
  | cons a t =>
    rw [e] at h
    obtain ⟨u, v⟩ := rx_u1 e
    cases t with
    | nil => exact absurd (show false = true from h) Bool.false_ne_true
    | cons b t =>
      have h : (Nat.beq a.toNat op && P b.toNat) = true := h
      rw [Bool.and_eq_true] at h
      rw [← Nat.eq_of_beq_eq_true h.1]
      exact ⟨u, _, (rx_u1 v).1, h.2⟩
theorem rx_a2_ok (h : rx_a2 c pc op P = true) : (Reader.u1 : Decoder Nat) c pc = .ok (op, pc + 1) ∧ ∃ a : Nat, (Reader.u2 : Decoder Nat) c (pc + 1) = .ok (a, pc + 3) ∧ P a = true := by
  unfold rx_a2 at h
  cases e : rx_drp pc c.data.toList with
  | nil =>
    rw [e] at h
    exact absurd (show false = true from h) Bool.false_ne_true
  | cons a t =>
    rw [e] at h
    obtain ⟨u, v⟩ := rx_u1 e
    cases t with
    | nil => exact absurd (show false = true from h) Bool.false_ne_true
    | cons b t =>
      cases t with
      | nil => exact absurd (show false = true from h) Bool.false_ne_true
      | cons d t =>
        have h : (Nat.beq a.toNat op && P (b.toNat * 256 + d.toNat)) = true := h
        rw [Bool.and_eq_true] at h
        rw [← Nat.eq_of_beq_eq_true h.1]
        exact ⟨u, _, rx_u2 v, h.2⟩
theorem rx_a3_ok {P : Nat → Nat → Bool} (h : rx_a3 c pc op P = true) : (Reader.u1 : Decoder Nat) c pc = .ok (op, pc + 1) ∧ ∃ a b : Nat, (Reader.u1 : Decoder Nat) c (pc + 1) = .ok (a, pc + 2) ∧ (Reader.u1 : Decoder Nat) c (pc + 2) = .ok (b, pc + 3) ∧ P a b = true := by
  unfold rx_a3 at h
  cases e : rx_drp pc c.data.toList with
  | nil =>
    rw [e] at h
    exact absurd (show false = true from h) Bool.false_ne_true
  | cons a t =>
    rw [e] at h
    obtain ⟨u, v⟩ := rx_u1 e
    cases t with
    | nil => exact absurd (show false = true from h) Bool.false_ne_true
    | cons b t =>
      obtain ⟨u2, v2⟩ := rx_u1 v
      cases t with
      | nil => exact absurd (show false = true from h) Bool.false_ne_true
      | cons d t =>
        have h : (Nat.beq a.toNat op && P b.toNat d.toNat) = true := h
        rw [Bool.and_eq_true] at h
        rw [← Nat.eq_of_beq_eq_true h.1]
        exact ⟨u, _, _, u2, (rx_u1 v2).1, h.2⟩
/-- the premises, by kinds -/
noncomputable def rx_au (c : ByteArray) (pc op i : Nat) : Bool := rx_a1 c pc op (fun a => Nat.beq a i)
noncomputable def rx_aw (c : ByteArray) (pc op i : Nat) : Bool := rx_a2 c pc op (fun a => Nat.beq a i)
noncomputable def rx_as (c : ByteArray) (pc op : Nat) (n : Int) : Bool := rx_a1 c pc op (fun a => decide (Reader.signed 8 a = n))
noncomputable def rx_at_ (c : ByteArray) (pc op : Nat) (n : Int) : Bool := rx_a2 c pc op (fun a => decide (Reader.signed 16 a = n))
noncomputable def rx_ai (c : ByteArray) (pc op i : Nat) (n : Int) : Bool := rx_a3 c pc op (fun a b => Nat.beq a i && decide (Reader.signed 8 b = n))
theorem rx_hu {J : Nat → Instr} {i : Nat} {F : Nat → Decoder Instr} (h : rx_au c pc op i = true) (hF : Decoder.instr pc = (Reader.u1 >>= F)) (hG : F op = (Reader.u1 >>= fun x => Pure.pure (J x))) : decode c pc = .ok (J i, 2) := by
  obtain ⟨hb, a, ha, e⟩ := rx_a1_ok h
  rw [← Nat.eq_of_beq_eq_true e]
  exact rx_g1 hF hG hb ha
theorem rx_hw {J : Nat → Instr} {i : Nat} {F : Nat → Decoder Instr} (h : rx_aw c pc op i = true) (hF : Decoder.instr pc = (Reader.u1 >>= F)) (hG : F op = (Reader.u2 >>= fun x => Pure.pure (J x))) : decode c pc = .ok (J i, 3) := by
  obtain ⟨hb, a, ha, e⟩ := rx_a2_ok h
  rw [← Nat.eq_of_beq_eq_true e]
  exact rx_g1 hF hG hb ha
theorem rx_hs {J : Int → Instr} {n : Int} {F : Nat → Decoder Instr} (h : rx_as c pc op n = true) (hF : Decoder.instr pc = (Reader.u1 >>= F)) (hG : F op = (Reader.s1 >>= fun x => Pure.pure (J x))) : decode c pc = .ok (J n, 2) := by
  obtain ⟨hb, a, ha, e⟩ := rx_a1_ok h
  rw [← of_decide_eq_true e]
  exact rx_g1 hF hG hb (rx_mp ha)
theorem rx_ht {J : Int → Instr} {n : Int} {F : Nat → Decoder Instr} (h : rx_at_ c pc op n = true) (hF : Decoder.instr pc = (Reader.u1 >>= F)) (hG : F op = (Reader.s2 >>= fun x => Pure.pure (J x))) : decode c pc = .ok (J n, 3) := by
  obtain ⟨hb, a, ha, e⟩ := rx_a2_ok h
  rw [← of_decide_eq_true e]
  exact rx_g1 hF hG hb (rx_mp ha)
theorem rx_d_iinc {i : Nat} {n : Int} (h : rx_ai c pc 132 i n = true) : decode c pc = .ok (.iinc i n, 3) := by
  obtain ⟨hb, a, b, ha, hb2, e⟩ := rx_a3_ok h
  rw [Bool.and_eq_true] at e
  rw [← Nat.eq_of_beq_eq_true e.1, ← of_decide_eq_true e.2]
  exact rx_g2 (J := .iinc) rfl rfl hb ha (rx_mp hb2)
def rx_cdn : Jvm.ClassFile.Cond → Nat
  | .eq => 0
  | .ne => 1
  | .lt => 2
  | .ge => 3
  | .gt => 4
  | .le => 5
theorem rx_d_iaload (h : rx_a0 c pc 46 = true) : decode c pc = .ok (.iaload, 1) := rx_g0 rfl rfl (rx_a0_ok h)
theorem rx_d_laload (h : rx_a0 c pc 47 = true) : decode c pc = .ok (.laload, 1) := rx_g0 rfl rfl (rx_a0_ok h)
theorem rx_d_aaload (h : rx_a0 c pc 50 = true) : decode c pc = .ok (.aaload, 1) := rx_g0 rfl rfl (rx_a0_ok h)
theorem rx_d_baload (h : rx_a0 c pc 51 = true) : decode c pc = .ok (.baload, 1) := rx_g0 rfl rfl (rx_a0_ok h)
theorem rx_d_iastore (h : rx_a0 c pc 79 = true) : decode c pc = .ok (.iastore, 1) := rx_g0 rfl rfl (rx_a0_ok h)
theorem rx_d_lastore (h : rx_a0 c pc 80 = true) : decode c pc = .ok (.lastore, 1) := rx_g0 rfl rfl (rx_a0_ok h)
theorem rx_d_bastore (h : rx_a0 c pc 84 = true) : decode c pc = .ok (.bastore, 1) := rx_g0 rfl rfl (rx_a0_ok h)
theorem rx_d_pop (h : rx_a0 c pc 87 = true) : decode c pc = .ok (.pop, 1) := rx_g0 rfl rfl (rx_a0_ok h)
theorem rx_d_pop2 (h : rx_a0 c pc 88 = true) : decode c pc = .ok (.pop2, 1) := rx_g0 rfl rfl (rx_a0_ok h)
theorem rx_d_dup (h : rx_a0 c pc 89 = true) : decode c pc = .ok (.dup, 1) := rx_g0 rfl rfl (rx_a0_ok h)
theorem rx_d_dup2 (h : rx_a0 c pc 92 = true) : decode c pc = .ok (.dup2, 1) := rx_g0 rfl rfl (rx_a0_ok h)
theorem rx_d_iadd (h : rx_a0 c pc 96 = true) : decode c pc = .ok (.iadd, 1) := rx_g0 rfl rfl (rx_a0_ok h)
theorem rx_d_ladd (h : rx_a0 c pc 97 = true) : decode c pc = .ok (.ladd, 1) := rx_g0 rfl rfl (rx_a0_ok h)
theorem rx_d_isub (h : rx_a0 c pc 100 = true) : decode c pc = .ok (.isub, 1) := rx_g0 rfl rfl (rx_a0_ok h)
theorem rx_d_lsub (h : rx_a0 c pc 101 = true) : decode c pc = .ok (.lsub, 1) := rx_g0 rfl rfl (rx_a0_ok h)
theorem rx_d_imul (h : rx_a0 c pc 104 = true) : decode c pc = .ok (.imul, 1) := rx_g0 rfl rfl (rx_a0_ok h)
theorem rx_d_lmul (h : rx_a0 c pc 105 = true) : decode c pc = .ok (.lmul, 1) := rx_g0 rfl rfl (rx_a0_ok h)
theorem rx_d_idiv (h : rx_a0 c pc 108 = true) : decode c pc = .ok (.idiv, 1) := rx_g0 rfl rfl (rx_a0_ok h)
theorem rx_d_ldiv (h : rx_a0 c pc 109 = true) : decode c pc = .ok (.ldiv, 1) := rx_g0 rfl rfl (rx_a0_ok h)
theorem rx_d_irem (h : rx_a0 c pc 112 = true) : decode c pc = .ok (.irem, 1) := rx_g0 rfl rfl (rx_a0_ok h)
theorem rx_d_lrem (h : rx_a0 c pc 113 = true) : decode c pc = .ok (.lrem, 1) := rx_g0 rfl rfl (rx_a0_ok h)
theorem rx_d_ineg (h : rx_a0 c pc 116 = true) : decode c pc = .ok (.ineg, 1) := rx_g0 rfl rfl (rx_a0_ok h)
theorem rx_d_ishl (h : rx_a0 c pc 120 = true) : decode c pc = .ok (.ishl, 1) := rx_g0 rfl rfl (rx_a0_ok h)
theorem rx_d_lshl (h : rx_a0 c pc 121 = true) : decode c pc = .ok (.lshl, 1) := rx_g0 rfl rfl (rx_a0_ok h)
theorem rx_d_ishr (h : rx_a0 c pc 122 = true) : decode c pc = .ok (.ishr, 1) := rx_g0 rfl rfl (rx_a0_ok h)
theorem rx_d_lshr (h : rx_a0 c pc 123 = true) : decode c pc = .ok (.lshr, 1) := rx_g0 rfl rfl (rx_a0_ok h)
theorem rx_d_iushr (h : rx_a0 c pc 124 = true) : decode c pc = .ok (.iushr, 1) := rx_g0 rfl rfl (rx_a0_ok h)
theorem rx_d_iand (h : rx_a0 c pc 126 = true) : decode c pc = .ok (.iand, 1) := rx_g0 rfl rfl (rx_a0_ok h)
theorem rx_d_land (h : rx_a0 c pc 127 = true) : decode c pc = .ok (.land, 1) := rx_g0 rfl rfl (rx_a0_ok h)
theorem rx_d_ior (h : rx_a0 c pc 128 = true) : decode c pc = .ok (.ior, 1) := rx_g0 rfl rfl (rx_a0_ok h)
theorem rx_d_lor (h : rx_a0 c pc 129 = true) : decode c pc = .ok (.lor, 1) := rx_g0 rfl rfl (rx_a0_ok h)
theorem rx_d_ixor (h : rx_a0 c pc 130 = true) : decode c pc = .ok (.ixor, 1) := rx_g0 rfl rfl (rx_a0_ok h)
theorem rx_d_i2l (h : rx_a0 c pc 133 = true) : decode c pc = .ok (.i2l, 1) := rx_g0 rfl rfl (rx_a0_ok h)
theorem rx_d_l2i (h : rx_a0 c pc 136 = true) : decode c pc = .ok (.l2i, 1) := rx_g0 rfl rfl (rx_a0_ok h)
theorem rx_d_lcmp (h : rx_a0 c pc 148 = true) : decode c pc = .ok (.lcmp, 1) := rx_g0 rfl rfl (rx_a0_ok h)
theorem rx_d_ireturn (h : rx_a0 c pc 172 = true) : decode c pc = .ok (.ireturn, 1) := rx_g0 rfl rfl (rx_a0_ok h)
theorem rx_d_lreturn (h : rx_a0 c pc 173 = true) : decode c pc = .ok (.lreturn, 1) := rx_g0 rfl rfl (rx_a0_ok h)
theorem rx_d_areturn (h : rx_a0 c pc 176 = true) : decode c pc = .ok (.areturn, 1) := rx_g0 rfl rfl (rx_a0_ok h)
theorem rx_d_return_ (h : rx_a0 c pc 177 = true) : decode c pc = .ok (.return_, 1) := rx_g0 rfl rfl (rx_a0_ok h)
theorem rx_d_arraylength (h : rx_a0 c pc 190 = true) : decode c pc = .ok (.arraylength, 1) := rx_g0 rfl rfl (rx_a0_ok h)
theorem rx_d_ldc {i : Nat} (h : rx_au c pc 18 i = true) : decode c pc = .ok (.ldc i, 2) := rx_hu (J := .ldc) h rfl rfl
theorem rx_d_iload {i : Nat} (h : rx_au c pc 21 i = true) : decode c pc = .ok (.iload i, 2) := rx_hu (J := .iload) h rfl rfl
theorem rx_d_lload {i : Nat} (h : rx_au c pc 22 i = true) : decode c pc = .ok (.lload i, 2) := rx_hu (J := .lload) h rfl rfl
theorem rx_d_aload {i : Nat} (h : rx_au c pc 25 i = true) : decode c pc = .ok (.aload i, 2) := rx_hu (J := .aload) h rfl rfl
theorem rx_d_istore {i : Nat} (h : rx_au c pc 54 i = true) : decode c pc = .ok (.istore i, 2) := rx_hu (J := .istore) h rfl rfl
theorem rx_d_lstore {i : Nat} (h : rx_au c pc 55 i = true) : decode c pc = .ok (.lstore i, 2) := rx_hu (J := .lstore) h rfl rfl
theorem rx_d_astore {i : Nat} (h : rx_au c pc 58 i = true) : decode c pc = .ok (.astore i, 2) := rx_hu (J := .astore) h rfl rfl
theorem rx_d_ldc_w {i : Nat} (h : rx_aw c pc 19 i = true) : decode c pc = .ok (.ldc_w i, 3) := rx_hw (J := .ldc_w) h rfl rfl
theorem rx_d_ldc2_w {i : Nat} (h : rx_aw c pc 20 i = true) : decode c pc = .ok (.ldc2_w i, 3) := rx_hw (J := .ldc2_w) h rfl rfl
theorem rx_d_getfield {i : Nat} (h : rx_aw c pc 180 i = true) : decode c pc = .ok (.getfield i, 3) := rx_hw (J := .getfield) h rfl rfl
theorem rx_d_putfield {i : Nat} (h : rx_aw c pc 181 i = true) : decode c pc = .ok (.putfield i, 3) := rx_hw (J := .putfield) h rfl rfl
theorem rx_d_invokevirtual {i : Nat} (h : rx_aw c pc 182 i = true) : decode c pc = .ok (.invokevirtual i, 3) := rx_hw (J := .invokevirtual) h rfl rfl
theorem rx_d_invokestatic {i : Nat} (h : rx_aw c pc 184 i = true) : decode c pc = .ok (.invokestatic i, 3) := rx_hw (J := .invokestatic) h rfl rfl
theorem rx_d_iload_n : ∀ {k : Fin 4}, rx_a0 c pc (26 + (k : Nat)) = true → decode c pc = .ok (.iload_n k, 1)
  | 0, h => rx_g0 (op := 26) rfl rfl (rx_a0_ok h)
  | 1, h => rx_g0 (op := 27) rfl rfl (rx_a0_ok h)
  | 2, h => rx_g0 (op := 28) rfl rfl (rx_a0_ok h)
  | 3, h => rx_g0 (op := 29) rfl rfl (rx_a0_ok h)
theorem rx_d_lload_n : ∀ {k : Fin 4}, rx_a0 c pc (30 + (k : Nat)) = true → decode c pc = .ok (.lload_n k, 1)
  | 0, h => rx_g0 (op := 30) rfl rfl (rx_a0_ok h)
  | 1, h => rx_g0 (op := 31) rfl rfl (rx_a0_ok h)
  | 2, h => rx_g0 (op := 32) rfl rfl (rx_a0_ok h)
  | 3, h => rx_g0 (op := 33) rfl rfl (rx_a0_ok h)
theorem rx_d_aload_n : ∀ {k : Fin 4}, rx_a0 c pc (42 + (k : Nat)) = true → decode c pc = .ok (.aload_n k, 1)
  | 0, h => rx_g0 (op := 42) rfl rfl (rx_a0_ok h)
  | 1, h => rx_g0 (op := 43) rfl rfl (rx_a0_ok h)
  | 2, h => rx_g0 (op := 44) rfl rfl (rx_a0_ok h)
  | 3, h => rx_g0 (op := 45) rfl rfl (rx_a0_ok h)
theorem rx_d_istore_n : ∀ {k : Fin 4}, rx_a0 c pc (59 + (k : Nat)) = true → decode c pc = .ok (.istore_n k, 1)
  | 0, h => rx_g0 (op := 59) rfl rfl (rx_a0_ok h)
  | 1, h => rx_g0 (op := 60) rfl rfl (rx_a0_ok h)
  | 2, h => rx_g0 (op := 61) rfl rfl (rx_a0_ok h)
  | 3, h => rx_g0 (op := 62) rfl rfl (rx_a0_ok h)
theorem rx_d_lstore_n : ∀ {k : Fin 4}, rx_a0 c pc (63 + (k : Nat)) = true → decode c pc = .ok (.lstore_n k, 1)
  | 0, h => rx_g0 (op := 63) rfl rfl (rx_a0_ok h)
  | 1, h => rx_g0 (op := 64) rfl rfl (rx_a0_ok h)
  | 2, h => rx_g0 (op := 65) rfl rfl (rx_a0_ok h)
  | 3, h => rx_g0 (op := 66) rfl rfl (rx_a0_ok h)
theorem rx_d_astore_n : ∀ {k : Fin 4}, rx_a0 c pc (75 + (k : Nat)) = true → decode c pc = .ok (.astore_n k, 1)
  | 0, h => rx_g0 (op := 75) rfl rfl (rx_a0_ok h)
  | 1, h => rx_g0 (op := 76) rfl rfl (rx_a0_ok h)
  | 2, h => rx_g0 (op := 77) rfl rfl (rx_a0_ok h)
  | 3, h => rx_g0 (op := 78) rfl rfl (rx_a0_ok h)
theorem rx_d_lconst : ∀ {k : Fin 2}, rx_a0 c pc (9 + (k : Nat)) = true → decode c pc = .ok (.lconst k, 1)
  | 0, h => rx_g0 (op := 9) rfl rfl (rx_a0_ok h)
  | 1, h => rx_g0 (op := 10) rfl rfl (rx_a0_ok h)
theorem rx_d_bipush {n : Int} (h : rx_as c pc 16 n = true) : decode c pc = .ok (.bipush n, 2) := rx_hs (J := .bipush) h rfl rfl
theorem rx_d_sipush {n : Int} (h : rx_at_ c pc 17 n = true) : decode c pc = .ok (.sipush n, 3) := rx_ht (J := .sipush) h rfl rfl
theorem rx_d_goto {n : Int} (h : rx_at_ c pc 167 n = true) : decode c pc = .ok (.goto n, 3) := rx_ht (J := .goto) h rfl rfl
noncomputable def rx_ac (c : ByteArray) (pc : Nat) (n : Int) : Bool := decide (-1 ≤ n) && (decide (n ≤ 5) && rx_a0 c pc (n + 3).toNat)
theorem rx_d_iconst {n : Int} (h : rx_ac c pc n = true) : decode c pc = .ok (.iconst n, 1) := by
  unfold rx_ac at h
  rw [Bool.and_eq_true, Bool.and_eq_true] at h
  obtain ⟨h0, h1, h⟩ := h
  have h0 := of_decide_eq_true h0
  have h1 := of_decide_eq_true h1
  have e : n = -1 ∨ n = 0 ∨ n = 1 ∨ n = 2 ∨ n = 3 ∨ n = 4 ∨ n = 5 := by omega
  rcases e with e | e | e | e | e | e | e <;> subst e
  · exact rx_g0 (op := 2) rfl rfl (rx_a0_ok h)
  · exact rx_g0 (op := 3) rfl rfl (rx_a0_ok h)
  · exact rx_g0 (op := 4) rfl rfl (rx_a0_ok h)
  · exact rx_g0 (op := 5) rfl rfl (rx_a0_ok h)
  · exact rx_g0 (op := 6) rfl rfl (rx_a0_ok h)
  · exact rx_g0 (op := 7) rfl rfl (rx_a0_ok h)
  · exact rx_g0 (op := 8) rfl rfl (rx_a0_ok h)
theorem rx_d_ifCond : ∀ {cnd : Jvm.ClassFile.Cond} {n : Int}, rx_at_ c pc (153 + rx_cdn cnd) n = true → decode c pc = .ok (.ifCond cnd n, 3)
  | .eq, _, h => rx_ht (op := 153) (J := .ifCond .eq) h rfl rfl
  | .ne, _, h => rx_ht (op := 154) (J := .ifCond .ne) h rfl rfl
  | .lt, _, h => rx_ht (op := 155) (J := .ifCond .lt) h rfl rfl
  | .ge, _, h => rx_ht (op := 156) (J := .ifCond .ge) h rfl rfl
  | .gt, _, h => rx_ht (op := 157) (J := .ifCond .gt) h rfl rfl
  | .le, _, h => rx_ht (op := 158) (J := .ifCond .le) h rfl rfl
theorem rx_d_if_icmp : ∀ {cnd : Jvm.ClassFile.Cond} {n : Int}, rx_at_ c pc (159 + rx_cdn cnd) n = true → decode c pc = .ok (.if_icmp cnd n, 3)
  | .eq, _, h => rx_ht (op := 159) (J := .if_icmp .eq) h rfl rfl
  | .ne, _, h => rx_ht (op := 160) (J := .if_icmp .ne) h rfl rfl
  | .lt, _, h => rx_ht (op := 161) (J := .if_icmp .lt) h rfl rfl
  | .ge, _, h => rx_ht (op := 162) (J := .if_icmp .ge) h rfl rfl
  | .gt, _, h => rx_ht (op := 163) (J := .if_icmp .gt) h rfl rfl
  | .le, _, h => rx_ht (op := 164) (J := .if_icmp .le) h rfl rfl
end RXDEC
/-! THE BOX MACHINE: what a place does, a kind each -/
/-- what is neither walked nor called by contract: texts' constants (places beyond the heap's), whole rows copied -/
def bx_pt (z : rx_Z) (e : rx_E) : Option Int := match rx_bi z.1 e with
  | some (lo, hi) => if lo = hi then some lo else none
  | none => none
def bx_x_copy (B : bx_B) (d : Nat) (z : rx_Z) : Option (List rx_Z) := match rx_pi (rx_zst z) with
  | some (n, t) => match rx_pi t with
    | some (dp, t) => match bx_pp t with
      | some (k1, t) => match rx_pi t with
        | some (sp, t) => match bx_pp t with
          | some (k0, t) => match bx_dm z.2.2.1 k0.1, bx_dm z.2.2.1 k1.1 with
            | some d0, some d1 => match B.1.1 d0 k0.2, B.1.1 d1 k1.2 with
              | some (.inr (tc0, n0, _)), some (.inr (tc1, n1, g1)) => match B.1.2.1 d0 k0.2 0 ((n0 : Int) - 1) 1, B.1.2.2 d1 k1.2 0 ((n0 : Int) - 1) 1 with
                | some (0, l0, h0), some (0, l1, h1) => rx_if (tc0 == 0 && (tc1 == 0 && (n0 == n1 && (bx_pt z n == some (n0 : Int) && (bx_pt z dp == some 0 && (bx_pt z sp == some 0 && (decide (l1 ≤ l0) && (decide (h0 ≤ h1) && (decide (1 ≤ d) && (decide (rx_cats t ≤ 8) && (decide (n0 < 2000000000) && (bx_mdr B.2.2.2 g1 0 ((n0 : Int) - 1) && !(bx_lg B.2.2.2)))))))))))))
                    (some [rx_nxh (z.2.2.1.filter (bx_keepR B.1 z.2.2.1 0 ((n0 : Int) - 1) g1)) z 3 t])
                | _, _ => none
              | _, _ => none
            | _, _ => none
          | none => none
        | none => none
      | none => none
    | none => none
  | none => none
def bx_x_mm (mx : Bool) (d : Nat) (z : rx_Z) : Option (List rx_Z) := match rx_pi (rx_zst z) with
  | some (b, t) => match rx_pi t with
    | some (a, t) => rx_if (rx_okI z.1 a && (rx_okI z.1 b && (decide (1 ≤ d) && (decide (rx_cats t ≤ 8) && (z.2.2.2.1 == 0 && z.2.2.2.2.1 == 0)))))
        (some (rx_way z (0, rx_nm z.1 b, rx_nm z.1 a) (rx_zpc z + 3) (.inr (0, if mx = true then a else b) :: t) ++ rx_way z (1, rx_nm z.1 a, rx_nm z.1 b) (rx_zpc z + 3) (.inr (0, if mx = true then b else a) :: t)))
    | none => none
  | none => none
/-- 0: rows copied; 1: the smaller; 2: the larger -/
def bx_x_st (B : bx_B) (k : Nat) : Nat → rx_Z → Option (List rx_Z) := match k with
  | 0 => bx_x_copy B
  | 1 => bx_x_mm false
  | _ => bx_x_mm true
def bx_xs (B : bx_B) (cp : Nat → Nat → Option Nat) (sl : Nat → Nat → Option Nat) : rx_Xh := fun d M i len z => match i with
  | .ldc idx => (match sl M.1 idx with
    | some n => rx_if (len == 2) (some [rx_nx z 2 (.inr (3, (0, (n : Int))) :: rx_zst z)])
    | none => none)
  | .invokestatic idx => (match cp M.1 idx with
    | some k => rx_if (len == 3) (bx_x_st B k d z)
    | none => none)
  | _ => none
def bx_xh (B : bx_B) (T : rx_Tb) (Cn : Nat → List bx_Ct) (cp : Nat → Nat → Option Nat) (sl : Nat → Nat → Option Nat) : rx_Xh := fun d M i len z => rx_or (bx_xs B cp sl d M i len z) (bx_hook B T Cn d M i len z)
noncomputable def rx_l {α : Type} (l : List (Nat × α)) (i : Nat) : Option α := List.rec (motive := fun _ => Option α) none (fun q _ ih => Bool.rec (motive := fun _ => Option α) ih (some q.2) (Nat.beq q.1 i)) l
theorem rx_l_eq {i : Nat} : ∀ l : List (Nat × rx_V), rx_l l i = rx_lk l i
  | [] => rfl
  | q :: l => by
    have ih := rx_l_eq (i := i) l
    show Bool.rec (motive := fun _ => Option rx_V) (rx_l l i) (some q.2) (Nat.beq q.1 i) = rx_lk (q :: l) i
    rw [rx_lk]
    by_cases h : q.1 = i
    · rw [if_pos h, Nat.beq_eq.mpr h]
    · rw [if_neg h, Bool.eq_false_iff.mpr fun h2 => h (Nat.beq_eq.mp h2)]
      exact ih
def rx_q_mc (mc ms : Nat) (z : rx_Z) : Bool := Nat.ble z.2.2.2.1 mc && Nat.ble z.2.2.2.2.1 ms
def rx_q_reti (mc ms : Nat) (z : rx_Z) : Option rx_End := rx_if (rx_q_mc mc ms z) (match rx_zst z with
  | [.inr (0, e)] => some (z.1, z.2.1, z.2.2.1, some (.inr (0, e)))
  | _ => none)
def rx_q_retz (mc ms : Nat) (z : rx_Z) : Option rx_End := rx_if (rx_q_mc mc ms z) (match rx_zst z with
  | [.inr (0, e)] => rx_if (rx_in01 z.1 e) (some (z.1, z.2.1, z.2.2.1, some (.inr (0, e))))
  | _ => none)
def rx_q_retl (mc ms : Nat) (z : rx_Z) : Option rx_End := rx_if (rx_q_mc mc ms z) (match rx_zst z with
  | [.inr (1, e)] => some (z.1, z.2.1, z.2.2.1, some (.inr (1, e)))
  | _ => none)
def rx_q_reta (mc ms : Nat) (z : rx_Z) : Option rx_End := rx_if (rx_q_mc mc ms z) (match rx_zst z with
  | [.inr (3, e)] => some (z.1, z.2.1, z.2.2.1, some (.inr (3, e)))
  | _ => none)
def rx_q_retv (mc ms : Nat) (z : rx_Z) : Option rx_End := rx_if (rx_q_mc mc ms z) (match rx_zst z with
  | [] => some (z.1, z.2.1, z.2.2.1, none)
  | _ => none)
def rx_q_scall (M M_p : rx_Mt) (n : Nat) (z : rx_Z) : Option (List rx_V × List rx_V) := match rx_take n [] (rx_zst z) with
  | some (as, t) => rx_if (rx_may M M_p z as t) (some (as, t))
  | none => none
def rx_q_if (cnd : Jvm.ClassFile.Cond) (tgt nx : Nat) (z : rx_Z) : Option (List rx_Z) := match rx_pi (rx_zst z) with
  | some (a, t) => if rx_okI z.1 a then some (rx_fork z cnd a (0, 0) tgt nx t) else none
  | none => none
def rx_q_icmp (cnd : Jvm.ClassFile.Cond) (tgt nx : Nat) (z : rx_Z) : Option (List rx_Z) := match rx_pi (rx_zst z) with
  | some (b, t) => match rx_pi t with
    | some (a, t) => if rx_okI z.1 a && rx_okI z.1 b then some (rx_fork z cnd a b tgt nx t) else none
    | none => none
  | none => none
def rx_q_lcmp (cnd : Jvm.ClassFile.Cond) (tgt nx : Nat) (z : rx_Z) : Option (List rx_Z) := match rx_pl (rx_zst z) with
  | some (b, t) => match rx_pl t with
    | some (a, t) => if rx_okL z.1 a && rx_okL z.1 b then some (rx_fork z cnd a b tgt nx t) else none
    | none => none
  | none => none
def rx_q_goto (tgt : Nat) (z : rx_Z) : Option (List rx_Z) := some [rx_jp z.1 z.2.1 z tgt (rx_zst z)]
theorem rx_beqd {α : Type} {a b : Nat} {x y : α} : (match Nat.beq a b with
    | true => x
    | false => y) = if a = b then x else y := by
  by_cases h : a = b
  · rw [if_pos h, Nat.beq_eq.mpr h]
  · rw [if_neg h, Bool.eq_false_iff.mpr fun h2 => h (Nat.beq_eq.mp h2)]
/-- fields: the table's row in place of its look-up -/
def bx_q_get (V : bx_V) (np : Nat) (md : Nat → Nat → Bool) (q : rx_Q) (z : rx_Z) : Option (List rx_Z) := bx_h_get V np md (fun _ => some q) 0 z
theorem bx_q_get_eq {V : bx_V} {np idx : Nat} {md : Nat → Nat → Bool} {fr : Nat → Option rx_Q} {q : rx_Q} (hq : fr idx = some q) (z : rx_Z) : bx_q_get V np md q z = bx_h_get V np md fr idx z := by
  unfold bx_q_get bx_h_get
  rw [hq]
def bx_q_put (V : bx_V) (dmf : Nat → Int → Bool) (md : Nat → Nat → Bool) (q : rx_Q) (z : rx_Z) : Option (List rx_Z) := bx_h_put V dmf md (fun _ => some q) 0 z
theorem bx_q_put_eq {V : bx_V} {dmf : Nat → Int → Bool} {md : Nat → Nat → Bool} {idx : Nat} {fr : Nat → Option rx_Q} {q : rx_Q} (hq : fr idx = some q) (z : rx_Z) : bx_q_put V dmf md q z = bx_h_put V dmf md fr idx z := by
  unfold bx_q_put bx_h_put
  rw [hq]
noncomputable def rx_q_load (kd i d : Nat) (z : rx_Z) : Option (List rx_Z) := match rx_l (rx_zlv z) i with
  | some (.inr (j, e)) => match Nat.beq j kd with
    | true => some [rx_nx z d (.inr (j, e) :: rx_zst z)]
    | false => none
  | _ => none
theorem rx_q_load_eq (kd i d : Nat) (z : rx_Z) : rx_q_load kd i d z = rx_h_load kd i d z := by
  unfold rx_q_load rx_h_load
  simp only [rx_l_eq, rx_beqd]
  rfl
noncomputable def rx_q_loadA (i d : Nat) (z : rx_Z) : Option (List rx_Z) := match rx_l (rx_zlv z) i with
  | some (.inl o) => some [rx_nx z d (.inl o :: rx_zst z)]
  | some (.inr (j + 2, e)) => some [rx_nx z d (.inr (j + 2, e) :: rx_zst z)]
  | _ => none
theorem rx_q_loadA_eq (i d : Nat) (z : rx_Z) : rx_q_loadA i d z = rx_h_loadA i d z := by
  unfold rx_q_loadA rx_h_loadA
  simp only [rx_l_eq]
  rfl
def bx_q_vcall (B : bx_B) (M M_p : rx_Mt) (n ci : Nat) (z : rx_Z) : Option (List rx_V × List rx_V) := match rx_take n [] (rx_zst z) with
  | some (as, t) => match rx_rcv B z.2.2.1 ci t with
    | some (k, t2) => rx_if (rx_may M M_p z (.inr (3, k) :: as) t2) (some (.inr (3, k) :: as, t2))
    | none => none
  | none => none
theorem rx_ifN {α : Type} (b : Bool) : rx_if b (none : Option α) = none := by
  cases b <;> rfl
theorem rx_q_may {M : rx_Mt} {mc ms : Nat} {z : rx_Z} {α : Type} {x : Option α} (h1 : M.2.2.2.2.2.2.1 = mc) (h2 : M.2.2.2.2.2.2.2 = ms) : rx_if (1 == 1 && (decide (z.2.2.2.1 ≤ M.2.2.2.2.2.2.1) && decide (z.2.2.2.2.1 ≤ M.2.2.2.2.2.2.2))) x = rx_if (rx_q_mc mc ms z) x := by
  subst h1; subst h2
  have e : ∀ a b : Nat, decide (a ≤ b) = Nat.ble a b := fun a b => by
    rw [Bool.eq_iff_iff, decide_eq_true_eq, Nat.ble_eq]
  unfold rx_q_mc
  rw [e, e]
  rfl
section RXK
variable {B : bx_B} {T : rx_Tb} {M : rx_Mt} {pc : Nat} {Cn : Nat → List bx_Ct} {cp : Nat → Nat → Option Nat} {sl : Nat → Nat → Option Nat}
theorem rx_k_iconst {n m : Int} (hn : n = m) (hd : rx_ac M.2.1 pc n = true) : rx_entOK B (bx_xh B T Cn cp sl) T M pc (.inl (fun _ => rx_h_push (rx_n m) 1)) := by
  subst hn
  exact ⟨_, _, (rx_d_iconst hd), fun _ _ _ _ _ _ _ _ => ⟨rx_ifN _, fun _ h => h⟩⟩
theorem rx_k_bipush {n m : Int} (hn : (Int8.ofInt n).toInt32.toInt = m) (hd : rx_as M.2.1 pc 16 n = true) : rx_entOK B (bx_xh B T Cn cp sl) T M pc (.inl (fun _ => rx_h_push (rx_n m) 2)) := by
  subst hn
  exact ⟨_, _, (rx_d_bipush hd), fun _ _ _ _ _ _ _ _ => ⟨rx_ifN _, fun _ h => h⟩⟩
theorem rx_k_lconst {n : Fin 2} {m : Int} (hn : ((n : Nat) : Int) = m) (hd : rx_a0 M.2.1 pc (9 + (n : Nat)) = true) : rx_entOK B (bx_xh B T Cn cp sl) T M pc (.inl (fun _ => rx_h_push (.inr (1, (0, m))) 1)) := by
  subst hn
  exact ⟨_, _, (rx_d_lconst hd), fun _ _ _ _ _ _ _ _ => ⟨rx_ifN _, fun _ h => h⟩⟩
theorem rx_k_iload_n {k : Fin 4} {i : Nat} (hk : (k : Nat) = i) (hd : rx_a0 M.2.1 pc (26 + (k : Nat)) = true) : rx_entOK B (bx_xh B T Cn cp sl) T M pc (.inl (fun _ => rx_q_load 0 i 1)) := by
  subst hk
  refine ⟨_, _, (rx_d_iload_n hd), fun d I F ht c s lv st => ⟨rx_ifN _, fun zs h => ?_⟩⟩
  try dsimp only at h
  rw [rx_q_load_eq] at h
  exact h
theorem rx_k_iload {i : Nat} (hd : rx_au M.2.1 pc 21 i = true) : rx_entOK B (bx_xh B T Cn cp sl) T M pc (.inl (fun _ => rx_q_load 0 i 2)) := by
  refine ⟨_, _, (rx_d_iload hd), fun d I F ht c s lv st => ⟨rx_ifN _, fun zs h => ?_⟩⟩
  try dsimp only at h
  rw [rx_q_load_eq] at h
  exact h
theorem rx_k_lload_n {k : Fin 4} {i : Nat} (hk : (k : Nat) = i) (hd : rx_a0 M.2.1 pc (30 + (k : Nat)) = true) : rx_entOK B (bx_xh B T Cn cp sl) T M pc (.inl (fun _ => rx_q_load 1 i 1)) := by
  subst hk
  refine ⟨_, _, (rx_d_lload_n hd), fun d I F ht c s lv st => ⟨rx_ifN _, fun zs h => ?_⟩⟩
  try dsimp only at h
  rw [rx_q_load_eq] at h
  exact h
theorem rx_k_lload {i : Nat} (hd : rx_au M.2.1 pc 22 i = true) : rx_entOK B (bx_xh B T Cn cp sl) T M pc (.inl (fun _ => rx_q_load 1 i 2)) := by
  refine ⟨_, _, (rx_d_lload hd), fun d I F ht c s lv st => ⟨rx_ifN _, fun zs h => ?_⟩⟩
  try dsimp only at h
  rw [rx_q_load_eq] at h
  exact h
theorem rx_k_aload_n {k : Fin 4} {i : Nat} (hk : (k : Nat) = i) (hd : rx_a0 M.2.1 pc (42 + (k : Nat)) = true) : rx_entOK B (bx_xh B T Cn cp sl) T M pc (.inl (fun _ => rx_q_loadA i 1)) := by
  subst hk
  refine ⟨_, _, (rx_d_aload_n hd), fun d I F ht c s lv st => ⟨rx_ifN _, fun zs h => ?_⟩⟩
  try dsimp only at h
  rw [rx_q_loadA_eq] at h
  exact h
theorem rx_k_aload {i : Nat} (hd : rx_au M.2.1 pc 25 i = true) : rx_entOK B (bx_xh B T Cn cp sl) T M pc (.inl (fun _ => rx_q_loadA i 2)) := by
  refine ⟨_, _, (rx_d_aload hd), fun d I F ht c s lv st => ⟨rx_ifN _, fun zs h => ?_⟩⟩
  try dsimp only at h
  rw [rx_q_loadA_eq] at h
  exact h
theorem rx_k_istore_n {k : Fin 4} {i nL : Nat} (hk : (k : Nat) = i) (hL : M.2.2.1 = nL) (hd : rx_a0 M.2.1 pc (59 + (k : Nat)) = true) : rx_entOK B (bx_xh B T Cn cp sl) T M pc (.inl (fun _ => rx_h_istore nL i 1)) := by
  subst hk; subst hL
  exact ⟨_, _, (rx_d_istore_n hd), fun _ _ _ _ _ _ _ _ => ⟨rx_ifN _, fun _ h => h⟩⟩
theorem rx_k_istore {i nL : Nat} (hL : M.2.2.1 = nL) (hd : rx_au M.2.1 pc 54 i = true) : rx_entOK B (bx_xh B T Cn cp sl) T M pc (.inl (fun _ => rx_h_istore nL i 2)) := by
  subst hL
  exact ⟨_, _, (rx_d_istore hd), fun _ _ _ _ _ _ _ _ => ⟨rx_ifN _, fun _ h => h⟩⟩
theorem rx_k_lstore_n {k : Fin 4} {i nL : Nat} (hk : (k : Nat) = i) (hL : M.2.2.1 = nL) (hd : rx_a0 M.2.1 pc (63 + (k : Nat)) = true) : rx_entOK B (bx_xh B T Cn cp sl) T M pc (.inl (fun _ => rx_h_lstore nL i 1)) := by
  subst hk; subst hL
  exact ⟨_, _, (rx_d_lstore_n hd), fun _ _ _ _ _ _ _ _ => ⟨rx_ifN _, fun _ h => h⟩⟩
theorem rx_k_lstore {i nL : Nat} (hL : M.2.2.1 = nL) (hd : rx_au M.2.1 pc 55 i = true) : rx_entOK B (bx_xh B T Cn cp sl) T M pc (.inl (fun _ => rx_h_lstore nL i 2)) := by
  subst hL
  exact ⟨_, _, (rx_d_lstore hd), fun _ _ _ _ _ _ _ _ => ⟨rx_ifN _, fun _ h => h⟩⟩
theorem rx_k_astore_n {k : Fin 4} {i nL : Nat} (hk : (k : Nat) = i) (hL : M.2.2.1 = nL) (hd : rx_a0 M.2.1 pc (75 + (k : Nat)) = true) : rx_entOK B (bx_xh B T Cn cp sl) T M pc (.inl (fun _ => rx_h_astore nL i 1)) := by
  subst hk; subst hL
  exact ⟨_, _, (rx_d_astore_n hd), fun _ _ _ _ _ _ _ _ => ⟨rx_ifN _, fun _ h => h⟩⟩
theorem rx_k_astore {i nL : Nat} (hL : M.2.2.1 = nL) (hd : rx_au M.2.1 pc 58 i = true) : rx_entOK B (bx_xh B T Cn cp sl) T M pc (.inl (fun _ => rx_h_astore nL i 2)) := by
  subst hL
  exact ⟨_, _, (rx_d_astore hd), fun _ _ _ _ _ _ _ _ => ⟨rx_ifN _, fun _ h => h⟩⟩
theorem rx_k_iinc {i nL : Nat} {n m : Int} (hn : n = m) (hL : M.2.2.1 = nL) (hd : rx_ai M.2.1 pc 132 i n = true) : rx_entOK B (bx_xh B T Cn cp sl) T M pc (.inl (fun _ => rx_h_iinc nL i m)) := by
  subst hL; subst hn
  exact ⟨_, _, (rx_d_iinc hd), fun _ _ _ _ _ _ _ _ => ⟨rx_ifN _, fun _ h => h⟩⟩
theorem rx_k_iadd (hd : rx_a0 M.2.1 pc 96 = true) : rx_entOK B (bx_xh B T Cn cp sl) T M pc (.inl (fun _ => rx_h_bin 0)) := ⟨_, _, (rx_d_iadd hd), fun _ _ _ _ _ _ _ _ => ⟨rx_ifN _, fun _ h => h⟩⟩
theorem rx_k_isub (hd : rx_a0 M.2.1 pc 100 = true) : rx_entOK B (bx_xh B T Cn cp sl) T M pc (.inl (fun _ => rx_h_sub)) := ⟨_, _, (rx_d_isub hd), fun _ _ _ _ _ _ _ _ => ⟨rx_ifN _, fun _ h => h⟩⟩
theorem rx_k_imul (hd : rx_a0 M.2.1 pc 104 = true) : rx_entOK B (bx_xh B T Cn cp sl) T M pc (.inl (fun _ => rx_h_bin 2)) := ⟨_, _, (rx_d_imul hd), fun _ _ _ _ _ _ _ _ => ⟨rx_ifN _, fun _ h => h⟩⟩
theorem rx_k_iand (hd : rx_a0 M.2.1 pc 126 = true) : rx_entOK B (bx_xh B T Cn cp sl) T M pc (.inl (fun _ => rx_h_and)) := ⟨_, _, (rx_d_iand hd), fun _ _ _ _ _ _ _ _ => ⟨rx_ifN _, fun _ h => h⟩⟩
theorem rx_k_ior (hd : rx_a0 M.2.1 pc 128 = true) : rx_entOK B (bx_xh B T Cn cp sl) T M pc (.inl (fun _ => rx_h_bin 6)) := ⟨_, _, (rx_d_ior hd), fun _ _ _ _ _ _ _ _ => ⟨rx_ifN _, fun _ h => h⟩⟩
theorem rx_k_ixor (hd : rx_a0 M.2.1 pc 130 = true) : rx_entOK B (bx_xh B T Cn cp sl) T M pc (.inl (fun _ => rx_h_bin 7)) := ⟨_, _, (rx_d_ixor hd), fun _ _ _ _ _ _ _ _ => ⟨rx_ifN _, fun _ h => h⟩⟩
theorem rx_k_ishl (hd : rx_a0 M.2.1 pc 120 = true) : rx_entOK B (bx_xh B T Cn cp sl) T M pc (.inl (fun _ => rx_h_bin 8)) := ⟨_, _, (rx_d_ishl hd), fun _ _ _ _ _ _ _ _ => ⟨rx_ifN _, fun _ h => h⟩⟩
theorem rx_k_ishr (hd : rx_a0 M.2.1 pc 122 = true) : rx_entOK B (bx_xh B T Cn cp sl) T M pc (.inl (fun _ => rx_h_bin 9)) := ⟨_, _, (rx_d_ishr hd), fun _ _ _ _ _ _ _ _ => ⟨rx_ifN _, fun _ h => h⟩⟩
theorem rx_k_iushr (hd : rx_a0 M.2.1 pc 124 = true) : rx_entOK B (bx_xh B T Cn cp sl) T M pc (.inl (fun _ => rx_h_bin 10)) := ⟨_, _, (rx_d_iushr hd), fun _ _ _ _ _ _ _ _ => ⟨rx_ifN _, fun _ h => h⟩⟩
theorem rx_k_idiv (hd : rx_a0 M.2.1 pc 108 = true) : rx_entOK B (bx_xh B T Cn cp sl) T M pc (.inl (fun _ => rx_h_div 3)) := ⟨_, _, (rx_d_idiv hd), fun _ _ _ _ _ _ _ _ => ⟨rx_ifN _, fun _ h => h⟩⟩
theorem rx_k_irem (hd : rx_a0 M.2.1 pc 112 = true) : rx_entOK B (bx_xh B T Cn cp sl) T M pc (.inl (fun _ => rx_h_div 4)) := ⟨_, _, (rx_d_irem hd), fun _ _ _ _ _ _ _ _ => ⟨rx_ifN _, fun _ h => h⟩⟩
theorem rx_k_ineg (hd : rx_a0 M.2.1 pc 116 = true) : rx_entOK B (bx_xh B T Cn cp sl) T M pc (.inl (fun _ => rx_h_ineg)) := ⟨_, _, (rx_d_ineg hd), fun _ _ _ _ _ _ _ _ => ⟨rx_ifN _, fun _ h => h⟩⟩
theorem rx_k_ladd (hd : rx_a0 M.2.1 pc 97 = true) : rx_entOK B (bx_xh B T Cn cp sl) T M pc (.inl (fun _ => rx_h_binL 0)) := ⟨_, _, (rx_d_ladd hd), fun _ _ _ _ _ _ _ _ => ⟨rx_ifN _, fun _ h => h⟩⟩
theorem rx_k_lsub (hd : rx_a0 M.2.1 pc 101 = true) : rx_entOK B (bx_xh B T Cn cp sl) T M pc (.inl (fun _ => rx_h_binL 1)) := ⟨_, _, (rx_d_lsub hd), fun _ _ _ _ _ _ _ _ => ⟨rx_ifN _, fun _ h => h⟩⟩
theorem rx_k_lmul (hd : rx_a0 M.2.1 pc 105 = true) : rx_entOK B (bx_xh B T Cn cp sl) T M pc (.inl (fun _ => rx_h_binL 2)) := ⟨_, _, (rx_d_lmul hd), fun _ _ _ _ _ _ _ _ => ⟨rx_ifN _, fun _ h => h⟩⟩
theorem rx_k_ldiv (hd : rx_a0 M.2.1 pc 109 = true) : rx_entOK B (bx_xh B T Cn cp sl) T M pc (.inl (fun _ => rx_h_divL 3)) := ⟨_, _, (rx_d_ldiv hd), fun _ _ _ _ _ _ _ _ => ⟨rx_ifN _, fun _ h => h⟩⟩
theorem rx_k_lrem (hd : rx_a0 M.2.1 pc 113 = true) : rx_entOK B (bx_xh B T Cn cp sl) T M pc (.inl (fun _ => rx_h_divL 4)) := ⟨_, _, (rx_d_lrem hd), fun _ _ _ _ _ _ _ _ => ⟨rx_ifN _, fun _ h => h⟩⟩
theorem rx_k_i2l (hd : rx_a0 M.2.1 pc 133 = true) : rx_entOK B (bx_xh B T Cn cp sl) T M pc (.inl (fun _ => rx_h_i2l)) := ⟨_, _, (rx_d_i2l hd), fun _ _ _ _ _ _ _ _ => ⟨rx_ifN _, fun _ h => h⟩⟩
theorem rx_k_dup (hd : rx_a0 M.2.1 pc 89 = true) : rx_entOK B (bx_xh B T Cn cp sl) T M pc (.inl (fun _ => rx_h_dup)) := ⟨_, _, (rx_d_dup hd), fun _ _ _ _ _ _ _ _ => ⟨rx_ifN _, fun _ h => h⟩⟩
theorem rx_k_dup2 (hd : rx_a0 M.2.1 pc 92 = true) : rx_entOK B (bx_xh B T Cn cp sl) T M pc (.inl (fun _ => rx_h_dup2)) := ⟨_, _, (rx_d_dup2 hd), fun _ _ _ _ _ _ _ _ => ⟨rx_ifN _, fun _ h => h⟩⟩
theorem rx_k_pop (hd : rx_a0 M.2.1 pc 87 = true) : rx_entOK B (bx_xh B T Cn cp sl) T M pc (.inl (fun _ => rx_h_pop)) := ⟨_, _, (rx_d_pop hd), fun _ _ _ _ _ _ _ _ => ⟨rx_ifN _, fun _ h => h⟩⟩
theorem rx_k_tableswitch {dflt lo hi : Int} {offs : Array Int} {len : Nat} (hd : decode M.2.1 pc = .ok (.tableswitch dflt lo hi offs, len)) : rx_entOK B (bx_xh B T Cn cp sl) T M pc (.inl (fun _ => rx_h_table dflt lo hi offs)) := ⟨_, _, hd, fun _ _ _ _ _ _ _ _ => ⟨rx_ifN _, fun _ h => h⟩⟩
theorem rx_k_lookupswitch {dflt : Int} {ps : Array (Int × Int)} {len : Nat} (hd : decode M.2.1 pc = .ok (.lookupswitch dflt ps, len)) : rx_entOK B (bx_xh B T Cn cp sl) T M pc (.inl (fun _ => rx_h_look dflt ps)) := ⟨_, _, hd, fun _ _ _ _ _ _ _ _ => ⟨rx_ifN _, fun _ h => h⟩⟩
theorem rx_k_ldcw {idx : Nat} {v : Int} (hv : T.2.2.2.1 M.1 idx = some (.inr (0, (0, v)))) (hd : rx_aw M.2.1 pc 19 idx = true) : rx_entOK B (bx_xh B T Cn cp sl) T M pc (.inl (fun _ => rx_h_push (rx_n v) 3)) := by
  refine ⟨_, _, (rx_d_ldc_w hd), fun d I F ht c s lv st => ⟨rx_ifN _, fun zs h => ?_⟩⟩
  show rx_h_const T.2.2.2.1 M.1 idx 0 3 _ = some zs
  unfold rx_h_const
  rw [hv]
  exact h
theorem rx_k_ldc2 {idx : Nat} {v : Int} (hv : T.2.2.2.1 M.1 idx = some (.inr (1, (0, v)))) (hd : rx_aw M.2.1 pc 20 idx = true) : rx_entOK B (bx_xh B T Cn cp sl) T M pc (.inl (fun _ => rx_h_push (.inr (1, (0, v))) 3)) := by
  refine ⟨_, _, (rx_d_ldc2_w hd), fun d I F ht c s lv st => ⟨rx_ifN _, fun zs h => ?_⟩⟩
  show rx_h_const T.2.2.2.1 M.1 idx 1 3 _ = some zs
  unfold rx_h_const
  rw [hv]
  exact h
theorem rx_k_sipush {n m : Int} (hn : (Int16.ofInt n).toInt32.toInt = m) (hd : rx_at_ M.2.1 pc 17 n = true) : rx_entOK B (bx_xh B T Cn cp sl) T M pc (.inl (fun _ => rx_h_push (rx_n m) 3)) := by
  subst hn
  exact ⟨_, _, (rx_d_sipush hd), fun _ _ _ _ _ _ _ _ => ⟨rx_ifN _, fun _ h => h⟩⟩
theorem rx_k_if {cnd : Jvm.ClassFile.Cond} {off : Int} {tgt nx : Nat} (ho : rx_off pc off = some tgt) (hn : pc + 3 = nx) (hd : rx_at_ M.2.1 pc (153 + rx_cdn cnd) off = true) : rx_entOK B (bx_xh B T Cn cp sl) T M pc (.inl (fun _ => rx_q_if cnd tgt nx)) := by
  subst hn
  refine ⟨_, _, (rx_d_ifCond hd), fun d I F ht c s lv st => ⟨rx_ifN _, fun zs h => ?_⟩⟩
  show rx_h_if cnd off (I, F, ht, c, s, pc, lv, st) = some zs
  have ho2 : rx_off (rx_zpc (I, F, ht, c, s, pc, lv, st)) off = some tgt := ho
  have h : rx_q_if cnd tgt (pc + 3) (I, F, ht, c, s, pc, lv, st) = some zs := h
  unfold rx_q_if at h
  unfold rx_h_if
  rw [ho2]
  split at h
  · rename_i e
    rw [e]
    exact h
  · cases h
theorem rx_k_icmp {cnd : Jvm.ClassFile.Cond} {off : Int} {tgt nx : Nat} (ho : rx_off pc off = some tgt) (hn : pc + 3 = nx) (hd : rx_at_ M.2.1 pc (159 + rx_cdn cnd) off = true) : rx_entOK B (bx_xh B T Cn cp sl) T M pc (.inl (fun _ => rx_q_icmp cnd tgt nx)) := by
  subst hn
  refine ⟨_, _, (rx_d_if_icmp hd), fun d I F ht c s lv st => ⟨rx_ifN _, fun zs h => ?_⟩⟩
  show rx_h_icmp cnd off (I, F, ht, c, s, pc, lv, st) = some zs
  have ho2 : rx_off (rx_zpc (I, F, ht, c, s, pc, lv, st)) off = some tgt := ho
  have h : rx_q_icmp cnd tgt (pc + 3) (I, F, ht, c, s, pc, lv, st) = some zs := h
  unfold rx_q_icmp at h
  unfold rx_h_icmp
  rw [ho2]
  split at h
  · rename_i e
    rw [e]
    exact h
  · cases h
theorem rx_k_lcmp {cnd : Jvm.ClassFile.Cond} {off : Int} {tgt nx : Nat} (ho : rx_off (pc + 1) off = some tgt) (hn : pc + 4 = nx) (hd2 : rx_at_ M.2.1 (pc + 1) (153 + rx_cdn cnd) off = true) (hd : rx_a0 M.2.1 pc 148 = true) : rx_entOK B (bx_xh B T Cn cp sl) T M pc (.inl (fun _ => rx_q_lcmp cnd tgt nx)) := by
  subst hn
  refine ⟨_, _, (rx_d_lcmp hd), fun d I F ht c s lv st => ⟨rx_ifN _, fun zs h => ?_⟩⟩
  show rx_h_lcmp (decode M.2.1 (pc + 1)) (I, F, ht, c, s, pc, lv, st) = some zs
  have h : rx_q_lcmp cnd tgt (pc + 4) (I, F, ht, c, s, pc, lv, st) = some zs := h
  unfold rx_q_lcmp at h
  unfold rx_h_lcmp
  rw [(rx_d_ifCond hd2)]
  split at h
  · rename_i b t e
    rw [e]
    dsimp only
    split at h
    · rename_i a t2 e2
      rw [e2]
      show (match rx_off (pc + 1) off with
        | some tgt => if rx_okL I a && rx_okL I b then some (rx_fork (I, F, ht, c, s, pc, lv, st) cnd a b tgt (pc + 4) t2) else none
        | none => none) = some zs
      rw [ho]
      exact h
    · cases h
  · cases h
theorem rx_k_goto {off : Int} {tgt : Nat} (ho : rx_off pc off = some tgt) (hd : rx_at_ M.2.1 pc 167 off = true) : rx_entOK B (bx_xh B T Cn cp sl) T M pc (.inl (fun _ => rx_q_goto tgt)) := by
  refine ⟨_, _, (rx_d_goto hd), fun d I F ht c s lv st => ⟨rx_ifN _, fun zs h => ?_⟩⟩
  show rx_h_goto off (I, F, ht, c, s, pc, lv, st) = some zs
  have ho2 : rx_off (rx_zpc (I, F, ht, c, s, pc, lv, st)) off = some tgt := ho
  unfold rx_h_goto
  rw [ho2]
  exact h
theorem rx_k_reti {mc ms : Nat} (h1 : M.2.2.2.2.2.2.1 = mc) (h2 : M.2.2.2.2.2.2.2 = ms) (hr : M.2.2.2.1 = some .int) (hd : rx_a0 M.2.1 pc 172 = true) : rx_entOK B (bx_xh B T Cn cp sl) T M pc (.inr (.inl (rx_q_reti mc ms))) := by
  refine ⟨_, _, (rx_d_ireturn hd), fun I F ht c s lv st E h => ?_⟩
  unfold rx_retk
  rw [hr, rx_q_may h1 h2]
  exact h
theorem rx_k_retz {mc ms : Nat} (h1 : M.2.2.2.2.2.2.1 = mc) (h2 : M.2.2.2.2.2.2.2 = ms) (hr : M.2.2.2.1 = some .boolean) (hd : rx_a0 M.2.1 pc 172 = true) : rx_entOK B (bx_xh B T Cn cp sl) T M pc (.inr (.inl (rx_q_retz mc ms))) := by
  refine ⟨_, _, (rx_d_ireturn hd), fun I F ht c s lv st E h => ?_⟩
  unfold rx_retk
  rw [hr, rx_q_may h1 h2]
  exact h
theorem rx_k_retl {mc ms : Nat} (h1 : M.2.2.2.2.2.2.1 = mc) (h2 : M.2.2.2.2.2.2.2 = ms) (hr : M.2.2.2.1 = some .long) (hd : rx_a0 M.2.1 pc 173 = true) : rx_entOK B (bx_xh B T Cn cp sl) T M pc (.inr (.inl (rx_q_retl mc ms))) := by
  refine ⟨_, _, (rx_d_lreturn hd), fun I F ht c s lv st E h => ?_⟩
  unfold rx_retk
  rw [hr, rx_q_may h1 h2]
  exact h
theorem rx_k_retv {mc ms : Nat} (h1 : M.2.2.2.2.2.2.1 = mc) (h2 : M.2.2.2.2.2.2.2 = ms) (hr : M.2.2.2.1 = none) (hd : rx_a0 M.2.1 pc 177 = true) : rx_entOK B (bx_xh B T Cn cp sl) T M pc (.inr (.inl (rx_q_retv mc ms))) := by
  refine ⟨_, _, (rx_d_return_ hd), fun I F ht c s lv st E h => ?_⟩
  unfold rx_retk
  rw [hr, rx_q_may h1 h2]
  exact h
theorem rx_k_reta {mc ms : Nat} (h1 : M.2.2.2.2.2.2.1 = mc) (h2 : M.2.2.2.2.2.2.2 = ms) (hr : (∃ n, M.2.2.2.1 = some (.object n)) ∨ ∃ n, M.2.2.2.1 = some (.array n)) (hd : rx_a0 M.2.1 pc 176 = true) : rx_entOK B (bx_xh B T Cn cp sl) T M pc (.inr (.inl (rx_q_reta mc ms))) := by
  refine ⟨_, _, (rx_d_areturn hd), fun I F ht c s lv st E h => ?_⟩
  unfold rx_retk
  rcases hr with ⟨n, hr⟩ | ⟨n, hr⟩
  all_goals
    rw [hr, rx_q_may h1 h2]
    exact h
theorem rx_k_land (hd : rx_a0 M.2.1 pc 127 = true) : rx_entOK B (bx_xh B T Cn cp sl) T M pc (.inl (fun _ => rx_h_binL 5)) := ⟨_, _, (rx_d_land hd), fun _ _ _ _ _ _ _ _ => ⟨rx_ifN _, fun _ h => h⟩⟩
theorem rx_k_lor (hd : rx_a0 M.2.1 pc 129 = true) : rx_entOK B (bx_xh B T Cn cp sl) T M pc (.inl (fun _ => rx_h_binL 6)) := ⟨_, _, (rx_d_lor hd), fun _ _ _ _ _ _ _ _ => ⟨rx_ifN _, fun _ h => h⟩⟩
theorem rx_k_l2i (hd : rx_a0 M.2.1 pc 136 = true) : rx_entOK B (bx_xh B T Cn cp sl) T M pc (.inl (fun _ => rx_h_l2i)) := ⟨_, _, (rx_d_l2i hd), fun _ _ _ _ _ _ _ _ => ⟨rx_ifN _, fun _ h => h⟩⟩
theorem rx_k_lshl (hd : rx_a0 M.2.1 pc 121 = true) : rx_entOK B (bx_xh B T Cn cp sl) T M pc (.inl (fun _ => rx_h_lsh)) := ⟨_, _, (rx_d_lshl hd), fun _ _ _ _ _ _ _ _ => ⟨rx_ifN _, fun _ h => h⟩⟩
theorem rx_k_lshr (hd : rx_a0 M.2.1 pc 123 = true) : rx_entOK B (bx_xh B T Cn cp sl) T M pc (.inl (fun _ => rx_h_lsh)) := ⟨_, _, (rx_d_lshr hd), fun _ _ _ _ _ _ _ _ => ⟨rx_ifN _, fun _ h => h⟩⟩
theorem rx_k_alen (hd : rx_a0 M.2.1 pc 190 = true) : rx_entOK B (bx_xh B T Cn cp sl) T M pc (.inl (fun _ => bx_h_alen B.1)) := ⟨_, _, (rx_d_arraylength hd), fun _ _ _ _ _ _ _ _ => ⟨rx_ifN _, fun _ h => h⟩⟩
theorem rx_k_iaload (hd : rx_a0 M.2.1 pc 46 = true) : rx_entOK B (bx_xh B T Cn cp sl) T M pc (.inl (fun _ => bx_h_ald B.1 B.2.1 B.2.2.2 (rx_isTc 0))) := ⟨_, _, (rx_d_iaload hd), fun _ _ _ _ _ _ _ _ => ⟨rx_ifN _, fun _ h => h⟩⟩
theorem rx_k_baload (hd : rx_a0 M.2.1 pc 51 = true) : rx_entOK B (bx_xh B T Cn cp sl) T M pc (.inl (fun _ => bx_h_ald B.1 B.2.1 B.2.2.2 (rx_isTc 1))) := ⟨_, _, (rx_d_baload hd), fun _ _ _ _ _ _ _ _ => ⟨rx_ifN _, fun _ h => h⟩⟩
theorem rx_k_laload (hd : rx_a0 M.2.1 pc 47 = true) : rx_entOK B (bx_xh B T Cn cp sl) T M pc (.inl (fun _ => bx_h_ald B.1 B.2.1 B.2.2.2 (rx_isTc 2))) := ⟨_, _, (rx_d_laload hd), fun _ _ _ _ _ _ _ _ => ⟨rx_ifN _, fun _ h => h⟩⟩
theorem rx_k_aaload (hd : rx_a0 M.2.1 pc 50 = true) : rx_entOK B (bx_xh B T Cn cp sl) T M pc (.inl (fun _ => bx_h_ald B.1 B.2.1 B.2.2.2 rx_isRef)) := ⟨_, _, (rx_d_aaload hd), fun _ _ _ _ _ _ _ _ => ⟨rx_ifN _, fun _ h => h⟩⟩
theorem rx_k_iastore (hd : rx_a0 M.2.1 pc 79 = true) : rx_entOK B (bx_xh B T Cn cp sl) T M pc (.inl (fun _ => bx_h_ast B.1 B.2.2.1 B.2.2.2 (rx_isTc 0))) := ⟨_, _, (rx_d_iastore hd), fun _ _ _ _ _ _ _ _ => ⟨rx_ifN _, fun _ h => h⟩⟩
theorem rx_k_bastore (hd : rx_a0 M.2.1 pc 84 = true) : rx_entOK B (bx_xh B T Cn cp sl) T M pc (.inl (fun _ => bx_h_ast B.1 B.2.2.1 B.2.2.2 (rx_isTc 1))) := ⟨_, _, (rx_d_bastore hd), fun _ _ _ _ _ _ _ _ => ⟨rx_ifN _, fun _ h => h⟩⟩
theorem rx_k_lastore (hd : rx_a0 M.2.1 pc 80 = true) : rx_entOK B (bx_xh B T Cn cp sl) T M pc (.inl (fun _ => bx_h_ast B.1 B.2.2.1 B.2.2.2 (rx_isTc 2))) := ⟨_, _, (rx_d_lastore hd), fun _ _ _ _ _ _ _ _ => ⟨rx_ifN _, fun _ h => h⟩⟩
theorem rx_k_get {idx : Nat} {q : rx_Q} (hq : T.1 M.1 idx = some q) (hd : rx_aw M.2.1 pc 180 idx = true) : rx_entOK B (bx_xh B T Cn cp sl) T M pc (.inl (fun _ => bx_q_get B.1 B.2.1 B.2.2.2 q)) := by
  refine ⟨_, _, (rx_d_getfield hd), fun d I F ht c s lv st => ⟨rx_ifN _, fun zs h => ?_⟩⟩
  dsimp only at h
  rw [bx_q_get_eq hq] at h
  exact h
theorem rx_k_put {idx : Nat} {q : rx_Q} (hq : T.1 M.1 idx = some q) (hd : rx_aw M.2.1 pc 181 idx = true) : rx_entOK B (bx_xh B T Cn cp sl) T M pc (.inl (fun _ => bx_q_put B.1 B.2.2.1 B.2.2.2 q)) := by
  refine ⟨_, _, (rx_d_putfield hd), fun d I F ht c s lv st => ⟨rx_ifN _, fun zs h => ?_⟩⟩
  dsimp only at h
  rw [bx_q_put_eq hq] at h
  exact h
theorem rx_k_ldcS {idx n : Nat} (hs : sl M.1 idx = some n) (hd : rx_au M.2.1 pc 18 idx = true) : rx_entOK B (bx_xh B T Cn cp sl) T M pc (.inl (fun _ => rx_h_push (.inr (3, (0, (n : Int)))) 2)) := by
  refine ⟨_, _, (rx_d_ldc hd), fun d I F ht c s lv st => ⟨rx_ifN _, fun zs h => ?_⟩⟩
  have e : bx_xh B T Cn cp sl d M (.ldc idx) 2 (I, F, ht, c, s, pc, lv, st) = some zs := by
    show rx_or (match sl M.1 idx with
      | some n => rx_if (2 == 2) (some [rx_nx (I, F, ht, c, s, pc, lv, st) 2 (.inr (3, (0, (n : Int))) :: rx_zst (I, F, ht, c, s, pc, lv, st))])
      | none => none) none = some zs
    rw [hs]
    exact h
  rw [e]
  rfl
theorem rx_k_st {idx k : Nat} (hx : cp M.1 idx = some k) (hd : rx_aw M.2.1 pc 184 idx = true) : rx_entOK B (bx_xh B T Cn cp sl) T M pc (.inl (bx_x_st B k)) := by
  refine ⟨_, _, (rx_d_invokestatic hd), fun d I F ht c s lv st => ⟨rx_ifN _, fun zs h => ?_⟩⟩
  have e : bx_xh B T Cn cp sl d M (.invokestatic idx) 3 (I, F, ht, c, s, pc, lv, st) = some zs := by
    show rx_or (match cp M.1 idx with
      | some k => rx_if (3 == 3) (bx_x_st B k d (I, F, ht, c, s, pc, lv, st))
      | none => none) _ = some zs
    rw [hx]
    show rx_or (bx_x_st B k d (I, F, ht, c, s, pc, lv, st)) _ = some zs
    try dsimp only at h
    rw [h]
    rfl
  rw [e]
  rfl
theorem rx_k_cc0 {idx how n ci j_p : Nat} {M_p : rx_Mt} {cts : List bx_Ct} (hq : T.2.2.2.2.1 M.1 idx = some (how, n, ci, j_p)) (hM : T.2.2.2.2.2 j_p = some M_p) (hw : (how % 3 == 0 && decide (how < 6)) = true) (hC : Cn j_p = cts) (hd : rx_aw M.2.1 pc 182 idx = true) : rx_entOK B (bx_xh B T Cn cp sl) T M pc (.inl (fun d z => match bx_q_vcall B M M_p n ci z with
    | some a => bx_any B M_p d z a.1 a.2 cts
    | none => none)) := by
  have hprep : ∀ (I : rx_I) (F : rx_F) (ht : List rx_C) (c s : Nat) (lv : List (Nat × rx_V)) (st : List rx_V) (a : List rx_V × List rx_V), bx_q_vcall B M M_p n ci (I, F, ht, c, s, pc, lv, st) = some a → rx_prep B T M (.invokevirtual idx) 3 (I, F, ht, c, s, pc, lv, st) = some ((how, n, ci, j_p), M_p, a.1, a.2) := by
    intro I F ht c s lv st a h
    unfold rx_prep rx_cidx
    unfold bx_q_vcall at h
    dsimp only at h ⊢
    rw [hq]
    dsimp only
    rw [hM]
    split at h
    · rename_i as2 t2 e
      rw [e]
      dsimp only
      rw [hw]
      split at h
      · rename_i k t3 e2
        obtain ⟨h1, h2⟩ := rx_if_ok h
        cases h2
        have hne : ¬ ((0 : Nat) = 1) := by decide
        rw [if_neg hne, e2]
        dsimp only
        rw [h1]
        rfl
      · cases h
    · cases h
  refine ⟨_, _, (rx_d_invokevirtual hd), fun d I F ht c s lv st => ⟨rx_ifN _, fun zs h => ?_⟩⟩
  dsimp only at h
  split at h
  · rename_i a ha
    have e0 : bx_xs B cp sl d M (.invokevirtual idx) 3 (I, F, ht, c, s, pc, lv, st) = none := by
      rfl
    have e : bx_xh B T Cn cp sl d M (.invokevirtual idx) 3 (I, F, ht, c, s, pc, lv, st) = some zs := by
      show rx_or (bx_xs B cp sl d M (.invokevirtual idx) 3 (I, F, ht, c, s, pc, lv, st)) (bx_hook B T Cn d M (.invokevirtual idx) 3 (I, F, ht, c, s, pc, lv, st)) = some zs
      rw [e0]
      show bx_hook B T Cn d M (.invokevirtual idx) 3 (I, F, ht, c, s, pc, lv, st) = some zs
      unfold bx_hook
      rw [hprep I F ht c s lv st a ha]
      dsimp only
      rw [hC]
      exact h
    rw [e]
    rfl
  · cases h
theorem rx_k_call0 {idx how n ci j_p : Nat} {M_p : rx_Mt} (hq : T.2.2.2.2.1 M.1 idx = some (how, n, ci, j_p)) (hM : T.2.2.2.2.2 j_p = some M_p) (hw : (how % 3 == 0 && decide (how < 6)) = true) (hC : Cn j_p = []) (hd : rx_aw M.2.1 pc 182 idx = true) : rx_entOK B (bx_xh B T Cn cp sl) T M pc (.inr (.inr (j_p, M_p, bx_q_vcall B M M_p n ci))) := by
  have hprep : ∀ (I : rx_I) (F : rx_F) (ht : List rx_C) (c s : Nat) (lv : List (Nat × rx_V)) (st : List rx_V) (a : List rx_V × List rx_V), bx_q_vcall B M M_p n ci (I, F, ht, c, s, pc, lv, st) = some a → rx_prep B T M (.invokevirtual idx) 3 (I, F, ht, c, s, pc, lv, st) = some ((how, n, ci, j_p), M_p, a.1, a.2) := by
    intro I F ht c s lv st a h
    unfold rx_prep rx_cidx
    unfold bx_q_vcall at h
    dsimp only at h ⊢
    rw [hq]
    dsimp only
    rw [hM]
    split at h
    · rename_i as2 t2 e
      rw [e]
      dsimp only
      rw [hw]
      split at h
      · rename_i k t3 e2
        obtain ⟨h1, h2⟩ := rx_if_ok h
        cases h2
        have hne : ¬ ((0 : Nat) = 1) := by decide
        rw [if_neg hne, e2]
        dsimp only
        rw [h1]
        rfl
      · cases h
    · cases h
  refine ⟨_, _, (rx_d_invokevirtual hd), hM, fun d I F ht c s lv st => ⟨rx_ifN _, ?_, fun as t h => ⟨(how, n, ci, j_p), hprep I F ht c s lv st (as, t) h⟩⟩⟩
  have e0 : bx_xs B cp sl d M (.invokevirtual idx) 3 (I, F, ht, c, s, pc, lv, st) = none := by
    rfl
  have e1 : bx_hook B T Cn d M (.invokevirtual idx) 3 (I, F, ht, c, s, pc, lv, st) = none := by
    unfold bx_hook
    split
    · rfl
    · rename_i q M2 as t hp
      obtain ⟨op, idx2, hci, -, hq2, -⟩ := rx_prep_ok hp
      have hci2 : some (0, idx) = some (op, idx2) := hci
      cases hci2
      rw [hq] at hq2
      cases hq2
      dsimp only
      rw [hC]
      rfl
  show rx_or (rx_or (bx_xs B cp sl d M (.invokevirtual idx) 3 (I, F, ht, c, s, pc, lv, st)) (bx_hook B T Cn d M (.invokevirtual idx) 3 (I, F, ht, c, s, pc, lv, st))) none = none
  rw [e0, e1]
  rfl
theorem rx_k_cc1 {idx how n ci j_p : Nat} {M_p : rx_Mt} {cts : List bx_Ct} (hq : T.2.2.2.2.1 M.1 idx = some (how, n, ci, j_p)) (hM : T.2.2.2.2.2 j_p = some M_p) (hw : (how % 3 == 1 && decide (how < 6)) = true) (hx : cp M.1 idx = none) (hC : Cn j_p = cts) (hd : rx_aw M.2.1 pc 184 idx = true) : rx_entOK B (bx_xh B T Cn cp sl) T M pc (.inl (fun d z => match rx_q_scall M M_p n z with
    | some a => bx_any B M_p d z a.1 a.2 cts
    | none => none)) := by
  have hprep : ∀ (I : rx_I) (F : rx_F) (ht : List rx_C) (c s : Nat) (lv : List (Nat × rx_V)) (st : List rx_V) (a : List rx_V × List rx_V), rx_q_scall M M_p n (I, F, ht, c, s, pc, lv, st) = some a → rx_prep B T M (.invokestatic idx) 3 (I, F, ht, c, s, pc, lv, st) = some ((how, n, ci, j_p), M_p, a.1, a.2) := by
    intro I F ht c s lv st a h
    unfold rx_prep rx_cidx
    unfold rx_q_scall at h
    dsimp only at h ⊢
    rw [hq]
    dsimp only
    rw [hM]
    split at h
    · rename_i as2 t2 e
      rw [e]
      dsimp only
      rw [hw]
      obtain ⟨h1, h2⟩ := rx_if_ok h
      cases h2
      rw [h1]
      rfl
    · cases h
  refine ⟨_, _, (rx_d_invokestatic hd), fun d I F ht c s lv st => ⟨rx_ifN _, fun zs h => ?_⟩⟩
  dsimp only at h
  split at h
  · rename_i a ha
    have e0 : bx_xs B cp sl d M (.invokestatic idx) 3 (I, F, ht, c, s, pc, lv, st) = none := by
      show (match cp M.1 idx with
      | some k => rx_if (3 == 3) (bx_x_st B k d (I, F, ht, c, s, pc, lv, st))
      | none => none) = none
      rw [hx]
    have e : bx_xh B T Cn cp sl d M (.invokestatic idx) 3 (I, F, ht, c, s, pc, lv, st) = some zs := by
      show rx_or (bx_xs B cp sl d M (.invokestatic idx) 3 (I, F, ht, c, s, pc, lv, st)) (bx_hook B T Cn d M (.invokestatic idx) 3 (I, F, ht, c, s, pc, lv, st)) = some zs
      rw [e0]
      show bx_hook B T Cn d M (.invokestatic idx) 3 (I, F, ht, c, s, pc, lv, st) = some zs
      unfold bx_hook
      rw [hprep I F ht c s lv st a ha]
      dsimp only
      rw [hC]
      exact h
    rw [e]
    rfl
  · cases h
theorem rx_k_call1 {idx how n ci j_p : Nat} {M_p : rx_Mt} (hq : T.2.2.2.2.1 M.1 idx = some (how, n, ci, j_p)) (hM : T.2.2.2.2.2 j_p = some M_p) (hw : (how % 3 == 1 && decide (how < 6)) = true) (hx : cp M.1 idx = none) (hC : Cn j_p = []) (hd : rx_aw M.2.1 pc 184 idx = true) : rx_entOK B (bx_xh B T Cn cp sl) T M pc (.inr (.inr (j_p, M_p, rx_q_scall M M_p n))) := by
  have hprep : ∀ (I : rx_I) (F : rx_F) (ht : List rx_C) (c s : Nat) (lv : List (Nat × rx_V)) (st : List rx_V) (a : List rx_V × List rx_V), rx_q_scall M M_p n (I, F, ht, c, s, pc, lv, st) = some a → rx_prep B T M (.invokestatic idx) 3 (I, F, ht, c, s, pc, lv, st) = some ((how, n, ci, j_p), M_p, a.1, a.2) := by
    intro I F ht c s lv st a h
    unfold rx_prep rx_cidx
    unfold rx_q_scall at h
    dsimp only at h ⊢
    rw [hq]
    dsimp only
    rw [hM]
    split at h
    · rename_i as2 t2 e
      rw [e]
      dsimp only
      rw [hw]
      obtain ⟨h1, h2⟩ := rx_if_ok h
      cases h2
      rw [h1]
      rfl
    · cases h
  refine ⟨_, _, (rx_d_invokestatic hd), hM, fun d I F ht c s lv st => ⟨rx_ifN _, ?_, fun as t h => ⟨(how, n, ci, j_p), hprep I F ht c s lv st (as, t) h⟩⟩⟩
  have e0 : bx_xs B cp sl d M (.invokestatic idx) 3 (I, F, ht, c, s, pc, lv, st) = none := by
    show (match cp M.1 idx with
      | some k => rx_if (3 == 3) (bx_x_st B k d (I, F, ht, c, s, pc, lv, st))
      | none => none) = none
    rw [hx]
  have e1 : bx_hook B T Cn d M (.invokestatic idx) 3 (I, F, ht, c, s, pc, lv, st) = none := by
    unfold bx_hook
    split
    · rfl
    · rename_i q M2 as t hp
      obtain ⟨op, idx2, hci, -, hq2, -⟩ := rx_prep_ok hp
      have hci2 : some (1, idx) = some (op, idx2) := hci
      cases hci2
      rw [hq] at hq2
      cases hq2
      dsimp only
      rw [hC]
      rfl
  show rx_or (rx_or (bx_xs B cp sl d M (.invokestatic idx) 3 (I, F, ht, c, s, pc, lv, st)) (bx_hook B T Cn d M (.invokestatic idx) 3 (I, F, ht, c, s, pc, lv, st))) none = none
  rw [e0, e1]
  rfl
end RXK
/-! calls: by contract, where there is one; else walked -/
section RXE
variable {B : bx_B} {T : rx_Tb} {M : rx_Mt} {pc : Nat} {Cn : Nat → List bx_Ct} {cp : Nat → Nat → Option Nat} {sl : Nat → Nat → Option Nat}
def bx_e0 (B : bx_B) (M M_p : rx_Mt) (n ci j_p : Nat) (cts : List bx_Ct) : rx_Ent := match cts with
  | [] => .inr (.inr (j_p, M_p, bx_q_vcall B M M_p n ci))
  | ct :: l => .inl (fun d z => match bx_q_vcall B M M_p n ci z with
    | some a => bx_any B M_p d z a.1 a.2 (ct :: l)
    | none => none)
def bx_e1 (B : bx_B) (M M_p : rx_Mt) (n j_p : Nat) (cts : List bx_Ct) : rx_Ent := match cts with
  | [] => .inr (.inr (j_p, M_p, rx_q_scall M M_p n))
  | ct :: l => .inl (fun d z => match rx_q_scall M M_p n z with
    | some a => bx_any B M_p d z a.1 a.2 (ct :: l)
    | none => none)
theorem rx_k_e0 {idx how n ci j_p : Nat} {M_p : rx_Mt} (hq : T.2.2.2.2.1 M.1 idx = some (how, n, ci, j_p)) (hM : T.2.2.2.2.2 j_p = some M_p) (hw : (how % 3 == 0 && decide (how < 6)) = true) (hd : rx_aw M.2.1 pc 182 idx = true) : rx_entOK B (bx_xh B T Cn cp sl) T M pc (bx_e0 B M M_p n ci j_p (Cn j_p)) := by
  cases hC : Cn j_p with
  | nil => exact rx_k_call0 hq hM hw hC hd
  | cons ct l => exact rx_k_cc0 hq hM hw hC hd
theorem rx_k_e1 {idx how n ci j_p : Nat} {M_p : rx_Mt} (hq : T.2.2.2.2.1 M.1 idx = some (how, n, ci, j_p)) (hM : T.2.2.2.2.2 j_p = some M_p) (hw : (how % 3 == 1 && decide (how < 6)) = true) (hx : cp M.1 idx = none) (hd : rx_aw M.2.1 pc 184 idx = true) : rx_entOK B (bx_xh B T Cn cp sl) T M pc (bx_e1 B M M_p n j_p (Cn j_p)) := by
  cases hC : Cn j_p with
  | nil => exact rx_k_call1 hq hM hw hx hC hd
  | cons ct l => exact rx_k_cc1 hq hM hw hx hC hd
end RXE
