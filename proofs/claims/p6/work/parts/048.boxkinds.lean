/-! THE BOX MACHINE: what a place does, a kind each -/
/-- what is neither walked nor called by contract: texts' constants (places beyond the heap's), whole rows copied -/
def bx_pt (z : rx_Z) (e : rx_E) : Option Int := match rx_bi z.1 e with
  | some (lo, hi) => if lo = hi then some lo else none
  | none => none
def bx_x_copy (B : bx_B) (d : Nat) (z : rx_Z) : Option (List rx_Z) := match rx_pi (rx_zst z) with
  | some (n, t) => match rx_pi t with
    | some (dp, t) => match bx_pp t with
      | some (k1, t) => match rx_pi t with
        | some (sp, t) => match bx_pp t with
          | some (k0, t) => match bx_dm z.2.2.1 k0.1, bx_dm z.2.2.1 k1.1 with
            | some d0, some d1 => match B.1.1 d0 k0.2, B.1.1 d1 k1.2 with
              | some (.inr (tc0, n0, _)), some (.inr (tc1, n1, g1)) => match B.1.2.1 d0 k0.2 0 ((n0 : Int) - 1) 1, B.1.2.2 d1 k1.2 0 ((n0 : Int) - 1) 1 with
                | some (0, l0, h0), some (0, l1, h1) => rx_if (tc0 == 0 && (tc1 == 0 && (n0 == n1 && (bx_pt z n == some (n0 : Int) && (bx_pt z dp == some 0 && (bx_pt z sp == some 0 && (decide (l1 ≤ l0) && (decide (h0 ≤ h1) && (decide (1 ≤ d) && (decide (rx_cats t ≤ 8) && (decide (n0 < 2000000000) && (bx_mdr B.2.2.2 g1 0 ((n0 : Int) - 1) && !(bx_lg B.2.2.2)))))))))))))
                    (some [rx_nxh (z.2.2.1.filter (bx_keepR B.1 z.2.2.1 0 ((n0 : Int) - 1) g1)) z 3 t])
                | _, _ => none
              | _, _ => none
            | _, _ => none
          | none => none
        | none => none
      | none => none
    | none => none
  | none => none
def bx_x_mm (mx : Bool) (d : Nat) (z : rx_Z) : Option (List rx_Z) := match rx_pi (rx_zst z) with
  | some (b, t) => match rx_pi t with
    | some (a, t) => rx_if (rx_okI z.1 a && (rx_okI z.1 b && (decide (1 ≤ d) && (decide (rx_cats t ≤ 8) && (z.2.2.2.1 == 0 && z.2.2.2.2.1 == 0)))))
        (some (rx_way z (0, rx_nm z.1 b, rx_nm z.1 a) (rx_zpc z + 3) (.inr (0, if mx = true then a else b) :: t) ++ rx_way z (1, rx_nm z.1 a, rx_nm z.1 b) (rx_zpc z + 3) (.inr (0, if mx = true then b else a) :: t)))
    | none => none
  | none => none
/-- 0: rows copied; 1: the smaller; 2: the larger -/
def bx_x_st (B : bx_B) (k : Nat) : Nat → rx_Z → Option (List rx_Z) := match k with
  | 0 => bx_x_copy B
  | 1 => bx_x_mm false
  | _ => bx_x_mm true
def bx_xs (B : bx_B) (cp : Nat → Nat → Option Nat) (sl : Nat → Nat → Option Nat) : rx_Xh := fun d M i len z => match i with
  | .ldc idx => (match sl M.1 idx with
    | some n => rx_if (len == 2) (some [rx_nx z 2 (.inr (3, (0, (n : Int))) :: rx_zst z)])
    | none => none)
  | .invokestatic idx => (match cp M.1 idx with
    | some k => rx_if (len == 3) (bx_x_st B k d z)
    | none => none)
  | _ => none
def bx_xh (B : bx_B) (T : rx_Tb) (Cn : Nat → List bx_Ct) (cp : Nat → Nat → Option Nat) (sl : Nat → Nat → Option Nat) : rx_Xh := fun d M i len z => rx_or (bx_xs B cp sl d M i len z) (bx_hook B T Cn d M i len z)
noncomputable def rx_l {α : Type} (l : List (Nat × α)) (i : Nat) : Option α := List.rec (motive := fun _ => Option α) none (fun q _ ih => Bool.rec (motive := fun _ => Option α) ih (some q.2) (Nat.beq q.1 i)) l
theorem rx_l_eq {i : Nat} : ∀ l : List (Nat × rx_V), rx_l l i = rx_lk l i
  | [] => rfl
  | q :: l => by
    have ih := rx_l_eq (i := i) l
    show Bool.rec (motive := fun _ => Option rx_V) (rx_l l i) (some q.2) (Nat.beq q.1 i) = rx_lk (q :: l) i
    rw [rx_lk]
    by_cases h : q.1 = i
    · rw [if_pos h, Nat.beq_eq.mpr h]
    · rw [if_neg h, Bool.eq_false_iff.mpr fun h2 => h (Nat.beq_eq.mp h2)]
      exact ih
def rx_q_mc (mc ms : Nat) (z : rx_Z) : Bool := Nat.ble z.2.2.2.1 mc && Nat.ble z.2.2.2.2.1 ms
def rx_q_reti (mc ms : Nat) (z : rx_Z) : Option rx_End := rx_if (rx_q_mc mc ms z) (match rx_zst z with
  | [.inr (0, e)] => some (z.1, z.2.1, z.2.2.1, some (.inr (0, e)))
  | _ => none)
def rx_q_retz (mc ms : Nat) (z : rx_Z) : Option rx_End := rx_if (rx_q_mc mc ms z) (match rx_zst z with
  | [.inr (0, e)] => rx_if (rx_in01 z.1 e) (some (z.1, z.2.1, z.2.2.1, some (.inr (0, e))))
  | _ => none)
def rx_q_retl (mc ms : Nat) (z : rx_Z) : Option rx_End := rx_if (rx_q_mc mc ms z) (match rx_zst z with
  | [.inr (1, e)] => some (z.1, z.2.1, z.2.2.1, some (.inr (1, e)))
  | _ => none)
def rx_q_reta (mc ms : Nat) (z : rx_Z) : Option rx_End := rx_if (rx_q_mc mc ms z) (match rx_zst z with
  | [.inr (3, e)] => some (z.1, z.2.1, z.2.2.1, some (.inr (3, e)))
  | _ => none)
def rx_q_retv (mc ms : Nat) (z : rx_Z) : Option rx_End := rx_if (rx_q_mc mc ms z) (match rx_zst z with
  | [] => some (z.1, z.2.1, z.2.2.1, none)
  | _ => none)
def rx_q_scall (M M_p : rx_Mt) (n : Nat) (z : rx_Z) : Option (List rx_V × List rx_V) := match rx_take n [] (rx_zst z) with
  | some (as, t) => rx_if (rx_may M M_p z as t) (some (as, t))
  | none => none
def rx_q_if (cnd : Jvm.ClassFile.Cond) (tgt nx : Nat) (z : rx_Z) : Option (List rx_Z) := match rx_pi (rx_zst z) with
  | some (a, t) => if rx_okI z.1 a then some (rx_fork z cnd a (0, 0) tgt nx t) else none
  | none => none
def rx_q_icmp (cnd : Jvm.ClassFile.Cond) (tgt nx : Nat) (z : rx_Z) : Option (List rx_Z) := match rx_pi (rx_zst z) with
  | some (b, t) => match rx_pi t with
    | some (a, t) => if rx_okI z.1 a && rx_okI z.1 b then some (rx_fork z cnd a b tgt nx t) else none
    | none => none
  | none => none
def rx_q_lcmp (cnd : Jvm.ClassFile.Cond) (tgt nx : Nat) (z : rx_Z) : Option (List rx_Z) := match rx_pl (rx_zst z) with
  | some (b, t) => match rx_pl t with
    | some (a, t) => if rx_okL z.1 a && rx_okL z.1 b then some (rx_fork z cnd a b tgt nx t) else none
    | none => none
  | none => none
def rx_q_goto (tgt : Nat) (z : rx_Z) : Option (List rx_Z) := some [rx_jp z.1 z.2.1 z tgt (rx_zst z)]
theorem rx_beqd {α : Type} {a b : Nat} {x y : α} : (match Nat.beq a b with
    | true => x
    | false => y) = if a = b then x else y := by
  by_cases h : a = b
  · rw [if_pos h, Nat.beq_eq.mpr h]
  · rw [if_neg h, Bool.eq_false_iff.mpr fun h2 => h (Nat.beq_eq.mp h2)]
/-- fields: the table's row in place of its look-up -/
def bx_q_get (V : bx_V) (np : Nat) (md : Nat → Nat → Bool) (q : rx_Q) (z : rx_Z) : Option (List rx_Z) := bx_h_get V np md (fun _ => some q) 0 z
theorem bx_q_get_eq {V : bx_V} {np idx : Nat} {md : Nat → Nat → Bool} {fr : Nat → Option rx_Q} {q : rx_Q} (hq : fr idx = some q) (z : rx_Z) : bx_q_get V np md q z = bx_h_get V np md fr idx z := by
  unfold bx_q_get bx_h_get
  rw [hq]
def bx_q_put (V : bx_V) (dmf : Nat → Int → Bool) (md : Nat → Nat → Bool) (q : rx_Q) (z : rx_Z) : Option (List rx_Z) := bx_h_put V dmf md (fun _ => some q) 0 z
theorem bx_q_put_eq {V : bx_V} {dmf : Nat → Int → Bool} {md : Nat → Nat → Bool} {idx : Nat} {fr : Nat → Option rx_Q} {q : rx_Q} (hq : fr idx = some q) (z : rx_Z) : bx_q_put V dmf md q z = bx_h_put V dmf md fr idx z := by
  unfold bx_q_put bx_h_put
  rw [hq]
noncomputable def rx_q_load (kd i d : Nat) (z : rx_Z) : Option (List rx_Z) := match rx_l (rx_zlv z) i with
  | some (.inr (j, e)) => match Nat.beq j kd with
    | true => some [rx_nx z d (.inr (j, e) :: rx_zst z)]
    | false => none
  | _ => none
theorem rx_q_load_eq (kd i d : Nat) (z : rx_Z) : rx_q_load kd i d z = rx_h_load kd i d z := by
  unfold rx_q_load rx_h_load
  simp only [rx_l_eq, rx_beqd]
  rfl
noncomputable def rx_q_loadA (i d : Nat) (z : rx_Z) : Option (List rx_Z) := match rx_l (rx_zlv z) i with
  | some (.inl o) => some [rx_nx z d (.inl o :: rx_zst z)]
  | some (.inr (j + 2, e)) => some [rx_nx z d (.inr (j + 2, e) :: rx_zst z)]
  | _ => none
theorem rx_q_loadA_eq (i d : Nat) (z : rx_Z) : rx_q_loadA i d z = rx_h_loadA i d z := by
  unfold rx_q_loadA rx_h_loadA
  simp only [rx_l_eq]
  rfl
def bx_q_vcall (B : bx_B) (M M_p : rx_Mt) (n ci : Nat) (z : rx_Z) : Option (List rx_V × List rx_V) := match rx_take n [] (rx_zst z) with
  | some (as, t) => match rx_rcv B z.2.2.1 ci t with
    | some (k, t2) => rx_if (rx_may M M_p z (.inr (3, k) :: as) t2) (some (.inr (3, k) :: as, t2))
    | none => none
  | none => none
theorem rx_ifN {α : Type} (b : Bool) : rx_if b (none : Option α) = none := by
  cases b <;> rfl
theorem rx_q_may {M : rx_Mt} {mc ms : Nat} {z : rx_Z} {α : Type} {x : Option α} (h1 : M.2.2.2.2.2.2.1 = mc) (h2 : M.2.2.2.2.2.2.2 = ms) : rx_if (1 == 1 && (decide (z.2.2.2.1 ≤ M.2.2.2.2.2.2.1) && decide (z.2.2.2.2.1 ≤ M.2.2.2.2.2.2.2))) x = rx_if (rx_q_mc mc ms z) x := by
  subst h1; subst h2
  have e : ∀ a b : Nat, decide (a ≤ b) = Nat.ble a b := fun a b => by
    rw [Bool.eq_iff_iff, decide_eq_true_eq, Nat.ble_eq]
  unfold rx_q_mc
  rw [e, e]
  rfl
section RXK
variable {B : bx_B} {T : rx_Tb} {M : rx_Mt} {pc : Nat} {Cn : Nat → List bx_Ct} {cp : Nat → Nat → Option Nat} {sl : Nat → Nat → Option Nat}
theorem rx_k_iconst {n m : Int} (hn : n = m) (hd : decode M.2.1 pc = .ok (.iconst n, 1)) : rx_entOK B (bx_xh B T Cn cp sl) T M pc (.inl (fun _ => rx_h_push (rx_n m) 1)) := by
  subst hn
  exact ⟨_, _, hd, fun _ _ _ _ _ _ _ _ => ⟨rx_ifN _, fun _ h => h⟩⟩
theorem rx_k_bipush {n m : Int} (hn : (Int8.ofInt n).toInt32.toInt = m) (hd : decode M.2.1 pc = .ok (.bipush n, 2)) : rx_entOK B (bx_xh B T Cn cp sl) T M pc (.inl (fun _ => rx_h_push (rx_n m) 2)) := by
  subst hn
  exact ⟨_, _, hd, fun _ _ _ _ _ _ _ _ => ⟨rx_ifN _, fun _ h => h⟩⟩
theorem rx_k_lconst {n : Fin 2} {m : Int} (hn : ((n : Nat) : Int) = m) (hd : decode M.2.1 pc = .ok (.lconst n, 1)) : rx_entOK B (bx_xh B T Cn cp sl) T M pc (.inl (fun _ => rx_h_push (.inr (1, (0, m))) 1)) := by
  subst hn
  exact ⟨_, _, hd, fun _ _ _ _ _ _ _ _ => ⟨rx_ifN _, fun _ h => h⟩⟩
theorem rx_k_null (hd : decode M.2.1 pc = .ok (.aconst_null, 1)) : rx_entOK B (bx_xh B T Cn cp sl) T M pc (.inl (fun _ => rx_h_push (.inl none) 1)) := ⟨_, _, hd, fun _ _ _ _ _ _ _ _ => ⟨rx_ifN _, fun _ h => h⟩⟩
theorem rx_k_iload_n {k : Fin 4} {i : Nat} (hk : (k : Nat) = i) (hd : decode M.2.1 pc = .ok (.iload_n k, 1)) : rx_entOK B (bx_xh B T Cn cp sl) T M pc (.inl (fun _ => rx_q_load 0 i 1)) := by
  subst hk
  refine ⟨_, _, hd, fun d I F ht c s lv st => ⟨rx_ifN _, fun zs h => ?_⟩⟩
  try dsimp only at h
  rw [rx_q_load_eq] at h
  exact h
theorem rx_k_iload {i : Nat} (hd : decode M.2.1 pc = .ok (.iload i, 2)) : rx_entOK B (bx_xh B T Cn cp sl) T M pc (.inl (fun _ => rx_q_load 0 i 2)) := by
  refine ⟨_, _, hd, fun d I F ht c s lv st => ⟨rx_ifN _, fun zs h => ?_⟩⟩
  try dsimp only at h
  rw [rx_q_load_eq] at h
  exact h
theorem rx_k_lload_n {k : Fin 4} {i : Nat} (hk : (k : Nat) = i) (hd : decode M.2.1 pc = .ok (.lload_n k, 1)) : rx_entOK B (bx_xh B T Cn cp sl) T M pc (.inl (fun _ => rx_q_load 1 i 1)) := by
  subst hk
  refine ⟨_, _, hd, fun d I F ht c s lv st => ⟨rx_ifN _, fun zs h => ?_⟩⟩
  try dsimp only at h
  rw [rx_q_load_eq] at h
  exact h
theorem rx_k_lload {i : Nat} (hd : decode M.2.1 pc = .ok (.lload i, 2)) : rx_entOK B (bx_xh B T Cn cp sl) T M pc (.inl (fun _ => rx_q_load 1 i 2)) := by
  refine ⟨_, _, hd, fun d I F ht c s lv st => ⟨rx_ifN _, fun zs h => ?_⟩⟩
  try dsimp only at h
  rw [rx_q_load_eq] at h
  exact h
theorem rx_k_aload_n {k : Fin 4} {i : Nat} (hk : (k : Nat) = i) (hd : decode M.2.1 pc = .ok (.aload_n k, 1)) : rx_entOK B (bx_xh B T Cn cp sl) T M pc (.inl (fun _ => rx_q_loadA i 1)) := by
  subst hk
  refine ⟨_, _, hd, fun d I F ht c s lv st => ⟨rx_ifN _, fun zs h => ?_⟩⟩
  try dsimp only at h
  rw [rx_q_loadA_eq] at h
  exact h
theorem rx_k_aload {i : Nat} (hd : decode M.2.1 pc = .ok (.aload i, 2)) : rx_entOK B (bx_xh B T Cn cp sl) T M pc (.inl (fun _ => rx_q_loadA i 2)) := by
  refine ⟨_, _, hd, fun d I F ht c s lv st => ⟨rx_ifN _, fun zs h => ?_⟩⟩
  try dsimp only at h
  rw [rx_q_loadA_eq] at h
  exact h
theorem rx_k_istore_n {k : Fin 4} {i nL : Nat} (hk : (k : Nat) = i) (hL : M.2.2.1 = nL) (hd : decode M.2.1 pc = .ok (.istore_n k, 1)) : rx_entOK B (bx_xh B T Cn cp sl) T M pc (.inl (fun _ => rx_h_istore nL i 1)) := by
  subst hk; subst hL
  exact ⟨_, _, hd, fun _ _ _ _ _ _ _ _ => ⟨rx_ifN _, fun _ h => h⟩⟩
theorem rx_k_istore {i nL : Nat} (hL : M.2.2.1 = nL) (hd : decode M.2.1 pc = .ok (.istore i, 2)) : rx_entOK B (bx_xh B T Cn cp sl) T M pc (.inl (fun _ => rx_h_istore nL i 2)) := by
  subst hL
  exact ⟨_, _, hd, fun _ _ _ _ _ _ _ _ => ⟨rx_ifN _, fun _ h => h⟩⟩
theorem rx_k_lstore_n {k : Fin 4} {i nL : Nat} (hk : (k : Nat) = i) (hL : M.2.2.1 = nL) (hd : decode M.2.1 pc = .ok (.lstore_n k, 1)) : rx_entOK B (bx_xh B T Cn cp sl) T M pc (.inl (fun _ => rx_h_lstore nL i 1)) := by
  subst hk; subst hL
  exact ⟨_, _, hd, fun _ _ _ _ _ _ _ _ => ⟨rx_ifN _, fun _ h => h⟩⟩
theorem rx_k_lstore {i nL : Nat} (hL : M.2.2.1 = nL) (hd : decode M.2.1 pc = .ok (.lstore i, 2)) : rx_entOK B (bx_xh B T Cn cp sl) T M pc (.inl (fun _ => rx_h_lstore nL i 2)) := by
  subst hL
  exact ⟨_, _, hd, fun _ _ _ _ _ _ _ _ => ⟨rx_ifN _, fun _ h => h⟩⟩
theorem rx_k_astore_n {k : Fin 4} {i nL : Nat} (hk : (k : Nat) = i) (hL : M.2.2.1 = nL) (hd : decode M.2.1 pc = .ok (.astore_n k, 1)) : rx_entOK B (bx_xh B T Cn cp sl) T M pc (.inl (fun _ => rx_h_astore nL i 1)) := by
  subst hk; subst hL
  exact ⟨_, _, hd, fun _ _ _ _ _ _ _ _ => ⟨rx_ifN _, fun _ h => h⟩⟩
theorem rx_k_astore {i nL : Nat} (hL : M.2.2.1 = nL) (hd : decode M.2.1 pc = .ok (.astore i, 2)) : rx_entOK B (bx_xh B T Cn cp sl) T M pc (.inl (fun _ => rx_h_astore nL i 2)) := by
  subst hL
  exact ⟨_, _, hd, fun _ _ _ _ _ _ _ _ => ⟨rx_ifN _, fun _ h => h⟩⟩
theorem rx_k_iinc {i nL : Nat} {n m : Int} (hn : n = m) (hL : M.2.2.1 = nL) (hd : decode M.2.1 pc = .ok (.iinc i n, 3)) : rx_entOK B (bx_xh B T Cn cp sl) T M pc (.inl (fun _ => rx_h_iinc nL i m)) := by
  subst hL; subst hn
  exact ⟨_, _, hd, fun _ _ _ _ _ _ _ _ => ⟨rx_ifN _, fun _ h => h⟩⟩
theorem rx_k_iadd (hd : decode M.2.1 pc = .ok (.iadd, 1)) : rx_entOK B (bx_xh B T Cn cp sl) T M pc (.inl (fun _ => rx_h_bin 0)) := ⟨_, _, hd, fun _ _ _ _ _ _ _ _ => ⟨rx_ifN _, fun _ h => h⟩⟩
theorem rx_k_isub (hd : decode M.2.1 pc = .ok (.isub, 1)) : rx_entOK B (bx_xh B T Cn cp sl) T M pc (.inl (fun _ => rx_h_sub)) := ⟨_, _, hd, fun _ _ _ _ _ _ _ _ => ⟨rx_ifN _, fun _ h => h⟩⟩
theorem rx_k_imul (hd : decode M.2.1 pc = .ok (.imul, 1)) : rx_entOK B (bx_xh B T Cn cp sl) T M pc (.inl (fun _ => rx_h_bin 2)) := ⟨_, _, hd, fun _ _ _ _ _ _ _ _ => ⟨rx_ifN _, fun _ h => h⟩⟩
theorem rx_k_iand (hd : decode M.2.1 pc = .ok (.iand, 1)) : rx_entOK B (bx_xh B T Cn cp sl) T M pc (.inl (fun _ => rx_h_and)) := ⟨_, _, hd, fun _ _ _ _ _ _ _ _ => ⟨rx_ifN _, fun _ h => h⟩⟩
theorem rx_k_ior (hd : decode M.2.1 pc = .ok (.ior, 1)) : rx_entOK B (bx_xh B T Cn cp sl) T M pc (.inl (fun _ => rx_h_bin 6)) := ⟨_, _, hd, fun _ _ _ _ _ _ _ _ => ⟨rx_ifN _, fun _ h => h⟩⟩
theorem rx_k_ixor (hd : decode M.2.1 pc = .ok (.ixor, 1)) : rx_entOK B (bx_xh B T Cn cp sl) T M pc (.inl (fun _ => rx_h_bin 7)) := ⟨_, _, hd, fun _ _ _ _ _ _ _ _ => ⟨rx_ifN _, fun _ h => h⟩⟩
theorem rx_k_ishl (hd : decode M.2.1 pc = .ok (.ishl, 1)) : rx_entOK B (bx_xh B T Cn cp sl) T M pc (.inl (fun _ => rx_h_bin 8)) := ⟨_, _, hd, fun _ _ _ _ _ _ _ _ => ⟨rx_ifN _, fun _ h => h⟩⟩
theorem rx_k_ishr (hd : decode M.2.1 pc = .ok (.ishr, 1)) : rx_entOK B (bx_xh B T Cn cp sl) T M pc (.inl (fun _ => rx_h_bin 9)) := ⟨_, _, hd, fun _ _ _ _ _ _ _ _ => ⟨rx_ifN _, fun _ h => h⟩⟩
theorem rx_k_iushr (hd : decode M.2.1 pc = .ok (.iushr, 1)) : rx_entOK B (bx_xh B T Cn cp sl) T M pc (.inl (fun _ => rx_h_bin 10)) := ⟨_, _, hd, fun _ _ _ _ _ _ _ _ => ⟨rx_ifN _, fun _ h => h⟩⟩
theorem rx_k_idiv (hd : decode M.2.1 pc = .ok (.idiv, 1)) : rx_entOK B (bx_xh B T Cn cp sl) T M pc (.inl (fun _ => rx_h_div 3)) := ⟨_, _, hd, fun _ _ _ _ _ _ _ _ => ⟨rx_ifN _, fun _ h => h⟩⟩
theorem rx_k_irem (hd : decode M.2.1 pc = .ok (.irem, 1)) : rx_entOK B (bx_xh B T Cn cp sl) T M pc (.inl (fun _ => rx_h_div 4)) := ⟨_, _, hd, fun _ _ _ _ _ _ _ _ => ⟨rx_ifN _, fun _ h => h⟩⟩
theorem rx_k_ineg (hd : decode M.2.1 pc = .ok (.ineg, 1)) : rx_entOK B (bx_xh B T Cn cp sl) T M pc (.inl (fun _ => rx_h_ineg)) := ⟨_, _, hd, fun _ _ _ _ _ _ _ _ => ⟨rx_ifN _, fun _ h => h⟩⟩
theorem rx_k_ladd (hd : decode M.2.1 pc = .ok (.ladd, 1)) : rx_entOK B (bx_xh B T Cn cp sl) T M pc (.inl (fun _ => rx_h_binL 0)) := ⟨_, _, hd, fun _ _ _ _ _ _ _ _ => ⟨rx_ifN _, fun _ h => h⟩⟩
theorem rx_k_lsub (hd : decode M.2.1 pc = .ok (.lsub, 1)) : rx_entOK B (bx_xh B T Cn cp sl) T M pc (.inl (fun _ => rx_h_binL 1)) := ⟨_, _, hd, fun _ _ _ _ _ _ _ _ => ⟨rx_ifN _, fun _ h => h⟩⟩
theorem rx_k_lmul (hd : decode M.2.1 pc = .ok (.lmul, 1)) : rx_entOK B (bx_xh B T Cn cp sl) T M pc (.inl (fun _ => rx_h_binL 2)) := ⟨_, _, hd, fun _ _ _ _ _ _ _ _ => ⟨rx_ifN _, fun _ h => h⟩⟩
theorem rx_k_ldiv (hd : decode M.2.1 pc = .ok (.ldiv, 1)) : rx_entOK B (bx_xh B T Cn cp sl) T M pc (.inl (fun _ => rx_h_divL 3)) := ⟨_, _, hd, fun _ _ _ _ _ _ _ _ => ⟨rx_ifN _, fun _ h => h⟩⟩
theorem rx_k_lrem (hd : decode M.2.1 pc = .ok (.lrem, 1)) : rx_entOK B (bx_xh B T Cn cp sl) T M pc (.inl (fun _ => rx_h_divL 4)) := ⟨_, _, hd, fun _ _ _ _ _ _ _ _ => ⟨rx_ifN _, fun _ h => h⟩⟩
theorem rx_k_i2l (hd : decode M.2.1 pc = .ok (.i2l, 1)) : rx_entOK B (bx_xh B T Cn cp sl) T M pc (.inl (fun _ => rx_h_i2l)) := ⟨_, _, hd, fun _ _ _ _ _ _ _ _ => ⟨rx_ifN _, fun _ h => h⟩⟩
theorem rx_k_dup (hd : decode M.2.1 pc = .ok (.dup, 1)) : rx_entOK B (bx_xh B T Cn cp sl) T M pc (.inl (fun _ => rx_h_dup)) := ⟨_, _, hd, fun _ _ _ _ _ _ _ _ => ⟨rx_ifN _, fun _ h => h⟩⟩
theorem rx_k_dup2 (hd : decode M.2.1 pc = .ok (.dup2, 1)) : rx_entOK B (bx_xh B T Cn cp sl) T M pc (.inl (fun _ => rx_h_dup2)) := ⟨_, _, hd, fun _ _ _ _ _ _ _ _ => ⟨rx_ifN _, fun _ h => h⟩⟩
theorem rx_k_pop (hd : decode M.2.1 pc = .ok (.pop, 1)) : rx_entOK B (bx_xh B T Cn cp sl) T M pc (.inl (fun _ => rx_h_pop)) := ⟨_, _, hd, fun _ _ _ _ _ _ _ _ => ⟨rx_ifN _, fun _ h => h⟩⟩
theorem rx_k_tableswitch {dflt lo hi : Int} {offs : Array Int} {len : Nat} (hd : decode M.2.1 pc = .ok (.tableswitch dflt lo hi offs, len)) : rx_entOK B (bx_xh B T Cn cp sl) T M pc (.inl (fun _ => rx_h_table dflt lo hi offs)) := ⟨_, _, hd, fun _ _ _ _ _ _ _ _ => ⟨rx_ifN _, fun _ h => h⟩⟩
theorem rx_k_lookupswitch {dflt : Int} {ps : Array (Int × Int)} {len : Nat} (hd : decode M.2.1 pc = .ok (.lookupswitch dflt ps, len)) : rx_entOK B (bx_xh B T Cn cp sl) T M pc (.inl (fun _ => rx_h_look dflt ps)) := ⟨_, _, hd, fun _ _ _ _ _ _ _ _ => ⟨rx_ifN _, fun _ h => h⟩⟩
theorem rx_k_ldcw {idx : Nat} {v : Int} (hv : T.2.2.2.1 M.1 idx = some (.inr (0, (0, v)))) (hd : decode M.2.1 pc = .ok (.ldc_w idx, 3)) : rx_entOK B (bx_xh B T Cn cp sl) T M pc (.inl (fun _ => rx_h_push (rx_n v) 3)) := by
  refine ⟨_, _, hd, fun d I F ht c s lv st => ⟨rx_ifN _, fun zs h => ?_⟩⟩
  show rx_h_const T.2.2.2.1 M.1 idx 0 3 _ = some zs
  unfold rx_h_const
  rw [hv]
  exact h
theorem rx_k_ldc2 {idx : Nat} {v : Int} (hv : T.2.2.2.1 M.1 idx = some (.inr (1, (0, v)))) (hd : decode M.2.1 pc = .ok (.ldc2_w idx, 3)) : rx_entOK B (bx_xh B T Cn cp sl) T M pc (.inl (fun _ => rx_h_push (.inr (1, (0, v))) 3)) := by
  refine ⟨_, _, hd, fun d I F ht c s lv st => ⟨rx_ifN _, fun zs h => ?_⟩⟩
  show rx_h_const T.2.2.2.1 M.1 idx 1 3 _ = some zs
  unfold rx_h_const
  rw [hv]
  exact h
theorem rx_k_sipush {n m : Int} (hn : (Int16.ofInt n).toInt32.toInt = m) (hd : decode M.2.1 pc = .ok (.sipush n, 3)) : rx_entOK B (bx_xh B T Cn cp sl) T M pc (.inl (fun _ => rx_h_push (rx_n m) 3)) := by
  subst hn
  exact ⟨_, _, hd, fun _ _ _ _ _ _ _ _ => ⟨rx_ifN _, fun _ h => h⟩⟩
theorem rx_k_if {cnd : Jvm.ClassFile.Cond} {off : Int} {tgt nx : Nat} (ho : rx_off pc off = some tgt) (hn : pc + 3 = nx) (hd : decode M.2.1 pc = .ok (.ifCond cnd off, 3)) : rx_entOK B (bx_xh B T Cn cp sl) T M pc (.inl (fun _ => rx_q_if cnd tgt nx)) := by
  subst hn
  refine ⟨_, _, hd, fun d I F ht c s lv st => ⟨rx_ifN _, fun zs h => ?_⟩⟩
  show rx_h_if cnd off (I, F, ht, c, s, pc, lv, st) = some zs
  have ho2 : rx_off (rx_zpc (I, F, ht, c, s, pc, lv, st)) off = some tgt := ho
  have h : rx_q_if cnd tgt (pc + 3) (I, F, ht, c, s, pc, lv, st) = some zs := h
  unfold rx_q_if at h
  unfold rx_h_if
  rw [ho2]
  split at h
  · rename_i e
    rw [e]
    exact h
  · cases h
theorem rx_k_icmp {cnd : Jvm.ClassFile.Cond} {off : Int} {tgt nx : Nat} (ho : rx_off pc off = some tgt) (hn : pc + 3 = nx) (hd : decode M.2.1 pc = .ok (.if_icmp cnd off, 3)) : rx_entOK B (bx_xh B T Cn cp sl) T M pc (.inl (fun _ => rx_q_icmp cnd tgt nx)) := by
  subst hn
  refine ⟨_, _, hd, fun d I F ht c s lv st => ⟨rx_ifN _, fun zs h => ?_⟩⟩
  show rx_h_icmp cnd off (I, F, ht, c, s, pc, lv, st) = some zs
  have ho2 : rx_off (rx_zpc (I, F, ht, c, s, pc, lv, st)) off = some tgt := ho
  have h : rx_q_icmp cnd tgt (pc + 3) (I, F, ht, c, s, pc, lv, st) = some zs := h
  unfold rx_q_icmp at h
  unfold rx_h_icmp
  rw [ho2]
  split at h
  · rename_i e
    rw [e]
    exact h
  · cases h
theorem rx_k_lcmp {cnd : Jvm.ClassFile.Cond} {off : Int} {tgt nx : Nat} (ho : rx_off (pc + 1) off = some tgt) (hn : pc + 4 = nx) (hd2 : decode M.2.1 (pc + 1) = .ok (.ifCond cnd off, 3)) (hd : decode M.2.1 pc = .ok (.lcmp, 1)) : rx_entOK B (bx_xh B T Cn cp sl) T M pc (.inl (fun _ => rx_q_lcmp cnd tgt nx)) := by
  subst hn
  refine ⟨_, _, hd, fun d I F ht c s lv st => ⟨rx_ifN _, fun zs h => ?_⟩⟩
  show rx_h_lcmp (decode M.2.1 (pc + 1)) (I, F, ht, c, s, pc, lv, st) = some zs
  have h : rx_q_lcmp cnd tgt (pc + 4) (I, F, ht, c, s, pc, lv, st) = some zs := h
  unfold rx_q_lcmp at h
  unfold rx_h_lcmp
  rw [hd2]
  split at h
  · rename_i b t e
    rw [e]
    dsimp only
    split at h
    · rename_i a t2 e2
      rw [e2]
      show (match rx_off (pc + 1) off with
        | some tgt => if rx_okL I a && rx_okL I b then some (rx_fork (I, F, ht, c, s, pc, lv, st) cnd a b tgt (pc + 4) t2) else none
        | none => none) = some zs
      rw [ho]
      exact h
    · cases h
  · cases h
theorem rx_k_goto {off : Int} {tgt : Nat} (ho : rx_off pc off = some tgt) (hd : decode M.2.1 pc = .ok (.goto off, 3)) : rx_entOK B (bx_xh B T Cn cp sl) T M pc (.inl (fun _ => rx_q_goto tgt)) := by
  refine ⟨_, _, hd, fun d I F ht c s lv st => ⟨rx_ifN _, fun zs h => ?_⟩⟩
  show rx_h_goto off (I, F, ht, c, s, pc, lv, st) = some zs
  have ho2 : rx_off (rx_zpc (I, F, ht, c, s, pc, lv, st)) off = some tgt := ho
  unfold rx_h_goto
  rw [ho2]
  exact h
theorem rx_k_reti {mc ms : Nat} (h1 : M.2.2.2.2.2.2.1 = mc) (h2 : M.2.2.2.2.2.2.2 = ms) (hr : M.2.2.2.1 = some .int) (hd : decode M.2.1 pc = .ok (.ireturn, 1)) : rx_entOK B (bx_xh B T Cn cp sl) T M pc (.inr (.inl (rx_q_reti mc ms))) := by
  refine ⟨_, _, hd, fun I F ht c s lv st E h => ?_⟩
  unfold rx_retk
  rw [hr, rx_q_may h1 h2]
  exact h
theorem rx_k_retz {mc ms : Nat} (h1 : M.2.2.2.2.2.2.1 = mc) (h2 : M.2.2.2.2.2.2.2 = ms) (hr : M.2.2.2.1 = some .boolean) (hd : decode M.2.1 pc = .ok (.ireturn, 1)) : rx_entOK B (bx_xh B T Cn cp sl) T M pc (.inr (.inl (rx_q_retz mc ms))) := by
  refine ⟨_, _, hd, fun I F ht c s lv st E h => ?_⟩
  unfold rx_retk
  rw [hr, rx_q_may h1 h2]
  exact h
theorem rx_k_retl {mc ms : Nat} (h1 : M.2.2.2.2.2.2.1 = mc) (h2 : M.2.2.2.2.2.2.2 = ms) (hr : M.2.2.2.1 = some .long) (hd : decode M.2.1 pc = .ok (.lreturn, 1)) : rx_entOK B (bx_xh B T Cn cp sl) T M pc (.inr (.inl (rx_q_retl mc ms))) := by
  refine ⟨_, _, hd, fun I F ht c s lv st E h => ?_⟩
  unfold rx_retk
  rw [hr, rx_q_may h1 h2]
  exact h
theorem rx_k_retv {mc ms : Nat} (h1 : M.2.2.2.2.2.2.1 = mc) (h2 : M.2.2.2.2.2.2.2 = ms) (hr : M.2.2.2.1 = none) (hd : decode M.2.1 pc = .ok (.return_, 1)) : rx_entOK B (bx_xh B T Cn cp sl) T M pc (.inr (.inl (rx_q_retv mc ms))) := by
  refine ⟨_, _, hd, fun I F ht c s lv st E h => ?_⟩
  unfold rx_retk
  rw [hr, rx_q_may h1 h2]
  exact h
theorem rx_k_reta {mc ms : Nat} (h1 : M.2.2.2.2.2.2.1 = mc) (h2 : M.2.2.2.2.2.2.2 = ms) (hr : (∃ n, M.2.2.2.1 = some (.object n)) ∨ ∃ n, M.2.2.2.1 = some (.array n)) (hd : decode M.2.1 pc = .ok (.areturn, 1)) : rx_entOK B (bx_xh B T Cn cp sl) T M pc (.inr (.inl (rx_q_reta mc ms))) := by
  refine ⟨_, _, hd, fun I F ht c s lv st E h => ?_⟩
  unfold rx_retk
  rcases hr with ⟨n, hr⟩ | ⟨n, hr⟩
  all_goals
    rw [hr, rx_q_may h1 h2]
    exact h
theorem rx_k_land (hd : decode M.2.1 pc = .ok (.land, 1)) : rx_entOK B (bx_xh B T Cn cp sl) T M pc (.inl (fun _ => rx_h_binL 5)) := ⟨_, _, hd, fun _ _ _ _ _ _ _ _ => ⟨rx_ifN _, fun _ h => h⟩⟩
theorem rx_k_lor (hd : decode M.2.1 pc = .ok (.lor, 1)) : rx_entOK B (bx_xh B T Cn cp sl) T M pc (.inl (fun _ => rx_h_binL 6)) := ⟨_, _, hd, fun _ _ _ _ _ _ _ _ => ⟨rx_ifN _, fun _ h => h⟩⟩
theorem rx_k_lxor (hd : decode M.2.1 pc = .ok (.lxor, 1)) : rx_entOK B (bx_xh B T Cn cp sl) T M pc (.inl (fun _ => rx_h_binL 7)) := ⟨_, _, hd, fun _ _ _ _ _ _ _ _ => ⟨rx_ifN _, fun _ h => h⟩⟩
theorem rx_k_l2i (hd : decode M.2.1 pc = .ok (.l2i, 1)) : rx_entOK B (bx_xh B T Cn cp sl) T M pc (.inl (fun _ => rx_h_l2i)) := ⟨_, _, hd, fun _ _ _ _ _ _ _ _ => ⟨rx_ifN _, fun _ h => h⟩⟩
theorem rx_k_lshl (hd : decode M.2.1 pc = .ok (.lshl, 1)) : rx_entOK B (bx_xh B T Cn cp sl) T M pc (.inl (fun _ => rx_h_lsh)) := ⟨_, _, hd, fun _ _ _ _ _ _ _ _ => ⟨rx_ifN _, fun _ h => h⟩⟩
theorem rx_k_lshr (hd : decode M.2.1 pc = .ok (.lshr, 1)) : rx_entOK B (bx_xh B T Cn cp sl) T M pc (.inl (fun _ => rx_h_lsh)) := ⟨_, _, hd, fun _ _ _ _ _ _ _ _ => ⟨rx_ifN _, fun _ h => h⟩⟩
theorem rx_k_pop2 (hd : decode M.2.1 pc = .ok (.pop2, 1)) : rx_entOK B (bx_xh B T Cn cp sl) T M pc (.inl (fun _ => rx_h_pop2)) := ⟨_, _, hd, fun _ _ _ _ _ _ _ _ => ⟨rx_ifN _, fun _ h => h⟩⟩
theorem rx_k_alen (hd : decode M.2.1 pc = .ok (.arraylength, 1)) : rx_entOK B (bx_xh B T Cn cp sl) T M pc (.inl (fun _ => bx_h_alen B.1)) := ⟨_, _, hd, fun _ _ _ _ _ _ _ _ => ⟨rx_ifN _, fun _ h => h⟩⟩
theorem rx_k_iaload (hd : decode M.2.1 pc = .ok (.iaload, 1)) : rx_entOK B (bx_xh B T Cn cp sl) T M pc (.inl (fun _ => bx_h_ald B.1 B.2.1 B.2.2.2 (rx_isTc 0))) := ⟨_, _, hd, fun _ _ _ _ _ _ _ _ => ⟨rx_ifN _, fun _ h => h⟩⟩
theorem rx_k_baload (hd : decode M.2.1 pc = .ok (.baload, 1)) : rx_entOK B (bx_xh B T Cn cp sl) T M pc (.inl (fun _ => bx_h_ald B.1 B.2.1 B.2.2.2 (rx_isTc 1))) := ⟨_, _, hd, fun _ _ _ _ _ _ _ _ => ⟨rx_ifN _, fun _ h => h⟩⟩
theorem rx_k_laload (hd : decode M.2.1 pc = .ok (.laload, 1)) : rx_entOK B (bx_xh B T Cn cp sl) T M pc (.inl (fun _ => bx_h_ald B.1 B.2.1 B.2.2.2 (rx_isTc 2))) := ⟨_, _, hd, fun _ _ _ _ _ _ _ _ => ⟨rx_ifN _, fun _ h => h⟩⟩
theorem rx_k_aaload (hd : decode M.2.1 pc = .ok (.aaload, 1)) : rx_entOK B (bx_xh B T Cn cp sl) T M pc (.inl (fun _ => bx_h_ald B.1 B.2.1 B.2.2.2 rx_isRef)) := ⟨_, _, hd, fun _ _ _ _ _ _ _ _ => ⟨rx_ifN _, fun _ h => h⟩⟩
theorem rx_k_iastore (hd : decode M.2.1 pc = .ok (.iastore, 1)) : rx_entOK B (bx_xh B T Cn cp sl) T M pc (.inl (fun _ => bx_h_ast B.1 B.2.2.1 B.2.2.2 (rx_isTc 0))) := ⟨_, _, hd, fun _ _ _ _ _ _ _ _ => ⟨rx_ifN _, fun _ h => h⟩⟩
theorem rx_k_bastore (hd : decode M.2.1 pc = .ok (.bastore, 1)) : rx_entOK B (bx_xh B T Cn cp sl) T M pc (.inl (fun _ => bx_h_ast B.1 B.2.2.1 B.2.2.2 (rx_isTc 1))) := ⟨_, _, hd, fun _ _ _ _ _ _ _ _ => ⟨rx_ifN _, fun _ h => h⟩⟩
theorem rx_k_lastore (hd : decode M.2.1 pc = .ok (.lastore, 1)) : rx_entOK B (bx_xh B T Cn cp sl) T M pc (.inl (fun _ => bx_h_ast B.1 B.2.2.1 B.2.2.2 (rx_isTc 2))) := ⟨_, _, hd, fun _ _ _ _ _ _ _ _ => ⟨rx_ifN _, fun _ h => h⟩⟩
theorem rx_k_get {idx : Nat} {q : rx_Q} (hq : T.1 M.1 idx = some q) (hd : decode M.2.1 pc = .ok (.getfield idx, 3)) : rx_entOK B (bx_xh B T Cn cp sl) T M pc (.inl (fun _ => bx_q_get B.1 B.2.1 B.2.2.2 q)) := by
  refine ⟨_, _, hd, fun d I F ht c s lv st => ⟨rx_ifN _, fun zs h => ?_⟩⟩
  dsimp only at h
  rw [bx_q_get_eq hq] at h
  exact h
theorem rx_k_put {idx : Nat} {q : rx_Q} (hq : T.1 M.1 idx = some q) (hd : decode M.2.1 pc = .ok (.putfield idx, 3)) : rx_entOK B (bx_xh B T Cn cp sl) T M pc (.inl (fun _ => bx_q_put B.1 B.2.2.1 B.2.2.2 q)) := by
  refine ⟨_, _, hd, fun d I F ht c s lv st => ⟨rx_ifN _, fun zs h => ?_⟩⟩
  dsimp only at h
  rw [bx_q_put_eq hq] at h
  exact h
theorem rx_k_ldc {idx : Nat} {v : Int} (hv : T.2.2.2.1 M.1 idx = some (.inr (0, (0, v)))) (hs : sl M.1 idx = none) (hd : decode M.2.1 pc = .ok (.ldc idx, 2)) : rx_entOK B (bx_xh B T Cn cp sl) T M pc (.inl (fun _ => rx_h_push (rx_n v) 2)) := by
  refine ⟨_, _, hd, fun d I F ht c s lv st => ⟨rx_ifN _, fun zs h => ?_⟩⟩
  have e : bx_xh B T Cn cp sl d M (.ldc idx) 2 (I, F, ht, c, s, pc, lv, st) = none := by
    show rx_or (match sl M.1 idx with
      | some n => rx_if (2 == 2) (some [rx_nx (I, F, ht, c, s, pc, lv, st) 2 (.inr (3, (0, (n : Int))) :: rx_zst (I, F, ht, c, s, pc, lv, st))])
      | none => none) none = none
    rw [hs]
    rfl
  rw [e]
  show rx_h_const T.2.2.2.1 M.1 idx 0 2 _ = some zs
  unfold rx_h_const
  rw [hv]
  exact h
theorem rx_k_ldcS {idx n : Nat} (hs : sl M.1 idx = some n) (hd : decode M.2.1 pc = .ok (.ldc idx, 2)) : rx_entOK B (bx_xh B T Cn cp sl) T M pc (.inl (fun _ => rx_h_push (.inr (3, (0, (n : Int)))) 2)) := by
  refine ⟨_, _, hd, fun d I F ht c s lv st => ⟨rx_ifN _, fun zs h => ?_⟩⟩
  have e : bx_xh B T Cn cp sl d M (.ldc idx) 2 (I, F, ht, c, s, pc, lv, st) = some zs := by
    show rx_or (match sl M.1 idx with
      | some n => rx_if (2 == 2) (some [rx_nx (I, F, ht, c, s, pc, lv, st) 2 (.inr (3, (0, (n : Int))) :: rx_zst (I, F, ht, c, s, pc, lv, st))])
      | none => none) none = some zs
    rw [hs]
    exact h
  rw [e]
  rfl
theorem rx_k_st {idx k : Nat} (hx : cp M.1 idx = some k) (hd : decode M.2.1 pc = .ok (.invokestatic idx, 3)) : rx_entOK B (bx_xh B T Cn cp sl) T M pc (.inl (bx_x_st B k)) := by
  refine ⟨_, _, hd, fun d I F ht c s lv st => ⟨rx_ifN _, fun zs h => ?_⟩⟩
  have e : bx_xh B T Cn cp sl d M (.invokestatic idx) 3 (I, F, ht, c, s, pc, lv, st) = some zs := by
    show rx_or (match cp M.1 idx with
      | some k => rx_if (3 == 3) (bx_x_st B k d (I, F, ht, c, s, pc, lv, st))
      | none => none) _ = some zs
    rw [hx]
    show rx_or (bx_x_st B k d (I, F, ht, c, s, pc, lv, st)) _ = some zs
    try dsimp only at h
    rw [h]
    rfl
  rw [e]
  rfl
theorem rx_k_cc0 {idx how n ci j_p : Nat} {M_p : rx_Mt} {cts : List bx_Ct} (hq : T.2.2.2.2.1 M.1 idx = some (how, n, ci, j_p)) (hM : T.2.2.2.2.2 j_p = some M_p) (hw : (how % 3 == 0 && decide (how < 6)) = true) (hC : Cn j_p = cts) (hd : decode M.2.1 pc = .ok (.invokevirtual idx, 3)) : rx_entOK B (bx_xh B T Cn cp sl) T M pc (.inl (fun d z => match bx_q_vcall B M M_p n ci z with
    | some a => bx_any B M_p d z a.1 a.2 cts
    | none => none)) := by
  have hprep : ∀ (I : rx_I) (F : rx_F) (ht : List rx_C) (c s : Nat) (lv : List (Nat × rx_V)) (st : List rx_V) (a : List rx_V × List rx_V), bx_q_vcall B M M_p n ci (I, F, ht, c, s, pc, lv, st) = some a → rx_prep B T M (.invokevirtual idx) 3 (I, F, ht, c, s, pc, lv, st) = some ((how, n, ci, j_p), M_p, a.1, a.2) := by
    intro I F ht c s lv st a h
    unfold rx_prep rx_cidx
    unfold bx_q_vcall at h
    dsimp only at h ⊢
    rw [hq]
    dsimp only
    rw [hM]
    split at h
    · rename_i as2 t2 e
      rw [e]
      dsimp only
      rw [hw]
      split at h
      · rename_i k t3 e2
        obtain ⟨h1, h2⟩ := rx_if_ok h
        cases h2
        have hne : ¬ ((0 : Nat) = 1) := by decide
        rw [if_neg hne, e2]
        dsimp only
        rw [h1]
        rfl
      · cases h
    · cases h
  refine ⟨_, _, hd, fun d I F ht c s lv st => ⟨rx_ifN _, fun zs h => ?_⟩⟩
  dsimp only at h
  split at h
  · rename_i a ha
    have e0 : bx_xs B cp sl d M (.invokevirtual idx) 3 (I, F, ht, c, s, pc, lv, st) = none := by
      rfl
    have e : bx_xh B T Cn cp sl d M (.invokevirtual idx) 3 (I, F, ht, c, s, pc, lv, st) = some zs := by
      show rx_or (bx_xs B cp sl d M (.invokevirtual idx) 3 (I, F, ht, c, s, pc, lv, st)) (bx_hook B T Cn d M (.invokevirtual idx) 3 (I, F, ht, c, s, pc, lv, st)) = some zs
      rw [e0]
      show bx_hook B T Cn d M (.invokevirtual idx) 3 (I, F, ht, c, s, pc, lv, st) = some zs
      unfold bx_hook
      rw [hprep I F ht c s lv st a ha]
      dsimp only
      rw [hC]
      exact h
    rw [e]
    rfl
  · cases h
theorem rx_k_call0 {idx how n ci j_p : Nat} {M_p : rx_Mt} (hq : T.2.2.2.2.1 M.1 idx = some (how, n, ci, j_p)) (hM : T.2.2.2.2.2 j_p = some M_p) (hw : (how % 3 == 0 && decide (how < 6)) = true) (hC : Cn j_p = []) (hd : decode M.2.1 pc = .ok (.invokevirtual idx, 3)) : rx_entOK B (bx_xh B T Cn cp sl) T M pc (.inr (.inr (j_p, M_p, bx_q_vcall B M M_p n ci))) := by
  have hprep : ∀ (I : rx_I) (F : rx_F) (ht : List rx_C) (c s : Nat) (lv : List (Nat × rx_V)) (st : List rx_V) (a : List rx_V × List rx_V), bx_q_vcall B M M_p n ci (I, F, ht, c, s, pc, lv, st) = some a → rx_prep B T M (.invokevirtual idx) 3 (I, F, ht, c, s, pc, lv, st) = some ((how, n, ci, j_p), M_p, a.1, a.2) := by
    intro I F ht c s lv st a h
    unfold rx_prep rx_cidx
    unfold bx_q_vcall at h
    dsimp only at h ⊢
    rw [hq]
    dsimp only
    rw [hM]
    split at h
    · rename_i as2 t2 e
      rw [e]
      dsimp only
      rw [hw]
      split at h
      · rename_i k t3 e2
        obtain ⟨h1, h2⟩ := rx_if_ok h
        cases h2
        have hne : ¬ ((0 : Nat) = 1) := by decide
        rw [if_neg hne, e2]
        dsimp only
        rw [h1]
        rfl
      · cases h
    · cases h
  refine ⟨_, _, hd, hM, fun d I F ht c s lv st => ⟨rx_ifN _, ?_, fun as t h => ⟨(how, n, ci, j_p), hprep I F ht c s lv st (as, t) h⟩⟩⟩
  have e0 : bx_xs B cp sl d M (.invokevirtual idx) 3 (I, F, ht, c, s, pc, lv, st) = none := by
    rfl
  have e1 : bx_hook B T Cn d M (.invokevirtual idx) 3 (I, F, ht, c, s, pc, lv, st) = none := by
    unfold bx_hook
    split
    · rfl
    · rename_i q M2 as t hp
      obtain ⟨op, idx2, hci, -, hq2, -⟩ := rx_prep_ok hp
      have hci2 : some (0, idx) = some (op, idx2) := hci
      cases hci2
      rw [hq] at hq2
      cases hq2
      dsimp only
      rw [hC]
      rfl
  show rx_or (rx_or (bx_xs B cp sl d M (.invokevirtual idx) 3 (I, F, ht, c, s, pc, lv, st)) (bx_hook B T Cn d M (.invokevirtual idx) 3 (I, F, ht, c, s, pc, lv, st))) none = none
  rw [e0, e1]
  rfl
theorem rx_k_cc1 {idx how n ci j_p : Nat} {M_p : rx_Mt} {cts : List bx_Ct} (hq : T.2.2.2.2.1 M.1 idx = some (how, n, ci, j_p)) (hM : T.2.2.2.2.2 j_p = some M_p) (hw : (how % 3 == 1 && decide (how < 6)) = true) (hx : cp M.1 idx = none) (hC : Cn j_p = cts) (hd : decode M.2.1 pc = .ok (.invokestatic idx, 3)) : rx_entOK B (bx_xh B T Cn cp sl) T M pc (.inl (fun d z => match rx_q_scall M M_p n z with
    | some a => bx_any B M_p d z a.1 a.2 cts
    | none => none)) := by
  have hprep : ∀ (I : rx_I) (F : rx_F) (ht : List rx_C) (c s : Nat) (lv : List (Nat × rx_V)) (st : List rx_V) (a : List rx_V × List rx_V), rx_q_scall M M_p n (I, F, ht, c, s, pc, lv, st) = some a → rx_prep B T M (.invokestatic idx) 3 (I, F, ht, c, s, pc, lv, st) = some ((how, n, ci, j_p), M_p, a.1, a.2) := by
    intro I F ht c s lv st a h
    unfold rx_prep rx_cidx
    unfold rx_q_scall at h
    dsimp only at h ⊢
    rw [hq]
    dsimp only
    rw [hM]
    split at h
    · rename_i as2 t2 e
      rw [e]
      dsimp only
      rw [hw]
      obtain ⟨h1, h2⟩ := rx_if_ok h
      cases h2
      rw [h1]
      rfl
    · cases h
  refine ⟨_, _, hd, fun d I F ht c s lv st => ⟨rx_ifN _, fun zs h => ?_⟩⟩
  dsimp only at h
  split at h
  · rename_i a ha
    have e0 : bx_xs B cp sl d M (.invokestatic idx) 3 (I, F, ht, c, s, pc, lv, st) = none := by
      show (match cp M.1 idx with
      | some k => rx_if (3 == 3) (bx_x_st B k d (I, F, ht, c, s, pc, lv, st))
      | none => none) = none
      rw [hx]
    have e : bx_xh B T Cn cp sl d M (.invokestatic idx) 3 (I, F, ht, c, s, pc, lv, st) = some zs := by
      show rx_or (bx_xs B cp sl d M (.invokestatic idx) 3 (I, F, ht, c, s, pc, lv, st)) (bx_hook B T Cn d M (.invokestatic idx) 3 (I, F, ht, c, s, pc, lv, st)) = some zs
      rw [e0]
      show bx_hook B T Cn d M (.invokestatic idx) 3 (I, F, ht, c, s, pc, lv, st) = some zs
      unfold bx_hook
      rw [hprep I F ht c s lv st a ha]
      dsimp only
      rw [hC]
      exact h
    rw [e]
    rfl
  · cases h
theorem rx_k_call1 {idx how n ci j_p : Nat} {M_p : rx_Mt} (hq : T.2.2.2.2.1 M.1 idx = some (how, n, ci, j_p)) (hM : T.2.2.2.2.2 j_p = some M_p) (hw : (how % 3 == 1 && decide (how < 6)) = true) (hx : cp M.1 idx = none) (hC : Cn j_p = []) (hd : decode M.2.1 pc = .ok (.invokestatic idx, 3)) : rx_entOK B (bx_xh B T Cn cp sl) T M pc (.inr (.inr (j_p, M_p, rx_q_scall M M_p n))) := by
  have hprep : ∀ (I : rx_I) (F : rx_F) (ht : List rx_C) (c s : Nat) (lv : List (Nat × rx_V)) (st : List rx_V) (a : List rx_V × List rx_V), rx_q_scall M M_p n (I, F, ht, c, s, pc, lv, st) = some a → rx_prep B T M (.invokestatic idx) 3 (I, F, ht, c, s, pc, lv, st) = some ((how, n, ci, j_p), M_p, a.1, a.2) := by
    intro I F ht c s lv st a h
    unfold rx_prep rx_cidx
    unfold rx_q_scall at h
    dsimp only at h ⊢
    rw [hq]
    dsimp only
    rw [hM]
    split at h
    · rename_i as2 t2 e
      rw [e]
      dsimp only
      rw [hw]
      obtain ⟨h1, h2⟩ := rx_if_ok h
      cases h2
      rw [h1]
      rfl
    · cases h
  refine ⟨_, _, hd, hM, fun d I F ht c s lv st => ⟨rx_ifN _, ?_, fun as t h => ⟨(how, n, ci, j_p), hprep I F ht c s lv st (as, t) h⟩⟩⟩
  have e0 : bx_xs B cp sl d M (.invokestatic idx) 3 (I, F, ht, c, s, pc, lv, st) = none := by
    show (match cp M.1 idx with
      | some k => rx_if (3 == 3) (bx_x_st B k d (I, F, ht, c, s, pc, lv, st))
      | none => none) = none
    rw [hx]
  have e1 : bx_hook B T Cn d M (.invokestatic idx) 3 (I, F, ht, c, s, pc, lv, st) = none := by
    unfold bx_hook
    split
    · rfl
    · rename_i q M2 as t hp
      obtain ⟨op, idx2, hci, -, hq2, -⟩ := rx_prep_ok hp
      have hci2 : some (1, idx) = some (op, idx2) := hci
      cases hci2
      rw [hq] at hq2
      cases hq2
      dsimp only
      rw [hC]
      rfl
  show rx_or (rx_or (bx_xs B cp sl d M (.invokestatic idx) 3 (I, F, ht, c, s, pc, lv, st)) (bx_hook B T Cn d M (.invokestatic idx) 3 (I, F, ht, c, s, pc, lv, st))) none = none
  rw [e0, e1]
  rfl
theorem rx_k_cc2 {idx how n ci j_p : Nat} {M_p : rx_Mt} {cts : List bx_Ct} (hq : T.2.2.2.2.1 M.1 idx = some (how, n, ci, j_p)) (hM : T.2.2.2.2.2 j_p = some M_p) (hw : (how % 3 == 2 && decide (how < 6)) = true) (hC : Cn j_p = cts) (hd : decode M.2.1 pc = .ok (.invokespecial idx, 3)) : rx_entOK B (bx_xh B T Cn cp sl) T M pc (.inl (fun d z => match bx_q_vcall B M M_p n ci z with
    | some a => bx_any B M_p d z a.1 a.2 cts
    | none => none)) := by
  have hprep : ∀ (I : rx_I) (F : rx_F) (ht : List rx_C) (c s : Nat) (lv : List (Nat × rx_V)) (st : List rx_V) (a : List rx_V × List rx_V), bx_q_vcall B M M_p n ci (I, F, ht, c, s, pc, lv, st) = some a → rx_prep B T M (.invokespecial idx) 3 (I, F, ht, c, s, pc, lv, st) = some ((how, n, ci, j_p), M_p, a.1, a.2) := by
    intro I F ht c s lv st a h
    unfold rx_prep rx_cidx
    unfold bx_q_vcall at h
    dsimp only at h ⊢
    rw [hq]
    dsimp only
    rw [hM]
    split at h
    · rename_i as2 t2 e
      rw [e]
      dsimp only
      rw [hw]
      split at h
      · rename_i k t3 e2
        obtain ⟨h1, h2⟩ := rx_if_ok h
        cases h2
        have hne : ¬ ((2 : Nat) = 1) := by decide
        rw [if_neg hne, e2]
        dsimp only
        rw [h1]
        rfl
      · cases h
    · cases h
  refine ⟨_, _, hd, fun d I F ht c s lv st => ⟨rx_ifN _, fun zs h => ?_⟩⟩
  dsimp only at h
  split at h
  · rename_i a ha
    have e0 : bx_xs B cp sl d M (.invokespecial idx) 3 (I, F, ht, c, s, pc, lv, st) = none := by
      rfl
    have e : bx_xh B T Cn cp sl d M (.invokespecial idx) 3 (I, F, ht, c, s, pc, lv, st) = some zs := by
      show rx_or (bx_xs B cp sl d M (.invokespecial idx) 3 (I, F, ht, c, s, pc, lv, st)) (bx_hook B T Cn d M (.invokespecial idx) 3 (I, F, ht, c, s, pc, lv, st)) = some zs
      rw [e0]
      show bx_hook B T Cn d M (.invokespecial idx) 3 (I, F, ht, c, s, pc, lv, st) = some zs
      unfold bx_hook
      rw [hprep I F ht c s lv st a ha]
      dsimp only
      rw [hC]
      exact h
    rw [e]
    rfl
  · cases h
theorem rx_k_call2 {idx how n ci j_p : Nat} {M_p : rx_Mt} (hq : T.2.2.2.2.1 M.1 idx = some (how, n, ci, j_p)) (hM : T.2.2.2.2.2 j_p = some M_p) (hw : (how % 3 == 2 && decide (how < 6)) = true) (hC : Cn j_p = []) (hd : decode M.2.1 pc = .ok (.invokespecial idx, 3)) : rx_entOK B (bx_xh B T Cn cp sl) T M pc (.inr (.inr (j_p, M_p, bx_q_vcall B M M_p n ci))) := by
  have hprep : ∀ (I : rx_I) (F : rx_F) (ht : List rx_C) (c s : Nat) (lv : List (Nat × rx_V)) (st : List rx_V) (a : List rx_V × List rx_V), bx_q_vcall B M M_p n ci (I, F, ht, c, s, pc, lv, st) = some a → rx_prep B T M (.invokespecial idx) 3 (I, F, ht, c, s, pc, lv, st) = some ((how, n, ci, j_p), M_p, a.1, a.2) := by
    intro I F ht c s lv st a h
    unfold rx_prep rx_cidx
    unfold bx_q_vcall at h
    dsimp only at h ⊢
    rw [hq]
    dsimp only
    rw [hM]
    split at h
    · rename_i as2 t2 e
      rw [e]
      dsimp only
      rw [hw]
      split at h
      · rename_i k t3 e2
        obtain ⟨h1, h2⟩ := rx_if_ok h
        cases h2
        have hne : ¬ ((2 : Nat) = 1) := by decide
        rw [if_neg hne, e2]
        dsimp only
        rw [h1]
        rfl
      · cases h
    · cases h
  refine ⟨_, _, hd, hM, fun d I F ht c s lv st => ⟨rx_ifN _, ?_, fun as t h => ⟨(how, n, ci, j_p), hprep I F ht c s lv st (as, t) h⟩⟩⟩
  have e0 : bx_xs B cp sl d M (.invokespecial idx) 3 (I, F, ht, c, s, pc, lv, st) = none := by
    rfl
  have e1 : bx_hook B T Cn d M (.invokespecial idx) 3 (I, F, ht, c, s, pc, lv, st) = none := by
    unfold bx_hook
    split
    · rfl
    · rename_i q M2 as t hp
      obtain ⟨op, idx2, hci, -, hq2, -⟩ := rx_prep_ok hp
      have hci2 : some (2, idx) = some (op, idx2) := hci
      cases hci2
      rw [hq] at hq2
      cases hq2
      dsimp only
      rw [hC]
      rfl
  show rx_or (rx_or (bx_xs B cp sl d M (.invokespecial idx) 3 (I, F, ht, c, s, pc, lv, st)) (bx_hook B T Cn d M (.invokespecial idx) 3 (I, F, ht, c, s, pc, lv, st))) none = none
  rw [e0, e1]
  rfl
end RXK
/-! calls: by contract, where there is one; else walked -/
section RXE
variable {B : bx_B} {T : rx_Tb} {M : rx_Mt} {pc : Nat} {Cn : Nat → List bx_Ct} {cp : Nat → Nat → Option Nat} {sl : Nat → Nat → Option Nat}
def bx_e0 (B : bx_B) (M M_p : rx_Mt) (n ci j_p : Nat) (cts : List bx_Ct) : rx_Ent := match cts with
  | [] => .inr (.inr (j_p, M_p, bx_q_vcall B M M_p n ci))
  | ct :: l => .inl (fun d z => match bx_q_vcall B M M_p n ci z with
    | some a => bx_any B M_p d z a.1 a.2 (ct :: l)
    | none => none)
def bx_e1 (B : bx_B) (M M_p : rx_Mt) (n j_p : Nat) (cts : List bx_Ct) : rx_Ent := match cts with
  | [] => .inr (.inr (j_p, M_p, rx_q_scall M M_p n))
  | ct :: l => .inl (fun d z => match rx_q_scall M M_p n z with
    | some a => bx_any B M_p d z a.1 a.2 (ct :: l)
    | none => none)
theorem rx_k_e0 {idx how n ci j_p : Nat} {M_p : rx_Mt} (hq : T.2.2.2.2.1 M.1 idx = some (how, n, ci, j_p)) (hM : T.2.2.2.2.2 j_p = some M_p) (hw : (how % 3 == 0 && decide (how < 6)) = true) (hd : decode M.2.1 pc = .ok (.invokevirtual idx, 3)) : rx_entOK B (bx_xh B T Cn cp sl) T M pc (bx_e0 B M M_p n ci j_p (Cn j_p)) := by
  cases hC : Cn j_p with
  | nil => exact rx_k_call0 hq hM hw hC hd
  | cons ct l => exact rx_k_cc0 hq hM hw hC hd
theorem rx_k_e1 {idx how n ci j_p : Nat} {M_p : rx_Mt} (hq : T.2.2.2.2.1 M.1 idx = some (how, n, ci, j_p)) (hM : T.2.2.2.2.2 j_p = some M_p) (hw : (how % 3 == 1 && decide (how < 6)) = true) (hx : cp M.1 idx = none) (hd : decode M.2.1 pc = .ok (.invokestatic idx, 3)) : rx_entOK B (bx_xh B T Cn cp sl) T M pc (bx_e1 B M M_p n j_p (Cn j_p)) := by
  cases hC : Cn j_p with
  | nil => exact rx_k_call1 hq hM hw hx hC hd
  | cons ct l => exact rx_k_cc1 hq hM hw hx hC hd
end RXE
