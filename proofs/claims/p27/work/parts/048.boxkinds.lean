section
noncomputable def bx_pt (z : rx_Z) (e : rx_E) : Option Int := match rx_bi z.1 e with
  | some (lo, hi) => if lo = hi then some lo else none
  | none => none
noncomputable def bx_x_copy (B : bx_B) (d : Nat) (z : rx_Z) : Option (List rx_Z) := match rx_pi (rx_zst z) with
  | some (n, t) => match rx_pi t with
    | some (dp, t) => match bx_pp t with
      | some (k1, t) => match rx_pi t with
        | some (sp, t) => match bx_pp t with
          | some (k0, t) => match bx_dm z.2.2.1 k0.1, bx_dm z.2.2.1 k1.1 with
            | some d0, some d1 => match B.1.1 d0 k0.2, B.1.1 d1 k1.2 with
              | some (.inr (tc0, n0, _)), some (.inr (tc1, n1, g1)) => match B.1.2.1 d0 k0.2 0 ((n0 : Int) - 1) 1, B.1.2.2 d1 k1.2 0 ((n0 : Int) - 1) 1 with
                | some (0, l0, h0), some (0, l1, h1) => rx_if (tc0 == 0 && (tc1 == 0 && (n0 == n1 && (bx_pt z n == some (n0 : Int) && (bx_pt z dp == some 0 && (bx_pt z sp == some 0 && (decide (l1 ≤ l0) && (decide (h0 ≤ h1) && (decide (1 ≤ d) && (decide (rx_cats t ≤ 8) && (decide (n0 < 2000000000) && (bx_mdr B.2.2.2 g1 0 ((n0 : Int) - 1) && !(bx_lg B.2.2.2)))))))))))))
                    (some [rx_nxh (z.2.2.1.filter (bx_keepR B.1 z.2.2.1 0 ((n0 : Int) - 1) g1)) z 3 t])
                | _, _ => none
              | _, _ => none
            | _, _ => none
          | none => none
        | none => none
      | none => none
    | none => none
  | none => none
noncomputable def bx_x_mm (mx : Bool) (d : Nat) (z : rx_Z) : Option (List rx_Z) := match rx_pi (rx_zst z) with
  | some (b, t) => match rx_pi t with
    | some (a, t) => rx_if (rx_okI z.1 a && (rx_okI z.1 b && (decide (1 ≤ d) && (decide (rx_cats t ≤ 8) && (z.2.2.2.1 == 0 && z.2.2.2.2.1 == 0)))))
        (some (rx_way z (0, rx_nm z.1 b, rx_nm z.1 a) (rx_zpc z + 3) (.inr (0, if mx = true then a else b) :: t) ++ rx_way z (1, rx_nm z.1 a, rx_nm z.1 b) (rx_zpc z + 3) (.inr (0, if mx = true then b else a) :: t)))
    | none => none
  | none => none
noncomputable def bx_x_st (B : bx_B) (k : Nat) : Nat → rx_Z → Option (List rx_Z) := match k with
  | 0 => bx_x_copy B
  | 1 => bx_x_mm false
  | _ => bx_x_mm true
noncomputable def bx_xs (B : bx_B) (cp : Nat → Nat → Option Nat) (sl : Nat → Nat → Option Nat) : rx_Xh := fun d M i len z => match i with
  | .ldc idx => (match sl M.1 idx with
    | some n => rx_if (len == 2) (some [rx_nx z 2 (.inr (3, (0, (n : Int))) :: rx_zst z)])
    | none => none)
  | .invokestatic idx => (match cp M.1 idx with
    | some k => rx_if (len == 3) (bx_x_st B k d z)
    | none => none)
  | _ => none
noncomputable def bx_xh (B : bx_B) (T : rx_Tb) (Cn : Nat → List bx_Ct) (cp : Nat → Nat → Option Nat) (sl : Nat → Nat → Option Nat) : rx_Xh := fun d M i len z => rx_or (bx_xs B cp sl d M i len z) (bx_hook B T Cn d M i len z)
noncomputable def rx_l {α : Type} (l : List (Nat × α)) (i : Nat) : Option α := List.rec (motive := fun _ => Option α) none (fun q _ ih => Bool.rec (motive := fun _ => Option α) ih (some q.2) (Nat.beq q.1 i)) l
theorem rx_l_eq {i : Nat} : ∀ l : List (Nat × rx_V), rx_l l i = rx_lk l i
  | [] => rfl
  | q :: l => by
    have ih := rx_l_eq (i := i) l
    show Bool.rec (motive := fun _ => Option rx_V) (rx_l l i) (some q.2) (Nat.beq q.1 i) = rx_lk (q :: l) i
    rw [rx_lk]
    by_cases h : q.1 = i
    · rw [if_pos h, Nat.beq_eq.mpr h]
    · rw [if_neg h, Bool.eq_false_iff.mpr fun h2 => h (Nat.beq_eq.mp h2)]
      exact ih
noncomputable def rx_q_mc (mc ms : Nat) (z : rx_Z) : Bool := Nat.ble z.2.2.2.1 mc && Nat.ble z.2.2.2.2.1 ms
noncomputable def rx_q_reti (mc ms : Nat) (z : rx_Z) : Option rx_End := rx_if (rx_q_mc mc ms z) (match rx_zst z with
  | [.inr (0, e)] => some (z.1, z.2.1, z.2.2.1, some (.inr (0, e)))
  | _ => none)
noncomputable def rx_q_retz (mc ms : Nat) (z : rx_Z) : Option rx_End := rx_if (rx_q_mc mc ms z) (match rx_zst z with
  | [.inr (0, e)] => rx_if (rx_in01 z.1 e) (some (z.1, z.2.1, z.2.2.1, some (.inr (0, e))))
  | _ => none)
noncomputable def rx_q_retl (mc ms : Nat) (z : rx_Z) : Option rx_End := rx_if (rx_q_mc mc ms z) (match rx_zst z with
  | [.inr (1, e)] => some (z.1, z.2.1, z.2.2.1, some (.inr (1, e)))
  | _ => none)
noncomputable def rx_q_reta (mc ms : Nat) (z : rx_Z) : Option rx_End := rx_if (rx_q_mc mc ms z) (match rx_zst z with
  | [.inr (3, e)] => some (z.1, z.2.1, z.2.2.1, some (.inr (3, e)))
  | _ => none)
noncomputable def rx_q_retv (mc ms : Nat) (z : rx_Z) : Option rx_End := rx_if (rx_q_mc mc ms z) (match rx_zst z with
  | [] => some (z.1, z.2.1, z.2.2.1, none)
  | _ => none)
noncomputable def rx_q_scall (M M_p : rx_Mt) (n : Nat) (z : rx_Z) : Option (List rx_V × List rx_V) := match rx_take n [] (rx_zst z) with
  | some (as, t) => rx_if (rx_may M M_p z as t) (some (as, t))
  | none => none
noncomputable def rx_q_if (cnd : Jvm.ClassFile.Cond) (tgt nx : Nat) (z : rx_Z) : Option (List rx_Z) := match rx_pi (rx_zst z) with
  | some (a, t) => if rx_okI z.1 a then some (rx_fork z cnd a (0, 0) tgt nx t) else none
  | none => none
noncomputable def rx_q_icmp (cnd : Jvm.ClassFile.Cond) (tgt nx : Nat) (z : rx_Z) : Option (List rx_Z) := match rx_pi (rx_zst z) with
  | some (b, t) => match rx_pi t with
    | some (a, t) => if rx_okI z.1 a && rx_okI z.1 b then some (rx_fork z cnd a b tgt nx t) else none
    | none => none
  | none => none
noncomputable def rx_q_lcmp (cnd : Jvm.ClassFile.Cond) (tgt nx : Nat) (z : rx_Z) : Option (List rx_Z) := match rx_pl (rx_zst z) with
  | some (b, t) => match rx_pl t with
    | some (a, t) => if rx_okL z.1 a && rx_okL z.1 b then some (rx_fork z cnd a b tgt nx t) else none
    | none => none
  | none => none
noncomputable def rx_q_goto (tgt : Nat) (z : rx_Z) : Option (List rx_Z) := some [rx_jp z.1 z.2.1 z tgt (rx_zst z)]
theorem rx_beqd {α : Type} {a b : Nat} {x y : α} : (match Nat.beq a b with
    | true => x
    | false => y) = if a = b then x else y := by
  by_cases h : a = b
  · rw [if_pos h, Nat.beq_eq.mpr h]
  · rw [if_neg h, Bool.eq_false_iff.mpr fun h2 => h (Nat.beq_eq.mp h2)]
noncomputable def bx_q_get (V : bx_V) (np : Nat) (md : Nat → Nat → Bool) (q : rx_Q) (z : rx_Z) : Option (List rx_Z) := bx_h_get V np md (fun _ => some q) 0 z
theorem bx_q_get_eq {V : bx_V} {np idx : Nat} {md : Nat → Nat → Bool} {fr : Nat → Option rx_Q} {q : rx_Q} (hq : fr idx = some q) (z : rx_Z) : bx_q_get V np md q z = bx_h_get V np md fr idx z := by
  unfold bx_q_get bx_h_get
  rw [hq]
noncomputable def bx_q_put (V : bx_V) (dmf : Nat → Int → Bool) (md : Nat → Nat → Bool) (q : rx_Q) (z : rx_Z) : Option (List rx_Z) := bx_h_put V dmf md (fun _ => some q) 0 z
theorem bx_q_put_eq {V : bx_V} {dmf : Nat → Int → Bool} {md : Nat → Nat → Bool} {idx : Nat} {fr : Nat → Option rx_Q} {q : rx_Q} (hq : fr idx = some q) (z : rx_Z) : bx_q_put V dmf md q z = bx_h_put V dmf md fr idx z := by
  unfold bx_q_put bx_h_put
  rw [hq]
noncomputable def rx_q_load (kd i d : Nat) (z : rx_Z) : Option (List rx_Z) := match rx_l (rx_zlv z) i with
  | some (.inr (j, e)) => match Nat.beq j kd with
    | true => some [rx_nx z d (.inr (j, e) :: rx_zst z)]
    | false => none
  | _ => none
theorem rx_q_load_eq (kd i d : Nat) (z : rx_Z) : rx_q_load kd i d z = rx_h_load kd i d z := by
  unfold rx_q_load rx_h_load
  simp only [rx_l_eq, rx_beqd]
  rfl
noncomputable def rx_q_loadA (i d : Nat) (z : rx_Z) : Option (List rx_Z) := match rx_l (rx_zlv z) i with
  | some (.inl o) => some [rx_nx z d (.inl o :: rx_zst z)]
  | some (.inr (j + 2, e)) => some [rx_nx z d (.inr (j + 2, e) :: rx_zst z)]
  | _ => none
theorem rx_q_loadA_eq (i d : Nat) (z : rx_Z) : rx_q_loadA i d z = rx_h_loadA i d z := by
  unfold rx_q_loadA rx_h_loadA
  simp only [rx_l_eq]
  rfl
noncomputable def bx_q_vcall (B : bx_B) (M M_p : rx_Mt) (n ci : Nat) (z : rx_Z) : Option (List rx_V × List rx_V) := match rx_take n [] (rx_zst z) with
  | some (as, t) => match rx_rcv B z.2.2.1 ci t with
    | some (k, t2) => rx_if (rx_may M M_p z (.inr (3, k) :: as) t2) (some (.inr (3, k) :: as, t2))
    | none => none
  | none => none
theorem rx_ifN {α : Type} (b : Bool) : rx_if b (none : Option α) = none := by
  cases b <;> rfl
theorem rx_q_may {M : rx_Mt} {mc ms : Nat} {z : rx_Z} {α : Type} {x : Option α} (h1 : M.2.2.2.2.2.2.1 = mc) (h2 : M.2.2.2.2.2.2.2 = ms) : rx_if (1 == 1 && (decide (z.2.2.2.1 ≤ M.2.2.2.2.2.2.1) && decide (z.2.2.2.2.1 ≤ M.2.2.2.2.2.2.2))) x = rx_if (rx_q_mc mc ms z) x := by
  subst h1; subst h2
  have e : ∀ a b : Nat, decide (a ≤ b) = Nat.ble a b := fun a b => by
    rw [Bool.eq_iff_iff, decide_eq_true_eq, Nat.ble_eq]
  unfold rx_q_mc
  rw [e, e]
  rfl
section RXK
variable {B : bx_B} {T : rx_Tb} {M : rx_Mt} {pc : Nat} {Cn : Nat → List bx_Ct} {cp : Nat → Nat → Option Nat} {sl : Nat → Nat → Option Nat}
theorem rx_k_iconst {n m : Int} (hn : n = m) (hd : rx_ac M.2.1 pc n = true) : rx_entOK B (bx_xh B T Cn cp sl) T M pc (.inl (fun _ => rx_h_push (rx_n m) 1)) := by
  subst hn
  exact ⟨_, _, (rx_d_iconst hd), fun _ _ _ _ _ _ _ _ => ⟨rx_ifN _, fun _ h => h⟩⟩
theorem rx_k_bipush {n m : Int} (hn : (Int8.ofInt n).toInt32.toInt = m) (hd : rx_as M.2.1 pc 16 n = true) : rx_entOK B (bx_xh B T Cn cp sl) T M pc (.inl (fun _ => rx_h_push (rx_n m) 2)) := by
  subst hn
  exact ⟨_, _, (rx_d_bipush hd), fun _ _ _ _ _ _ _ _ => ⟨rx_ifN _, fun _ h => h⟩⟩
theorem rx_k_lconst {n : Fin 2} {m : Int} (hn : ((n : Nat) : Int) = m) (hd : rx_a0 M.2.1 pc (9 + (n : Nat)) = true) : rx_entOK B (bx_xh B T Cn cp sl) T M pc (.inl (fun _ => rx_h_push (.inr (1, (0, m))) 1)) := by
  subst hn
  exact ⟨_, _, (rx_d_lconst hd), fun _ _ _ _ _ _ _ _ => ⟨rx_ifN _, fun _ h => h⟩⟩
theorem rx_k_iload_n {k : Fin 4} {i : Nat} (hk : (k : Nat) = i) (hd : rx_a0 M.2.1 pc (26 + (k : Nat)) = true) : rx_entOK B (bx_xh B T Cn cp sl) T M pc (.inl (fun _ => rx_q_load 0 i 1)) := by
  subst hk
  refine ⟨_, _, (rx_d_iload_n hd), fun d I F ht c s lv st => ⟨rx_ifN _, fun zs h => ?_⟩⟩
  try dsimp only at h
  rw [rx_q_load_eq] at h
  exact h
theorem rx_k_iload {i : Nat} (hd : rx_au M.2.1 pc 21 i = true) : rx_entOK B (bx_xh B T Cn cp sl) T M pc (.inl (fun _ => rx_q_load 0 i 2)) := by
  refine ⟨_, _, (rx_d_iload hd), fun d I F ht c s lv st => ⟨rx_ifN _, fun zs h => ?_⟩⟩
  try dsimp only at h
  rw [rx_q_load_eq] at h
  exact h
theorem rx_k_lload_n {k : Fin 4} {i : Nat} (hk : (k : Nat) = i) (hd : rx_a0 M.2.1 pc (30 + (k : Nat)) = true) : rx_entOK B (bx_xh B T Cn cp sl) T M pc (.inl (fun _ => rx_q_load 1 i 1)) := by
  subst hk
  refine ⟨_, _, (rx_d_lload_n hd), fun d I F ht c s lv st => ⟨rx_ifN _, fun zs h => ?_⟩⟩
  try dsimp only at h
  rw [rx_q_load_eq] at h
  exact h
theorem rx_k_lload {i : Nat} (hd : rx_au M.2.1 pc 22 i = true) : rx_entOK B (bx_xh B T Cn cp sl) T M pc (.inl (fun _ => rx_q_load 1 i 2)) := by
  refine ⟨_, _, (rx_d_lload hd), fun d I F ht c s lv st => ⟨rx_ifN _, fun zs h => ?_⟩⟩
  try dsimp only at h
  rw [rx_q_load_eq] at h
  exact h
theorem rx_k_aload_n {k : Fin 4} {i : Nat} (hk : (k : Nat) = i) (hd : rx_a0 M.2.1 pc (42 + (k : Nat)) = true) : rx_entOK B (bx_xh B T Cn cp sl) T M pc (.inl (fun _ => rx_q_loadA i 1)) := by
  subst hk
  refine ⟨_, _, (rx_d_aload_n hd), fun d I F ht c s lv st => ⟨rx_ifN _, fun zs h => ?_⟩⟩
  try dsimp only at h
  rw [rx_q_loadA_eq] at h
  exact h
theorem rx_k_aload {i : Nat} (hd : rx_au M.2.1 pc 25 i = true) : rx_entOK B (bx_xh B T Cn cp sl) T M pc (.inl (fun _ => rx_q_loadA i 2)) := by
  refine ⟨_, _, (rx_d_aload hd), fun d I F ht c s lv st => ⟨rx_ifN _, fun zs h => ?_⟩⟩
  try dsimp only at h
  rw [rx_q_loadA_eq] at h
  exact h
theorem rx_k_istore_n {k : Fin 4} {i nL : Nat} (hk : (k : Nat) = i) (hL : M.2.2.1 = nL) (hd : rx_a0 M.2.1 pc (59 + (k : Nat)) = true) : rx_entOK B (bx_xh B T Cn cp sl) T M pc (.inl (fun _ => rx_h_istore nL i 1)) := by
  subst hk; subst hL
  exact ⟨_, _, (rx_d_istore_n hd), fun _ _ _ _ _ _ _ _ => ⟨rx_ifN _, fun _ h => h⟩⟩
theorem rx_k_istore {i nL : Nat} (hL : M.2.2.1 = nL) (hd : rx_au M.2.1 pc 54 i = true) : rx_entOK B (bx_xh B T Cn cp sl) T M pc (.inl (fun _ => rx_h_istore nL i 2)) := by
  subst hL
  exact ⟨_, _, (rx_d_istore hd), fun _ _ _ _ _ _ _ _ => ⟨rx_ifN _, fun _ h => h⟩⟩
theorem rx_k_lstore_n {k : Fin 4} {i nL : Nat} (hk : (k : Nat) = i) (hL : M.2.2.1 = nL) (hd : rx_a0 M.2.1 pc (63 + (k : Nat)) = true) : rx_entOK B (bx_xh B T Cn cp sl) T M pc (.inl (fun _ => rx_h_lstore nL i 1)) := by
  subst hk; subst hL
  exact ⟨_, _, (rx_d_lstore_n hd), fun _ _ _ _ _ _ _ _ => ⟨rx_ifN _, fun _ h => h⟩⟩
theorem rx_k_lstore {i nL : Nat} (hL : M.2.2.1 = nL) (hd : rx_au M.2.1 pc 55 i = true) : rx_entOK B (bx_xh B T Cn cp sl) T M pc (.inl (fun _ => rx_h_lstore nL i 2)) := by
  subst hL
  exact ⟨_, _, (rx_d_lstore hd), fun _ _ _ _ _ _ _ _ => ⟨rx_ifN _, fun _ h => h⟩⟩
theorem rx_k_astore_n {k : Fin 4} {i nL : Nat} (hk : (k : Nat) = i) (hL : M.2.2.1 = nL) (hd : rx_a0 M.2.1 pc (75 + (k : Nat)) = true) : rx_entOK B (bx_xh B T Cn cp sl) T M pc (.inl (fun _ => rx_h_astore nL i 1)) := by
  subst hk; subst hL
  exact ⟨_, _, (rx_d_astore_n hd), fun _ _ _ _ _ _ _ _ => ⟨rx_ifN _, fun _ h => h⟩⟩
theorem rx_k_astore {i nL : Nat} (hL : M.2.2.1 = nL) (hd : rx_au M.2.1 pc 58 i = true) : rx_entOK B (bx_xh B T Cn cp sl) T M pc (.inl (fun _ => rx_h_astore nL i 2)) := by
  subst hL
  exact ⟨_, _, (rx_d_astore hd), fun _ _ _ _ _ _ _ _ => ⟨rx_ifN _, fun _ h => h⟩⟩
theorem rx_k_iinc {i nL : Nat} {n m : Int} (hn : n = m) (hL : M.2.2.1 = nL) (hd : rx_ai M.2.1 pc 132 i n = true) : rx_entOK B (bx_xh B T Cn cp sl) T M pc (.inl (fun _ => rx_h_iinc nL i m)) := by
  subst hL; subst hn
  exact ⟨_, _, (rx_d_iinc hd), fun _ _ _ _ _ _ _ _ => ⟨rx_ifN _, fun _ h => h⟩⟩
theorem rx_k_iadd (hd : rx_a0 M.2.1 pc 96 = true) : rx_entOK B (bx_xh B T Cn cp sl) T M pc (.inl (fun _ => rx_h_bin 0)) := ⟨_, _, (rx_d_iadd hd), fun _ _ _ _ _ _ _ _ => ⟨rx_ifN _, fun _ h => h⟩⟩
theorem rx_k_isub (hd : rx_a0 M.2.1 pc 100 = true) : rx_entOK B (bx_xh B T Cn cp sl) T M pc (.inl (fun _ => rx_h_sub)) := ⟨_, _, (rx_d_isub hd), fun _ _ _ _ _ _ _ _ => ⟨rx_ifN _, fun _ h => h⟩⟩
theorem rx_k_imul (hd : rx_a0 M.2.1 pc 104 = true) : rx_entOK B (bx_xh B T Cn cp sl) T M pc (.inl (fun _ => rx_h_bin 2)) := ⟨_, _, (rx_d_imul hd), fun _ _ _ _ _ _ _ _ => ⟨rx_ifN _, fun _ h => h⟩⟩
theorem rx_k_iand (hd : rx_a0 M.2.1 pc 126 = true) : rx_entOK B (bx_xh B T Cn cp sl) T M pc (.inl (fun _ => rx_h_and)) := ⟨_, _, (rx_d_iand hd), fun _ _ _ _ _ _ _ _ => ⟨rx_ifN _, fun _ h => h⟩⟩
theorem rx_k_ior (hd : rx_a0 M.2.1 pc 128 = true) : rx_entOK B (bx_xh B T Cn cp sl) T M pc (.inl (fun _ => rx_h_bin 6)) := ⟨_, _, (rx_d_ior hd), fun _ _ _ _ _ _ _ _ => ⟨rx_ifN _, fun _ h => h⟩⟩
theorem rx_k_ixor (hd : rx_a0 M.2.1 pc 130 = true) : rx_entOK B (bx_xh B T Cn cp sl) T M pc (.inl (fun _ => rx_h_bin 7)) := ⟨_, _, (rx_d_ixor hd), fun _ _ _ _ _ _ _ _ => ⟨rx_ifN _, fun _ h => h⟩⟩
theorem rx_k_ishl (hd : rx_a0 M.2.1 pc 120 = true) : rx_entOK B (bx_xh B T Cn cp sl) T M pc (.inl (fun _ => rx_h_bin 8)) := ⟨_, _, (rx_d_ishl hd), fun _ _ _ _ _ _ _ _ => ⟨rx_ifN _, fun _ h => h⟩⟩
theorem rx_k_ishr (hd : rx_a0 M.2.1 pc 122 = true) : rx_entOK B (bx_xh B T Cn cp sl) T M pc (.inl (fun _ => rx_h_bin 9)) := ⟨_, _, (rx_d_ishr hd), fun _ _ _ _ _ _ _ _ => ⟨rx_ifN _, fun _ h => h⟩⟩
theorem rx_k_iushr (hd : rx_a0 M.2.1 pc 124 = true) : rx_entOK B (bx_xh B T Cn cp sl) T M pc (.inl (fun _ => rx_h_bin 10)) := ⟨_, _, (rx_d_iushr hd), fun _ _ _ _ _ _ _ _ => ⟨rx_ifN _, fun _ h => h⟩⟩
theorem rx_k_idiv (hd : rx_a0 M.2.1 pc 108 = true) : rx_entOK B (bx_xh B T Cn cp sl) T M pc (.inl (fun _ => rx_h_div 3)) := ⟨_, _, (rx_d_idiv hd), fun _ _ _ _ _ _ _ _ => ⟨rx_ifN _, fun _ h => h⟩⟩
theorem rx_k_irem (hd : rx_a0 M.2.1 pc 112 = true) : rx_entOK B (bx_xh B T Cn cp sl) T M pc (.inl (fun _ => rx_h_div 4)) := ⟨_, _, (rx_d_irem hd), fun _ _ _ _ _ _ _ _ => ⟨rx_ifN _, fun _ h => h⟩⟩
theorem rx_k_ineg (hd : rx_a0 M.2.1 pc 116 = true) : rx_entOK B (bx_xh B T Cn cp sl) T M pc (.inl (fun _ => rx_h_ineg)) := ⟨_, _, (rx_d_ineg hd), fun _ _ _ _ _ _ _ _ => ⟨rx_ifN _, fun _ h => h⟩⟩
theorem rx_k_ladd (hd : rx_a0 M.2.1 pc 97 = true) : rx_entOK B (bx_xh B T Cn cp sl) T M pc (.inl (fun _ => rx_h_binL 0)) := ⟨_, _, (rx_d_ladd hd), fun _ _ _ _ _ _ _ _ => ⟨rx_ifN _, fun _ h => h⟩⟩
theorem rx_k_lsub (hd : rx_a0 M.2.1 pc 101 = true) : rx_entOK B (bx_xh B T Cn cp sl) T M pc (.inl (fun _ => rx_h_binL 1)) := ⟨_, _, (rx_d_lsub hd), fun _ _ _ _ _ _ _ _ => ⟨rx_ifN _, fun _ h => h⟩⟩
theorem rx_k_lmul (hd : rx_a0 M.2.1 pc 105 = true) : rx_entOK B (bx_xh B T Cn cp sl) T M pc (.inl (fun _ => rx_h_binL 2)) := ⟨_, _, (rx_d_lmul hd), fun _ _ _ _ _ _ _ _ => ⟨rx_ifN _, fun _ h => h⟩⟩
theorem rx_k_ldiv (hd : rx_a0 M.2.1 pc 109 = true) : rx_entOK B (bx_xh B T Cn cp sl) T M pc (.inl (fun _ => rx_h_divL 3)) := ⟨_, _, (rx_d_ldiv hd), fun _ _ _ _ _ _ _ _ => ⟨rx_ifN _, fun _ h => h⟩⟩
theorem rx_k_lrem (hd : rx_a0 M.2.1 pc 113 = true) : rx_entOK B (bx_xh B T Cn cp sl) T M pc (.inl (fun _ => rx_h_divL 4)) := ⟨_, _, (rx_d_lrem hd), fun _ _ _ _ _ _ _ _ => ⟨rx_ifN _, fun _ h => h⟩⟩
theorem rx_k_i2l (hd : rx_a0 M.2.1 pc 133 = true) : rx_entOK B (bx_xh B T Cn cp sl) T M pc (.inl (fun _ => rx_h_i2l)) := ⟨_, _, (rx_d_i2l hd), fun _ _ _ _ _ _ _ _ => ⟨rx_ifN _, fun _ h => h⟩⟩
theorem rx_k_dup (hd : rx_a0 M.2.1 pc 89 = true) : rx_entOK B (bx_xh B T Cn cp sl) T M pc (.inl (fun _ => rx_h_dup)) := ⟨_, _, (rx_d_dup hd), fun _ _ _ _ _ _ _ _ => ⟨rx_ifN _, fun _ h => h⟩⟩
theorem rx_k_dup2 (hd : rx_a0 M.2.1 pc 92 = true) : rx_entOK B (bx_xh B T Cn cp sl) T M pc (.inl (fun _ => rx_h_dup2)) := ⟨_, _, (rx_d_dup2 hd), fun _ _ _ _ _ _ _ _ => ⟨rx_ifN _, fun _ h => h⟩⟩
theorem rx_k_pop (hd : rx_a0 M.2.1 pc 87 = true) : rx_entOK B (bx_xh B T Cn cp sl) T M pc (.inl (fun _ => rx_h_pop)) := ⟨_, _, (rx_d_pop hd), fun _ _ _ _ _ _ _ _ => ⟨rx_ifN _, fun _ h => h⟩⟩
theorem rx_k_tableswitch {dflt lo hi : Int} {offs : Array Int} {len : Nat} (hd : decode M.2.1 pc = .ok (.tableswitch dflt lo hi offs, len)) : rx_entOK B (bx_xh B T Cn cp sl) T M pc (.inl (fun _ => rx_h_table dflt lo hi offs)) := ⟨_, _, hd, fun _ _ _ _ _ _ _ _ => ⟨rx_ifN _, fun _ h => h⟩⟩
theorem rx_k_lookupswitch {dflt : Int} {ps : Array (Int × Int)} {len : Nat} (hd : decode M.2.1 pc = .ok (.lookupswitch dflt ps, len)) : rx_entOK B (bx_xh B T Cn cp sl) T M pc (.inl (fun _ => rx_h_look dflt ps)) := ⟨_, _, hd, fun _ _ _ _ _ _ _ _ => ⟨rx_ifN _, fun _ h => h⟩⟩
theorem rx_k_ldcw {idx : Nat} {v : Int} (hv : T.2.2.2.1 M.1 idx = some (.inr (0, (0, v)))) (hd : rx_aw M.2.1 pc 19 idx = true) : rx_entOK B (bx_xh B T Cn cp sl) T M pc (.inl (fun _ => rx_h_push (rx_n v) 3)) := by
  refine ⟨_, _, (rx_d_ldc_w hd), fun d I F ht c s lv st => ⟨rx_ifN _, fun zs h => ?_⟩⟩
  show rx_h_const T.2.2.2.1 M.1 idx 0 3 _ = some zs
  unfold rx_h_const
  rw [hv]
  exact h
theorem rx_k_ldc2 {idx : Nat} {v : Int} (hv : T.2.2.2.1 M.1 idx = some (.inr (1, (0, v)))) (hd : rx_aw M.2.1 pc 20 idx = true) : rx_entOK B (bx_xh B T Cn cp sl) T M pc (.inl (fun _ => rx_h_push (.inr (1, (0, v))) 3)) := by
  refine ⟨_, _, (rx_d_ldc2_w hd), fun d I F ht c s lv st => ⟨rx_ifN _, fun zs h => ?_⟩⟩
  show rx_h_const T.2.2.2.1 M.1 idx 1 3 _ = some zs
  unfold rx_h_const
  rw [hv]
  exact h
theorem rx_k_sipush {n m : Int} (hn : (Int16.ofInt n).toInt32.toInt = m) (hd : rx_at_ M.2.1 pc 17 n = true) : rx_entOK B (bx_xh B T Cn cp sl) T M pc (.inl (fun _ => rx_h_push (rx_n m) 3)) := by
  subst hn
  exact ⟨_, _, (rx_d_sipush hd), fun _ _ _ _ _ _ _ _ => ⟨rx_ifN _, fun _ h => h⟩⟩
theorem rx_k_if {cnd : Jvm.ClassFile.Cond} {off : Int} {tgt nx : Nat} (ho : rx_off pc off = some tgt) (hn : pc + 3 = nx) (hd : rx_at_ M.2.1 pc (153 + rx_cdn cnd) off = true) : rx_entOK B (bx_xh B T Cn cp sl) T M pc (.inl (fun _ => rx_q_if cnd tgt nx)) := by
  subst hn
  refine ⟨_, _, (rx_d_ifCond hd), fun d I F ht c s lv st => ⟨rx_ifN _, fun zs h => ?_⟩⟩
  show rx_h_if cnd off (I, F, ht, c, s, pc, lv, st) = some zs
  have ho2 : rx_off (rx_zpc (I, F, ht, c, s, pc, lv, st)) off = some tgt := ho
  have h : rx_q_if cnd tgt (pc + 3) (I, F, ht, c, s, pc, lv, st) = some zs := h
  unfold rx_q_if at h
  unfold rx_h_if
  rw [ho2]
  split at h
  · rename_i e
    rw [e]
    exact h
  · cases h
theorem rx_k_icmp {cnd : Jvm.ClassFile.Cond} {off : Int} {tgt nx : Nat} (ho : rx_off pc off = some tgt) (hn : pc + 3 = nx) (hd : rx_at_ M.2.1 pc (159 + rx_cdn cnd) off = true) : rx_entOK B (bx_xh B T Cn cp sl) T M pc (.inl (fun _ => rx_q_icmp cnd tgt nx)) := by
  subst hn
  refine ⟨_, _, (rx_d_if_icmp hd), fun d I F ht c s lv st => ⟨rx_ifN _, fun zs h => ?_⟩⟩
  show rx_h_icmp cnd off (I, F, ht, c, s, pc, lv, st) = some zs
  have ho2 : rx_off (rx_zpc (I, F, ht, c, s, pc, lv, st)) off = some tgt := ho
  have h : rx_q_icmp cnd tgt (pc + 3) (I, F, ht, c, s, pc, lv, st) = some zs := h
  unfold rx_q_icmp at h
  unfold rx_h_icmp
  rw [ho2]
  split at h
  · rename_i e
    rw [e]
    exact h
  · cases h
theorem rx_k_lcmp {cnd : Jvm.ClassFile.Cond} {off : Int} {tgt nx : Nat} (ho : rx_off (pc + 1) off = some tgt) (hn : pc + 4 = nx) (hd2 : rx_at_ M.2.1 (pc + 1) (153 + rx_cdn cnd) off = true) (hd : rx_a0 M.2.1 pc 148 = true) : rx_entOK B (bx_xh B T Cn cp sl) T M pc (.inl (fun _ => rx_q_lcmp cnd tgt nx)) := by
  subst hn
  refine ⟨_, _, (rx_d_lcmp hd), fun d I F ht c s lv st => ⟨rx_ifN _, fun zs h => ?_⟩⟩
  show rx_h_lcmp (decode M.2.1 (pc + 1)) (I, F, ht, c, s, pc, lv, st) = some zs
  have h : rx_q_lcmp cnd tgt (pc + 4) (I, F, ht, c, s, pc, lv, st) = some zs := h
  unfold rx_q_lcmp at h
  unfold rx_h_lcmp
  rw [(rx_d_ifCond hd2)]
  split at h
  · rename_i b t e
    rw [e]
    dsimp only
    split at h
    · rename_i a t2 e2
      rw [e2]
      show (match rx_off (pc + 1) off with
        | some tgt => if rx_okL I a && rx_okL I b then some (rx_fork (I, F, ht, c, s, pc, lv, st) cnd a b tgt (pc + 4) t2) else none
        | none => none) = some zs
      rw [ho]
      exact h
    · cases h
  · cases h
theorem rx_k_goto {off : Int} {tgt : Nat} (ho : rx_off pc off = some tgt) (hd : rx_at_ M.2.1 pc 167 off = true) : rx_entOK B (bx_xh B T Cn cp sl) T M pc (.inl (fun _ => rx_q_goto tgt)) := by
  refine ⟨_, _, (rx_d_goto hd), fun d I F ht c s lv st => ⟨rx_ifN _, fun zs h => ?_⟩⟩
  show rx_h_goto off (I, F, ht, c, s, pc, lv, st) = some zs
  have ho2 : rx_off (rx_zpc (I, F, ht, c, s, pc, lv, st)) off = some tgt := ho
  unfold rx_h_goto
  rw [ho2]
  exact h
theorem rx_k_reti {mc ms : Nat} (h1 : M.2.2.2.2.2.2.1 = mc) (h2 : M.2.2.2.2.2.2.2 = ms) (hr : M.2.2.2.1 = some .int) (hd : rx_a0 M.2.1 pc 172 = true) : rx_entOK B (bx_xh B T Cn cp sl) T M pc (.inr (.inl (rx_q_reti mc ms))) := by
  refine ⟨_, _, (rx_d_ireturn hd), fun I F ht c s lv st E h => ?_⟩
  unfold rx_retk
  rw [hr, rx_q_may h1 h2]
  exact h
theorem rx_k_retz {mc ms : Nat} (h1 : M.2.2.2.2.2.2.1 = mc) (h2 : M.2.2.2.2.2.2.2 = ms) (hr : M.2.2.2.1 = some .boolean) (hd : rx_a0 M.2.1 pc 172 = true) : rx_entOK B (bx_xh B T Cn cp sl) T M pc (.inr (.inl (rx_q_retz mc ms))) := by
  refine ⟨_, _, (rx_d_ireturn hd), fun I F ht c s lv st E h => ?_⟩
  unfold rx_retk
  rw [hr, rx_q_may h1 h2]
  exact h
theorem rx_k_retl {mc ms : Nat} (h1 : M.2.2.2.2.2.2.1 = mc) (h2 : M.2.2.2.2.2.2.2 = ms) (hr : M.2.2.2.1 = some .long) (hd : rx_a0 M.2.1 pc 173 = true) : rx_entOK B (bx_xh B T Cn cp sl) T M pc (.inr (.inl (rx_q_retl mc ms))) := by
  refine ⟨_, _, (rx_d_lreturn hd), fun I F ht c s lv st E h => ?_⟩
  unfold rx_retk
  rw [hr, rx_q_may h1 h2]
  exact h
theorem rx_k_retv {mc ms : Nat} (h1 : M.2.2.2.2.2.2.1 = mc) (h2 : M.2.2.2.2.2.2.2 = ms) (hr : M.2.2.2.1 = none) (hd : rx_a0 M.2.1 pc 177 = true) : rx_entOK B (bx_xh B T Cn cp sl) T M pc (.inr (.inl (rx_q_retv mc ms))) := by
  refine ⟨_, _, (rx_d_return_ hd), fun I F ht c s lv st E h => ?_⟩
  unfold rx_retk
  rw [hr, rx_q_may h1 h2]
  exact h
theorem rx_k_reta {mc ms : Nat} (h1 : M.2.2.2.2.2.2.1 = mc) (h2 : M.2.2.2.2.2.2.2 = ms) (hr : (∃ n, M.2.2.2.1 = some (.object n)) ∨ ∃ n, M.2.2.2.1 = some (.array n)) (hd : rx_a0 M.2.1 pc 176 = true) : rx_entOK B (bx_xh B T Cn cp sl) T M pc (.inr (.inl (rx_q_reta mc ms))) := by
  refine ⟨_, _, (rx_d_areturn hd), fun I F ht c s lv st E h => ?_⟩
  unfold rx_retk
  rcases hr with ⟨n, hr⟩ | ⟨n, hr⟩
  all_goals
    rw [hr, rx_q_may h1 h2]
    exact h
theorem rx_k_land (hd : rx_a0 M.2.1 pc 127 = true) : rx_entOK B (bx_xh B T Cn cp sl) T M pc (.inl (fun _ => rx_h_binL 5)) := ⟨_, _, (rx_d_land hd), fun _ _ _ _ _ _ _ _ => ⟨rx_ifN _, fun _ h => h⟩⟩
theorem rx_k_lor (hd : rx_a0 M.2.1 pc 129 = true) : rx_entOK B (bx_xh B T Cn cp sl) T M pc (.inl (fun _ => rx_h_binL 6)) := ⟨_, _, (rx_d_lor hd), fun _ _ _ _ _ _ _ _ => ⟨rx_ifN _, fun _ h => h⟩⟩
theorem rx_k_l2i (hd : rx_a0 M.2.1 pc 136 = true) : rx_entOK B (bx_xh B T Cn cp sl) T M pc (.inl (fun _ => rx_h_l2i)) := ⟨_, _, (rx_d_l2i hd), fun _ _ _ _ _ _ _ _ => ⟨rx_ifN _, fun _ h => h⟩⟩
theorem rx_k_lshl (hd : rx_a0 M.2.1 pc 121 = true) : rx_entOK B (bx_xh B T Cn cp sl) T M pc (.inl (fun _ => rx_h_lsh)) := ⟨_, _, (rx_d_lshl hd), fun _ _ _ _ _ _ _ _ => ⟨rx_ifN _, fun _ h => h⟩⟩
theorem rx_k_lshr (hd : rx_a0 M.2.1 pc 123 = true) : rx_entOK B (bx_xh B T Cn cp sl) T M pc (.inl (fun _ => rx_h_lsh)) := ⟨_, _, (rx_d_lshr hd), fun _ _ _ _ _ _ _ _ => ⟨rx_ifN _, fun _ h => h⟩⟩
theorem rx_k_alen (hd : rx_a0 M.2.1 pc 190 = true) : rx_entOK B (bx_xh B T Cn cp sl) T M pc (.inl (fun _ => bx_h_alen B.1)) := ⟨_, _, (rx_d_arraylength hd), fun _ _ _ _ _ _ _ _ => ⟨rx_ifN _, fun _ h => h⟩⟩
theorem rx_k_iaload (hd : rx_a0 M.2.1 pc 46 = true) : rx_entOK B (bx_xh B T Cn cp sl) T M pc (.inl (fun _ => bx_h_ald B.1 B.2.1 B.2.2.2 (rx_isTc 0))) := ⟨_, _, (rx_d_iaload hd), fun _ _ _ _ _ _ _ _ => ⟨rx_ifN _, fun _ h => h⟩⟩
theorem rx_k_baload (hd : rx_a0 M.2.1 pc 51 = true) : rx_entOK B (bx_xh B T Cn cp sl) T M pc (.inl (fun _ => bx_h_ald B.1 B.2.1 B.2.2.2 (rx_isTc 1))) := ⟨_, _, (rx_d_baload hd), fun _ _ _ _ _ _ _ _ => ⟨rx_ifN _, fun _ h => h⟩⟩
theorem rx_k_laload (hd : rx_a0 M.2.1 pc 47 = true) : rx_entOK B (bx_xh B T Cn cp sl) T M pc (.inl (fun _ => bx_h_ald B.1 B.2.1 B.2.2.2 (rx_isTc 2))) := ⟨_, _, (rx_d_laload hd), fun _ _ _ _ _ _ _ _ => ⟨rx_ifN _, fun _ h => h⟩⟩
theorem rx_k_aaload (hd : rx_a0 M.2.1 pc 50 = true) : rx_entOK B (bx_xh B T Cn cp sl) T M pc (.inl (fun _ => bx_h_ald B.1 B.2.1 B.2.2.2 rx_isRef)) := ⟨_, _, (rx_d_aaload hd), fun _ _ _ _ _ _ _ _ => ⟨rx_ifN _, fun _ h => h⟩⟩
theorem rx_k_iastore (hd : rx_a0 M.2.1 pc 79 = true) : rx_entOK B (bx_xh B T Cn cp sl) T M pc (.inl (fun _ => bx_h_ast B.1 B.2.2.1 B.2.2.2 (rx_isTc 0))) := ⟨_, _, (rx_d_iastore hd), fun _ _ _ _ _ _ _ _ => ⟨rx_ifN _, fun _ h => h⟩⟩
theorem rx_k_bastore (hd : rx_a0 M.2.1 pc 84 = true) : rx_entOK B (bx_xh B T Cn cp sl) T M pc (.inl (fun _ => bx_h_ast B.1 B.2.2.1 B.2.2.2 (rx_isTc 1))) := ⟨_, _, (rx_d_bastore hd), fun _ _ _ _ _ _ _ _ => ⟨rx_ifN _, fun _ h => h⟩⟩
theorem rx_k_lastore (hd : rx_a0 M.2.1 pc 80 = true) : rx_entOK B (bx_xh B T Cn cp sl) T M pc (.inl (fun _ => bx_h_ast B.1 B.2.2.1 B.2.2.2 (rx_isTc 2))) := ⟨_, _, (rx_d_lastore hd), fun _ _ _ _ _ _ _ _ => ⟨rx_ifN _, fun _ h => h⟩⟩
theorem rx_k_get {idx : Nat} {q : rx_Q} (hq : T.1 M.1 idx = some q) (hd : rx_aw M.2.1 pc 180 idx = true) : rx_entOK B (bx_xh B T Cn cp sl) T M pc (.inl (fun _ => bx_q_get B.1 B.2.1 B.2.2.2 q)) := by
  refine ⟨_, _, (rx_d_getfield hd), fun d I F ht c s lv st => ⟨rx_ifN _, fun zs h => ?_⟩⟩
  dsimp only at h
  rw [bx_q_get_eq hq] at h
  exact h
theorem rx_k_put {idx : Nat} {q : rx_Q} (hq : T.1 M.1 idx = some q) (hd : rx_aw M.2.1 pc 181 idx = true) : rx_entOK B (bx_xh B T Cn cp sl) T M pc (.inl (fun _ => bx_q_put B.1 B.2.2.1 B.2.2.2 q)) := by
  refine ⟨_, _, (rx_d_putfield hd), fun d I F ht c s lv st => ⟨rx_ifN _, fun zs h => ?_⟩⟩
  dsimp only at h
  rw [bx_q_put_eq hq] at h
  exact h
theorem rx_k_ldcS {idx n : Nat} (hs : sl M.1 idx = some n) (hd : rx_au M.2.1 pc 18 idx = true) : rx_entOK B (bx_xh B T Cn cp sl) T M pc (.inl (fun _ => rx_h_push (.inr (3, (0, (n : Int)))) 2)) := by
  refine ⟨_, _, (rx_d_ldc hd), fun d I F ht c s lv st => ⟨rx_ifN _, fun zs h => ?_⟩⟩
  have e : bx_xh B T Cn cp sl d M (.ldc idx) 2 (I, F, ht, c, s, pc, lv, st) = some zs := by
    show rx_or (match sl M.1 idx with
      | some n => rx_if (2 == 2) (some [rx_nx (I, F, ht, c, s, pc, lv, st) 2 (.inr (3, (0, (n : Int))) :: rx_zst (I, F, ht, c, s, pc, lv, st))])
      | none => none) none = some zs
    rw [hs]
    exact h
  rw [e]
  rfl
theorem rx_k_st {idx k : Nat} (hx : cp M.1 idx = some k) (hd : rx_aw M.2.1 pc 184 idx = true) : rx_entOK B (bx_xh B T Cn cp sl) T M pc (.inl (bx_x_st B k)) := by
  refine ⟨_, _, (rx_d_invokestatic hd), fun d I F ht c s lv st => ⟨rx_ifN _, fun zs h => ?_⟩⟩
  have e : bx_xh B T Cn cp sl d M (.invokestatic idx) 3 (I, F, ht, c, s, pc, lv, st) = some zs := by
    show rx_or (match cp M.1 idx with
      | some k => rx_if (3 == 3) (bx_x_st B k d (I, F, ht, c, s, pc, lv, st))
      | none => none) _ = some zs
    rw [hx]
    show rx_or (bx_x_st B k d (I, F, ht, c, s, pc, lv, st)) _ = some zs
    try dsimp only at h
    rw [h]
    rfl
  rw [e]
  rfl
theorem rx_k_cc0 {idx how n ci j_p : Nat} {M_p : rx_Mt} {cts : List bx_Ct} (hq : T.2.2.2.2.1 M.1 idx = some (how, n, ci, j_p)) (hM : T.2.2.2.2.2 j_p = some M_p) (hw : (how % 3 == 0 && decide (how < 6)) = true) (hC : Cn j_p = cts) (hd : rx_aw M.2.1 pc 182 idx = true) : rx_entOK B (bx_xh B T Cn cp sl) T M pc (.inl (fun d z => match bx_q_vcall B M M_p n ci z with
    | some a => bx_any B M_p d z a.1 a.2 cts
    | none => none)) := by
  have hprep : ∀ (I : rx_I) (F : rx_F) (ht : List rx_C) (c s : Nat) (lv : List (Nat × rx_V)) (st : List rx_V) (a : List rx_V × List rx_V), bx_q_vcall B M M_p n ci (I, F, ht, c, s, pc, lv, st) = some a → rx_prep B T M (.invokevirtual idx) 3 (I, F, ht, c, s, pc, lv, st) = some ((how, n, ci, j_p), M_p, a.1, a.2) := by
    intro I F ht c s lv st a h
    unfold rx_prep rx_cidx
    unfold bx_q_vcall at h
    dsimp only at h ⊢
    rw [hq]
    dsimp only
    rw [hM]
    split at h
    · rename_i as2 t2 e
      rw [e]
      dsimp only
      rw [hw]
      split at h
      · rename_i k t3 e2
        obtain ⟨h1, h2⟩ := rx_if_ok h
        cases h2
        have hne : ¬ ((0 : Nat) = 1) := by decide
        rw [if_neg hne, e2]
        dsimp only
        rw [h1]
        rfl
      · cases h
    · cases h
  refine ⟨_, _, (rx_d_invokevirtual hd), fun d I F ht c s lv st => ⟨rx_ifN _, fun zs h => ?_⟩⟩
  dsimp only at h
  split at h
  · rename_i a ha
    have e0 : bx_xs B cp sl d M (.invokevirtual idx) 3 (I, F, ht, c, s, pc, lv, st) = none := by
      rfl
    have e : bx_xh B T Cn cp sl d M (.invokevirtual idx) 3 (I, F, ht, c, s, pc, lv, st) = some zs := by
      show rx_or (bx_xs B cp sl d M (.invokevirtual idx) 3 (I, F, ht, c, s, pc, lv, st)) (bx_hook B T Cn d M (.invokevirtual idx) 3 (I, F, ht, c, s, pc, lv, st)) = some zs
      rw [e0]
      show bx_hook B T Cn d M (.invokevirtual idx) 3 (I, F, ht, c, s, pc, lv, st) = some zs
      unfold bx_hook
      rw [hprep I F ht c s lv st a ha]
      dsimp only
      rw [hC]
      exact h
    rw [e]
    rfl
  · cases h
theorem rx_k_call0 {idx how n ci j_p : Nat} {M_p : rx_Mt} (hq : T.2.2.2.2.1 M.1 idx = some (how, n, ci, j_p)) (hM : T.2.2.2.2.2 j_p = some M_p) (hw : (how % 3 == 0 && decide (how < 6)) = true) (hC : Cn j_p = []) (hd : rx_aw M.2.1 pc 182 idx = true) : rx_entOK B (bx_xh B T Cn cp sl) T M pc (.inr (.inr (j_p, M_p, bx_q_vcall B M M_p n ci))) := by
  have hprep : ∀ (I : rx_I) (F : rx_F) (ht : List rx_C) (c s : Nat) (lv : List (Nat × rx_V)) (st : List rx_V) (a : List rx_V × List rx_V), bx_q_vcall B M M_p n ci (I, F, ht, c, s, pc, lv, st) = some a → rx_prep B T M (.invokevirtual idx) 3 (I, F, ht, c, s, pc, lv, st) = some ((how, n, ci, j_p), M_p, a.1, a.2) := by
    intro I F ht c s lv st a h
    unfold rx_prep rx_cidx
    unfold bx_q_vcall at h
    dsimp only at h ⊢
    rw [hq]
    dsimp only
    rw [hM]
    split at h
    · rename_i as2 t2 e
      rw [e]
      dsimp only
      rw [hw]
      split at h
      · rename_i k t3 e2
        obtain ⟨h1, h2⟩ := rx_if_ok h
        cases h2
        have hne : ¬ ((0 : Nat) = 1) := by decide
        rw [if_neg hne, e2]
        dsimp only
        rw [h1]
        rfl
      · cases h
    · cases h
  refine ⟨_, _, (rx_d_invokevirtual hd), hM, fun d I F ht c s lv st => ⟨rx_ifN _, ?_, fun as t h => ⟨(how, n, ci, j_p), hprep I F ht c s lv st (as, t) h⟩⟩⟩
  have e0 : bx_xs B cp sl d M (.invokevirtual idx) 3 (I, F, ht, c, s, pc, lv, st) = none := by
    rfl
  have e1 : bx_hook B T Cn d M (.invokevirtual idx) 3 (I, F, ht, c, s, pc, lv, st) = none := by
    unfold bx_hook
    split
    · rfl
    · rename_i q M2 as t hp
      obtain ⟨op, idx2, hci, -, hq2, -⟩ := rx_prep_ok hp
      have hci2 : some (0, idx) = some (op, idx2) := hci
      cases hci2
      rw [hq] at hq2
      cases hq2
      dsimp only
      rw [hC]
      rfl
  show rx_or (rx_or (bx_xs B cp sl d M (.invokevirtual idx) 3 (I, F, ht, c, s, pc, lv, st)) (bx_hook B T Cn d M (.invokevirtual idx) 3 (I, F, ht, c, s, pc, lv, st))) none = none
  rw [e0, e1]
  rfl
theorem rx_k_cc1 {idx how n ci j_p : Nat} {M_p : rx_Mt} {cts : List bx_Ct} (hq : T.2.2.2.2.1 M.1 idx = some (how, n, ci, j_p)) (hM : T.2.2.2.2.2 j_p = some M_p) (hw : (how % 3 == 1 && decide (how < 6)) = true) (hx : cp M.1 idx = none) (hC : Cn j_p = cts) (hd : rx_aw M.2.1 pc 184 idx = true) : rx_entOK B (bx_xh B T Cn cp sl) T M pc (.inl (fun d z => match rx_q_scall M M_p n z with
    | some a => bx_any B M_p d z a.1 a.2 cts
    | none => none)) := by
  have hprep : ∀ (I : rx_I) (F : rx_F) (ht : List rx_C) (c s : Nat) (lv : List (Nat × rx_V)) (st : List rx_V) (a : List rx_V × List rx_V), rx_q_scall M M_p n (I, F, ht, c, s, pc, lv, st) = some a → rx_prep B T M (.invokestatic idx) 3 (I, F, ht, c, s, pc, lv, st) = some ((how, n, ci, j_p), M_p, a.1, a.2) := by
    intro I F ht c s lv st a h
    unfold rx_prep rx_cidx
    unfold rx_q_scall at h
    dsimp only at h ⊢
    rw [hq]
    dsimp only
    rw [hM]
    split at h
    · rename_i as2 t2 e
      rw [e]
      dsimp only
      rw [hw]
      obtain ⟨h1, h2⟩ := rx_if_ok h
      cases h2
      rw [h1]
      rfl
    · cases h
  refine ⟨_, _, (rx_d_invokestatic hd), fun d I F ht c s lv st => ⟨rx_ifN _, fun zs h => ?_⟩⟩
  dsimp only at h
  split at h
  · rename_i a ha
    have e0 : bx_xs B cp sl d M (.invokestatic idx) 3 (I, F, ht, c, s, pc, lv, st) = none := by
      show (match cp M.1 idx with
      | some k => rx_if (3 == 3) (bx_x_st B k d (I, F, ht, c, s, pc, lv, st))
      | none => none) = none
      rw [hx]
    have e : bx_xh B T Cn cp sl d M (.invokestatic idx) 3 (I, F, ht, c, s, pc, lv, st) = some zs := by
      show rx_or (bx_xs B cp sl d M (.invokestatic idx) 3 (I, F, ht, c, s, pc, lv, st)) (bx_hook B T Cn d M (.invokestatic idx) 3 (I, F, ht, c, s, pc, lv, st)) = some zs
      rw [e0]
      show bx_hook B T Cn d M (.invokestatic idx) 3 (I, F, ht, c, s, pc, lv, st) = some zs
      unfold bx_hook
      rw [hprep I F ht c s lv st a ha]
      dsimp only
      rw [hC]
      exact h
    rw [e]
    rfl
  · cases h
theorem rx_k_call1 {idx how n ci j_p : Nat} {M_p : rx_Mt} (hq : T.2.2.2.2.1 M.1 idx = some (how, n, ci, j_p)) (hM : T.2.2.2.2.2 j_p = some M_p) (hw : (how % 3 == 1 && decide (how < 6)) = true) (hx : cp M.1 idx = none) (hC : Cn j_p = []) (hd : rx_aw M.2.1 pc 184 idx = true) : rx_entOK B (bx_xh B T Cn cp sl) T M pc (.inr (.inr (j_p, M_p, rx_q_scall M M_p n))) := by
  have hprep : ∀ (I : rx_I) (F : rx_F) (ht : List rx_C) (c s : Nat) (lv : List (Nat × rx_V)) (st : List rx_V) (a : List rx_V × List rx_V), rx_q_scall M M_p n (I, F, ht, c, s, pc, lv, st) = some a → rx_prep B T M (.invokestatic idx) 3 (I, F, ht, c, s, pc, lv, st) = some ((how, n, ci, j_p), M_p, a.1, a.2) := by
    intro I F ht c s lv st a h
    unfold rx_prep rx_cidx
    unfold rx_q_scall at h
    dsimp only at h ⊢
    rw [hq]
    dsimp only
    rw [hM]
    split at h
    · rename_i as2 t2 e
      rw [e]
      dsimp only
      rw [hw]
      obtain ⟨h1, h2⟩ := rx_if_ok h
      cases h2
      rw [h1]
      rfl
    · cases h
  refine ⟨_, _, (rx_d_invokestatic hd), hM, fun d I F ht c s lv st => ⟨rx_ifN _, ?_, fun as t h => ⟨(how, n, ci, j_p), hprep I F ht c s lv st (as, t) h⟩⟩⟩
  have e0 : bx_xs B cp sl d M (.invokestatic idx) 3 (I, F, ht, c, s, pc, lv, st) = none := by
    show (match cp M.1 idx with
      | some k => rx_if (3 == 3) (bx_x_st B k d (I, F, ht, c, s, pc, lv, st))
      | none => none) = none
    rw [hx]
  have e1 : bx_hook B T Cn d M (.invokestatic idx) 3 (I, F, ht, c, s, pc, lv, st) = none := by
    unfold bx_hook
    split
    · rfl
    · rename_i q M2 as t hp
      obtain ⟨op, idx2, hci, -, hq2, -⟩ := rx_prep_ok hp
      have hci2 : some (1, idx) = some (op, idx2) := hci
      cases hci2
      rw [hq] at hq2
      cases hq2
      dsimp only
      rw [hC]
      rfl
  show rx_or (rx_or (bx_xs B cp sl d M (.invokestatic idx) 3 (I, F, ht, c, s, pc, lv, st)) (bx_hook B T Cn d M (.invokestatic idx) 3 (I, F, ht, c, s, pc, lv, st))) none = none
  rw [e0, e1]
  rfl
end RXK
section RXE
variable {B : bx_B} {T : rx_Tb} {M : rx_Mt} {pc : Nat} {Cn : Nat → List bx_Ct} {cp : Nat → Nat → Option Nat} {sl : Nat → Nat → Option Nat}
noncomputable def bx_e0 (B : bx_B) (M M_p : rx_Mt) (n ci j_p : Nat) (cts : List bx_Ct) : rx_Ent := match cts with
  | [] => .inr (.inr (j_p, M_p, bx_q_vcall B M M_p n ci))
  | ct :: l => .inl (fun d z => match bx_q_vcall B M M_p n ci z with
    | some a => bx_any B M_p d z a.1 a.2 (ct :: l)
    | none => none)
noncomputable def bx_e1 (B : bx_B) (M M_p : rx_Mt) (n j_p : Nat) (cts : List bx_Ct) : rx_Ent := match cts with
  | [] => .inr (.inr (j_p, M_p, rx_q_scall M M_p n))
  | ct :: l => .inl (fun d z => match rx_q_scall M M_p n z with
    | some a => bx_any B M_p d z a.1 a.2 (ct :: l)
    | none => none)
theorem rx_k_e0 {idx how n ci j_p : Nat} {M_p : rx_Mt} (hq : T.2.2.2.2.1 M.1 idx = some (how, n, ci, j_p)) (hM : T.2.2.2.2.2 j_p = some M_p) (hw : (how % 3 == 0 && decide (how < 6)) = true) (hd : rx_aw M.2.1 pc 182 idx = true) : rx_entOK B (bx_xh B T Cn cp sl) T M pc (bx_e0 B M M_p n ci j_p (Cn j_p)) := by
  cases hC : Cn j_p with
  | nil => exact rx_k_call0 hq hM hw hC hd
  | cons ct l => exact rx_k_cc0 hq hM hw hC hd
theorem rx_k_e1 {idx how n ci j_p : Nat} {M_p : rx_Mt} (hq : T.2.2.2.2.1 M.1 idx = some (how, n, ci, j_p)) (hM : T.2.2.2.2.2 j_p = some M_p) (hw : (how % 3 == 1 && decide (how < 6)) = true) (hx : cp M.1 idx = none) (hd : rx_aw M.2.1 pc 184 idx = true) : rx_entOK B (bx_xh B T Cn cp sl) T M pc (bx_e1 B M M_p n j_p (Cn j_p)) := by
  cases hC : Cn j_p with
  | nil => exact rx_k_call1 hq hM hw hx hC hd
  | cons ct l => exact rx_k_cc1 hq hM hw hx hC hd
end RXE
end
section
section BXZ
variable {G NW : List Jvm.Cond} {AO : List String} {cl : List vw_C} {nm : Nat → String} {A : Nat → Prop} {xa : Nat → Nat} {PX : State → Prop} {l : Launch} {D : bx_D} {B : bx_B} {T : rx_Tb}
variable {p : Program} {e : Env} {R : Room} {s : State} {m : MethodId} {args : Array Value} {below : List Frame} {meth : Method} {c : Code} {Q : State → Prop} {H0 H : Heap} {locs : List Loc} {ls : Array Slot} {r : Nat → Int} {ad : Nat → Nat}
variable {M : rx_Mt} {z : rx_Z} {zs : List rx_Z} {d idx : Nat}
theorem bx_pt_ok {I : rx_I} {n : rx_E} {x : Int} (hs : rx_sat z.1 r) (h : bx_pt z n = some x) : rx_ev r n = x ∧ (Int32.ofInt x).toInt = x := by
  unfold bx_pt at h
  split at h
  · rename_i lo hi hb
    split at h
    · rename_i e
      have h_p : lo = x := Option.some.inj h
      obtain ⟨h1, h2, h3, -⟩ := rx_bi_ok hs hb
      have e2 : rx_ev r n = x := by omega
      rw [e2] at h3
      exact ⟨e2, h3⟩
    · cases h
  · cases h
theorem bx_ofN {n : Nat} (hs : rx_sat z.1 r) {q : rx_E} (h : bx_pt z q = some (n : Int)) : ¬ Int32.ofInt (rx_ev r q) < 0 ∧ (Int32.ofInt (rx_ev r q)).toNatClampNeg = n := by
  obtain ⟨a1, a2⟩ := bx_pt_ok (I := z.1) (r := r) hs h
  rw [a1]
  refine ⟨?_, ?_⟩
  · rw [Int32.lt_iff_toInt_lt, a2, Int32.toInt_zero]
    omega
  · show (Int32.ofInt (n : Int)).toInt.toNat = n
    rw [a2]
    rfl
noncomputable def bx_cpS (S : Nat → Int → Int) (P0 P1 n : Nat) : Nat → Int → Int := fun p j => if p = P1 ∧ 0 ≤ j ∧ j < (n : Int) then S P0 j else S p j
theorem bx_x_copy_ok (hV : bx_VOK D.2.1 B.1) (hmd : B.2.2.2 = D.2.2.2) (hF : rx_Fr G NW AO PX p s m args meth c M) (hn : nm M.1 = M.2.2.2.2.1.cls) (hd : d ≤ R.frames) (hdl : d * 40 ≤ R.locals) (hw : Jvm.Cond.methodLink (nm M.1) idx arraycopyName ∈ G ∧ Jvm.Cond.native arraycopyName ∈ G ∧ Jvm.Cond.static arraycopyName ∈ G ∧ Jvm.Cond.initialized "java/lang/System" ∈ G)
    (hdg : decode M.2.1 (rx_zpc z) = .ok (.invokestatic idx, 3)) (hR : rx_R D cl A s xa M.2.2.1 H0 z r ad H locs ls) (hz : bx_x_copy B d z = some zs) (K : ∀ z_p ∈ zs, rx_G p l e R s m args below meth c Q D cl A xa M.2.2.1 H0 z.1.length z.2.2.1.length r ad z_p) :
    W p l e R s m args below meth c H locs z.2.2.2.1 z.2.2.2.2.1 Q (F0 m (rx_zpc z) ls ((rx_zst z).map (rx_iv r ad xa))) := by
  unfold bx_x_copy at hz
  split at hz
  · rename_i n t1 hp1
    split at hz
    · rename_i dp t2 hp2
      split at hz
      · rename_i k1 t3 hp3
        split at hz
        · rename_i sp t4 hp4
          split at hz
          · rename_i k0 t5 hp5
            split at hz
            · rename_i d0 d1 hd0 hd1
              split at hz
              · rename_i tc0 n0 gg0 tc1 n1 gg1 hk0 hk1
                split at hz
                · rename_i l0 h0 l1 h1 hrd hwr
                  obtain ⟨hc, hz2⟩ := rx_if_ok hz
                  clear hz
                  cases hz2
                  simp only [Bool.and_eq_true, beq_iff_eq, decide_eq_true_eq] at hc
                  obtain ⟨g0, g1, g2, g3, g4, g5, g6, g7, g8, g9, g10, g11, g12⟩ := hc
                  subst g0; subst g1; subst g2
                  have e1 := rx_pi_ok hp1
                  have e2 := rx_pi_ok hp2
                  have e3 := bx_pp_ok hp3
                  have e4 := rx_pi_ok hp4
                  have e5 := bx_pp_ok hp5
                  subst e2; subst e3; subst e4; subst e5
                  have hst := rx_stsc hR
                  rw [e1] at hst ⊢
                  obtain ⟨hx, hb, hr, hml, hown, hlk, hts, -⟩ := id hF
                  rw [hn] at hw
                  obtain ⟨S, ⟨ws, tys, hInv, hK, hP, hD, hl, hcell⟩, hS, hsm, hkn⟩ := id hR.2.2.2.1
                  have hin0 := bx_dm_ok hR.1 hkn hd0
                  have hin1 := bx_dm_ok hR.1 hkn hd1
                  obtain ⟨p1, p2, p3⟩ := hV.1 d0 k0.2 _ hk0 _ hin0
                  obtain ⟨u1, u2, u3⟩ := hV.1 d1 k1.2 _ hk1 _ hin1
                  obtain ⟨x0, hw0, hce0⟩ := hcell _ p2
                  obtain ⟨x1, hw1, hce1⟩ := hcell _ u2
                  rw [p3] at hce0
                  rw [u3] at hce1
                  obtain ⟨cA0, q0, c0, hx0, hty0, hsh0, hel0⟩ := hce0
                  obtain ⟨cA1, q1, c1, hx1, hty1, hsh1, hel1⟩ := hce1
                  obtain ⟨f, hf⟩ := hsh0
                  obtain ⟨g, hg⟩ := hsh1
                  subst hx0; subst hx1; subst hf; subst hg
                  obtain ⟨a1, a2⟩ := bx_ofN hR.1 g3
                  obtain ⟨b1, b2⟩ := bx_ofN (n := 0) hR.1 g4
                  obtain ⟨c1_p, c2_p⟩ := bx_ofN (n := 0) hR.1 g5
                  have hwlen : (r k1.1 + k1.2).toNat < ws.length := by rw [hl]; exact u2
                  show W p l e R s m args below meth c H locs z.2.2.2.1 z.2.2.2.2.1 Q (F0 m (rx_zpc z) ls (.int (Int32.ofInt (rx_ev r n)) :: .int (Int32.ofInt (rx_ev r dp)) :: .ref (ad (r k1.1 + k1.2).toNat) :: .int (Int32.ofInt (rx_ev r sp)) :: .ref (ad (r k0.1 + k0.2).toNat) :: t5.map (rx_iv r ad xa)))
                  refine va_copyi hx hb (by rw [hml]; exact (rx_lvh hR).1.symm) hown (hts _ hw.1) (hts _ hw.2.1) (hts _ hw.2.2.1) (hts _ hw.2.2.2) hK hP hD hS _ _ q0 q1 hw0 hw1 hty0 hty1 rfl c1_p b1 a1 (by rw [c2_p, a2]; omega) (by rw [b2, a2]; omega) (fun _ _ => rfl) (Nat.le_trans g8 hd) ?_ hdg (fun H1 locs1 hP1 hD1 hS1 => ?_)
                  · rw [rx_cats_sum]
                    show rx_cats t5 + (7 + 11) ≤ R.locals
                    omega
                  · rw [b2, a2, c2_p] at hP1 hD1
                    have hlg : bx_lg D.2.2.2 = true → False := fun h => by
                      rw [hmd, h] at g12
                      exact absurd g12 (by decide)
                    have hnx : ∀ (S2 : Nat → Int → Int), bx_W0 D cl A s ad S2 H1 → bx_same D.2.1 D.2.2.2 D.2.2.1 S2 → bx_kns D ad xa S2 z.1.length (z.2.2.1.filter (bx_keepR B.1 z.2.2.1 0 ((n0 : Int) - 1) gg1)) r → W p l e R s m args below meth c H1 locs1 z.2.2.2.1 z.2.2.2.2.1 Q (F0 m (rx_zpc z + 3) ls (t5.map (rx_iv r ad xa))) := fun S2 h1 h2 h3 =>
                      rx_at (K _ List.mem_cons_self) rx_same.rf rx_sameA.rf (bx_R_nxh hR ⟨S2, h1, hS1, ⟨h2, fun h => (hlg h).elim⟩, h3⟩ fun y hy => rx_sc.any (hst y (List.mem_cons_of_mem _ (List.mem_cons_of_mem _ (List.mem_cons_of_mem _ (List.mem_cons_of_mem _ (List.mem_cons_of_mem _ hy)))))) ) rfl rfl rfl rfl
                    refine hnx (bx_cpS S (r k0.1 + k0.2).toNat (r k1.1 + k1.2).toNat n0) ⟨_, tys, ?_, hK, hP1, hD1, by rw [List.length_set]; exact hl, ?_⟩ ?_ ?_
                    · intro p_p j_p hp_p hj_p
                      unfold bx_cpS
                      by_cases hpj : p_p = (r k1.1 + k1.2).toNat ∧ 0 ≤ (j_p : Int) ∧ (j_p : Int) < (n0 : Int)
                      · rw [if_pos hpj]
                        obtain ⟨h1_p, h2_p, h3_p⟩ := hpj
                        subst h1_p
                        have hj0 : j_p < bx_wd (D.2.1.1 (r k0.1 + k0.2).toNat) := by
                          rw [p3]
                          show j_p < n0
                          omega
                        have hv := hV.2.1 d0 k0.2 0 _ _ _ hrd _ hin0 (j_p : Int) _ (by omega) (by omega) (Int.emod_one _) (hInv _ _ p2 hj0)
                        have hv : l0 ≤ S (r k0.1 + k0.2).toNat (j_p : Int) ∧ S (r k0.1 + k0.2).toNat (j_p : Int) ≤ h0 := hv
                        exact hV.2.2.1 d1 k1.2 0 _ _ _ hwr _ hin1 (j_p : Int) _ (by omega) (by omega) (Int.emod_one _) (show l1 ≤ S (r k0.1 + k0.2).toNat (j_p : Int) ∧ S (r k0.1 + k0.2).toNat (j_p : Int) ≤ h1 from ⟨by omega, by omega⟩)
                      · rw [if_neg hpj]
                        exact hInv p_p j_p hp_p hj_p
                    · intro p_p hp_p
                      by_cases hpe : p_p = (r k1.1 + k1.2).toNat
                      · subst hpe
                        refine ⟨_, List.getElem?_set_self hwlen, ?_⟩
                        rw [u3]
                        refine ⟨cA1, q1, _, rfl, hty1, ⟨_, rfl⟩, fun j hj => ?_⟩
                        show Value.int (va_cpy f g 0 0 n0 j) = bx_fv ad 0 (bx_cpS S (r k0.1 + k0.2).toNat (r k1.1 + k1.2).toNat n0 (r k1.1 + k1.2).toNat (j : Int))
                        unfold bx_cpS
                        rw [pk_cpy_in (Nat.zero_le _) (by omega), Nat.zero_add, Nat.sub_zero, if_pos ⟨rfl, by omega, by omega⟩]
                        exact hel0 j hj
                      · obtain ⟨e1_p, h1_p, h2_p⟩ := hcell p_p hp_p
                        refine ⟨e1_p, by rw [List.getElem?_set_ne (Ne.symm hpe)]; exact h1_p, ?_⟩
                        have hrow : bx_cpS S (r k0.1 + k0.2).toNat (r k1.1 + k1.2).toNat n0 p_p = S p_p := funext fun j => if_neg fun h => hpe h.1
                        rw [hrow]
                        exact h2_p
                    · intro p_p i hp_p hi hmd_p
                      by_cases hne : p_p = (r k1.1 + k1.2).toNat ∧ i < n0
                      · rw [hne.1, u3] at hmd_p
                        have hmd_p : D.2.2.2 (1000 + gg1) (bx_sk gg1 i) = false := hmd_p
                        rw [hmd] at g11
                        rw [bx_mdr_ok g11 (by omega) (by omega)] at hmd_p
                        exact absurd hmd_p.symm Bool.false_ne_true
                      · have hrow : bx_cpS S (r k0.1 + k0.2).toNat (r k1.1 + k1.2).toNat n0 p_p (i : Int) = S p_p (i : Int) := if_neg fun h => hne ⟨h.1, by omega⟩
                        rw [hrow]
                        exact hsm.1 p_p i hp_p hi hmd_p
                    · intro y hy
                      obtain ⟨k1_p, k2_p⟩ := List.mem_filter.mp hy
                      obtain ⟨v1, v2, v3⟩ := hkn y k1_p
                      refine ⟨v1, v2, ?_⟩
                      unfold bx_kn at v3 ⊢
                      split
                      · rename_i hc
                        rw [if_pos hc] at v3
                        exact v3
                      · rename_i hc
                        rw [if_neg hc] at v3
                        obtain ⟨w1, w2, tc2, w4, w5⟩ := v3
                        refine ⟨w1, w2, tc2, w4, ?_⟩
                        rw [w5]
                        congr 1
                        unfold bx_cpS
                        refine (if_neg fun hq => ?_).symm
                        obtain ⟨q1_p, q2_p, q3_p⟩ := hq
                        unfold bx_keepR at k2_p
                        rw [Bool.or_eq_true, Bool.or_eq_true, Bool.or_eq_true, decide_eq_true_eq, decide_eq_true_eq, decide_eq_true_eq] at k2_p
                        rcases k2_p with k2_p | k2_p | k2_p | k2_p
                        · exact hc k2_p
                        · omega
                        · omega
                        · split at k2_p
                          case h_2 => exact Bool.false_ne_true k2_p
                          rename_i d_p hd_p
                          have hin := bx_dm_ok hR.1 hkn hd_p
                          split at k2_p
                          · rename_i x hk3
                            obtain ⟨-, -, p3_p⟩ := hV.1 d_p y.1.1.2 _ hk3 _ hin
                            have p3_p : D.2.1.1 (rx_ev r y.1.1).toNat = .inl x := p3_p
                            rw [q1_p, u3] at p3_p
                            cases p3_p
                          · rename_i tc3 n3 g4_p hk3
                            obtain ⟨-, -, p3_p⟩ := hV.1 d_p y.1.1.2 _ hk3 _ hin
                            have p3_p : D.2.1.1 (rx_ev r y.1.1).toNat = .inr (tc3, n3, g4_p) := p3_p
                            rw [q1_p, u3] at p3_p
                            cases p3_p
                            rw [beq_self_eq_true] at k2_p
                            exact Bool.false_ne_true k2_p
                          · exact Bool.false_ne_true k2_p
                · cases hz
              · cases hz
            · cases hz
          · cases hz
        · cases hz
      · cases hz
    · cases hz
  · cases hz
theorem bx_x_mm_ok {mx : Bool} (hF : rx_Fr G NW AO PX p s m args meth c M) (hn : nm M.1 = M.2.2.2.2.1.cls) (hd : d ≤ R.frames) (hdl : d * 40 ≤ R.locals) (hwi : Jvm.Cond.initialized "java/lang/Math" ∈ G)
    (hw1 : mx = false → Jvm.Cond.methodLink (nm M.1) idx Lib.Math.min.name ∈ G ∧ Jvm.Cond.static Lib.Math.min.name ∈ G ∧ Jvm.Cond.code Lib.Math.min.name Lib.Math.min.code 2 (some .int) ∈ G) (hw2 : mx = true → Jvm.Cond.methodLink (nm M.1) idx Lib.Math.max.name ∈ G ∧ Jvm.Cond.static Lib.Math.max.name ∈ G ∧ Jvm.Cond.code Lib.Math.max.name Lib.Math.max.code 2 (some .int) ∈ G)
    (hdg : decode M.2.1 (rx_zpc z) = .ok (.invokestatic idx, 3)) (hR : rx_R D cl A s xa M.2.2.1 H0 z r ad H locs ls) (hz : bx_x_mm mx d z = some zs) (K : ∀ z_p ∈ zs, rx_G p l e R s m args below meth c Q D cl A xa M.2.2.1 H0 z.1.length z.2.2.1.length r ad z_p) :
    W p l e R s m args below meth c H locs z.2.2.2.1 z.2.2.2.2.1 Q (F0 m (rx_zpc z) ls ((rx_zst z).map (rx_iv r ad xa))) := by
  unfold bx_x_mm at hz
  split at hz
  · rename_i b t1 hp1
    split at hz
    · rename_i a t hp2
      obtain ⟨hc, hz2⟩ := rx_if_ok hz
      clear hz
      cases hz2
      simp only [Bool.and_eq_true, decide_eq_true_eq, beq_iff_eq] at hc
      obtain ⟨c1, c2, c3, c4, c5, c6⟩ := hc
      have e1 := rx_pi_ok hp1
      have e2 := rx_pi_ok hp2
      subst e2
      have hst := rx_stsc hR
      rw [e1] at hst ⊢
      obtain ⟨hx, hb, hr, hml, hown, hlk, hts, -⟩ := id hF
      have ha2 : (Int32.ofInt (rx_ev r a)).toInt = rx_ev r a ∧ a.1 < z.1.length := by
        unfold rx_okI at c1
        obtain ⟨q, hq⟩ := Option.isSome_iff_exists.mp c1
        obtain ⟨q1, q2⟩ := q
        exact (rx_bi_ok hR.1 hq).2.2
      have hb2 : (Int32.ofInt (rx_ev r b)).toInt = rx_ev r b ∧ b.1 < z.1.length := by
        unfold rx_okI at c2
        obtain ⟨q, hq⟩ := Option.isSome_iff_exists.mp c2
        obtain ⟨q1, q2⟩ := q
        exact (rx_bi_ok hR.1 hq).2.2
      obtain ⟨m1, m2⟩ := rx_nm_ok (e := a) hR.1
      obtain ⟨m3, m4⟩ := rx_nm_ok (e := b) hR.1
      have ht : ∀ v ∈ t, rx_sc z.1.length z.2.2.1.length v := fun v hv => hst v (List.mem_cons_of_mem _ (List.mem_cons_of_mem _ hv))
      have hgo : ∀ x : Int32, (x = if Int32.ofInt (rx_ev r b) < Int32.ofInt (rx_ev r a) then Int32.ofInt (rx_ev r (if mx = true then a else b)) else Int32.ofInt (rx_ev r (if mx = true then b else a))) → W p l e R s m args below meth c H locs z.2.2.2.1 z.2.2.2.2.1 Q (F0 m (rx_zpc z + 3) ls (.int x :: t.map (rx_iv r ad xa))) := by
        intro x hxe
        subst hxe
        by_cases hlt : Int32.ofInt (rx_ev r b) < Int32.ofInt (rx_ev r a)
        · rw [if_pos hlt]
          rw [Int32.lt_iff_toInt_lt, ha2.1, hb2.1] at hlt
          refine rx_way_ok (f := (0, rx_nm z.1 b, rx_nm z.1 a)) (st := .inr (0, if mx = true then a else b) :: t) hR ?_ (Nat.le_of_ble_eq_true rfl) (m4 hb2.2) (m2 ha2.2) (fun v hv => ?_) fun z_p hz_p => K z_p (List.mem_append_left _ hz_p)
          · show rx_ev r (rx_nm z.1 b) < rx_ev r (rx_nm z.1 a)
            rw [m1, m3]
            exact hlt
          · rcases List.mem_cons.mp hv with h | h
            · subst h
              cases mx
              · exact hb2.2
              · exact ha2.2
            · exact ht v h
        · rw [if_neg hlt]
          rw [Int32.lt_iff_toInt_lt, ha2.1, hb2.1] at hlt
          refine rx_way_ok (f := (1, rx_nm z.1 a, rx_nm z.1 b)) (st := .inr (0, if mx = true then b else a) :: t) hR ?_ (Nat.le_of_ble_eq_true rfl) (m2 ha2.2) (m4 hb2.2) (fun v hv => ?_) fun z_p hz_p => K z_p (List.mem_append_right _ hz_p)
          · show rx_ev r (rx_nm z.1 a) ≤ rx_ev r (rx_nm z.1 b)
            rw [m1, m3]
            omega
          · rcases List.mem_cons.mp hv with h | h
            · subst h
              cases mx
              · exact ha2.2
              · exact hb2.2
            · exact ht v h
      show W p l e R s m args below meth c H locs z.2.2.2.1 z.2.2.2.2.1 Q (F0 m (rx_zpc z) ls (.int (Int32.ofInt (rx_ev r b)) :: .int (Int32.ofInt (rx_ev r a)) :: t.map (rx_iv r ad xa)))
      cases mx with
      | false =>
        have hw := hw1 rfl
        rw [hn] at hw
        refine va_mmin hx hb (by rw [hml]; exact (rx_lvh hR).1.symm) hown (hts _ hw.1) (hts _ hw.2.1) (hts _ hwi) (hts _ hw.2.2) (Nat.le_trans c3 hd) ?_ (by omega) (by omega) hdg (hgo _ rfl)
        rw [rx_cats_sum]
        omega
      | true =>
        have hw := hw2 rfl
        rw [hn] at hw
        refine va_mmax hx hb (by rw [hml]; exact (rx_lvh hR).1.symm) hown (hts _ hw.1) (hts _ hw.2.1) (hts _ hwi) (hts _ hw.2.2) (Nat.le_trans c3 hd) ?_ (by omega) (by omega) hdg (hgo _ ?_)
        · rw [rx_cats_sum]
          omega
        · by_cases h1 : Int32.ofInt (rx_ev r b) < Int32.ofInt (rx_ev r a)
          · rw [if_pos h1, if_neg (fun h2 => by rw [Int32.lt_iff_toInt_lt] at h1 h2; omega)]
            rfl
          · rw [if_neg h1]
            by_cases h2 : Int32.ofInt (rx_ev r a) < Int32.ofInt (rx_ev r b)
            · rw [if_pos h2]
              rfl
            · rw [if_neg h2]
              refine Int32.toInt_inj.mp ?_
              rw [Int32.lt_iff_toInt_lt] at h1 h2
              show (Int32.ofInt (rx_ev r a)).toInt = (Int32.ofInt (rx_ev r b)).toInt
              omega
    · cases hz
  · cases hz
theorem bx_xh_ok {Cn : Nat → List bx_Ct} {dm : Nat} {cp : Nat → Nat → Option Nat} {sl : Nat → Nat → Option Nat} (hV : bx_VOK D.2.1 B.1) (hmd : B.2.2.2 = D.2.2.2) (hh : rx_xhOK (bx_hook B T Cn) G NW AO cl nm A xa PX l D ad dm)
    (hcp : ∀ o idx k : Nat, cp o idx = some k → (k = 0 → Jvm.Cond.methodLink (nm o) idx arraycopyName ∈ G) ∧ (k = 1 → Jvm.Cond.methodLink (nm o) idx Lib.Math.min.name ∈ G) ∧ (2 ≤ k → Jvm.Cond.methodLink (nm o) idx Lib.Math.max.name ∈ G))
    (hmw : Jvm.Cond.initialized "java/lang/Math" ∈ G ∧ (Jvm.Cond.static Lib.Math.min.name ∈ G ∧ Jvm.Cond.code Lib.Math.min.name Lib.Math.min.code 2 (some .int) ∈ G) ∧ Jvm.Cond.static Lib.Math.max.name ∈ G ∧ Jvm.Cond.code Lib.Math.max.name Lib.Math.max.code 2 (some .int) ∈ G) (hcw : Jvm.Cond.native arraycopyName ∈ G ∧ Jvm.Cond.static arraycopyName ∈ G ∧ Jvm.Cond.initialized "java/lang/System" ∈ G)
    (hsl : ∀ (s : State), PX s → ∀ o idx n : Nat, sl o idx = some n → ∃ tx : String, vk_R (nm o) idx tx (ad n) s) : rx_xhOK (bx_xh B T Cn cp sl) G NW AO cl nm A xa PX l D ad dm := by
  intro d M i len z zs hdm2 h hn p e R s m args below meth c Q H0 H locs ls r hF hA hH0 hmc hms hd hdl hdg hR K
  have h2 : rx_or (bx_xs B cp sl d M i len z) (bx_hook B T Cn d M i len z) = some zs := h
  rcases rx_or_ok h2 with h3 | h3
  · cases i with
    | ldc idx =>
      have h3 : (match sl M.1 idx with
        | some n => rx_if (len == 2) (some [rx_nx z 2 (.inr (3, (0, (n : Int))) :: rx_zst z)])
        | none => none) = some zs := h3
      split at h3
      · rename_i n hn2
        obtain ⟨hl, h4⟩ := rx_ifn h3
        subst hl
        cases h4
        obtain ⟨tx, hZ⟩ := hsl s hF.2.2.2.2.2.2.2.2.2.1 _ _ _ hn2
        obtain ⟨hx, hb, hr, hml, hown, hlk, hts, -⟩ := id hF
        rw [hn] at hZ
        refine va_ldcS hx hb hown hZ hdg ?_
        refine rx_push (v := .inr (3, (0, (n : Int)))) (d := 2) hR ?_ (rx_sc0 hR 3 _) (K _ List.mem_cons_self)
        show Value.ref (ad (rx_ev r (0, (n : Int))).toNat) = _
        rw [rx_ev0 hR.1, Int.toNat_natCast]
      · cases h3
    | invokestatic idx =>
      have h3 : (match cp M.1 idx with
        | some k => rx_if (len == 3) (bx_x_st B k d z)
        | none => none) = some zs := h3
      split at h3
      · rename_i k hk
        obtain ⟨hl, h4⟩ := rx_ifn h3
        subst hl
        obtain ⟨w0, w1, w2⟩ := hcp _ _ _ hk
        match k, w0, w1, w2, h4 with
        | 0, w0, w1, w2, h4 => exact bx_x_copy_ok hV hmd hF hn hd hdl ⟨w0 rfl, hcw⟩ hdg hR h4 K
        | 1, w0, w1, w2, h4 => exact bx_x_mm_ok (mx := false) hF hn hd hdl hmw.1 (fun _ => ⟨w1 rfl, hmw.2.1⟩) (fun h => by cases h) hdg hR h4 K
        | k + 2, w0, w1, w2, h4 => exact bx_x_mm_ok (mx := true) hF hn hd hdl hmw.1 (fun h => by cases h) (fun _ => ⟨w2 (by omega), hmw.2.2⟩) hdg hR h4 K
      · cases h3
    | _ => exact absurd (show (none : Option (List rx_Z)) = some zs from h3) (fun q => by cases q)
  · exact hh d M i len z zs hdm2 h3 hn hF hA hH0 hmc hms hd hdl hdg hR K
end BXZ
end
section
noncomputable def rx_nth {α : Type} : List α → Nat → Option α
  | [], _ => none
  | a :: l, n => match n with
    | 0 => some a
    | m + 1 => rx_nth l m
noncomputable def rx_fd (t : List (List (List (List (Option rx_Ent))))) (j pc : Nat) : Option rx_Ent := match rx_nth t (Nat.div j 16) with
  | none => none
  | some t => match rx_nth t (Nat.mod j 16) with
    | none => none
    | some t => match rx_nth t (Nat.div pc 16) with
      | none => none
      | some t => match rx_nth t (Nat.mod pc 16) with
        | some (some e) => some e
        | _ => none
noncomputable def rx_chOK (B : bx_B) (xh : rx_Xh) (T : rx_Tb) (M : rx_Mt) : Nat → List (Option rx_Ent) → Prop
  | _, [] => True
  | b, none :: l => rx_chOK B xh T M (b + 1) l
  | b, some e :: l => rx_entOK B xh T M b e ∧ rx_chOK B xh T M (b + 1) l
noncomputable def rx_mcOK (B : bx_B) (xh : rx_Xh) (T : rx_Tb) (M : rx_Mt) : Nat → List (List (Option rx_Ent)) → Prop
  | _, [] => True
  | b, c :: l => rx_chOK B xh T M b c ∧ rx_mcOK B xh T M (b + 16) l
noncomputable def rx_goOK (B : bx_B) (xh : rx_Xh) (T : rx_Tb)  : Nat → List (List (List (Option rx_Ent))) → Prop
  | _, [] => True
  | j, L :: l => (∀ M, T.2.2.2.2.2 j = some M → rx_mcOK B xh T M 0 L) ∧ rx_goOK B xh T (j + 1) l
noncomputable def rx_ggOK (B : bx_B) (xh : rx_Xh) (T : rx_Tb)  : Nat → List (List (List (List (Option rx_Ent)))) → Prop
  | _, [] => True
  | j, G :: l => rx_goOK B xh T j G ∧ rx_ggOK B xh T (j + 16) l
section RXF
variable {B : bx_B} {xh : rx_Xh} {T : rx_Tb} {M : rx_Mt} {b : Nat}
theorem rx_ch_nil : rx_chOK B xh T M b [] := trivial
theorem rx_ch_none {l : List (Option rx_Ent)} (h : rx_chOK B xh T M (b + 1) l) : rx_chOK B xh T M b (none :: l) := h
theorem rx_ch_some {e : rx_Ent} {l : List (Option rx_Ent)} (he : rx_entOK B xh T M b e) (h : rx_chOK B xh T M (b + 1) l) : rx_chOK B xh T M b (some e :: l) := ⟨he, h⟩
theorem rx_mc_nil : rx_mcOK B xh T M b [] := trivial
theorem rx_mc_cons {c : List (Option rx_Ent)} {l : List (List (Option rx_Ent))} (hc : rx_chOK B xh T M b c) (h : rx_mcOK B xh T M (b + 16) l) : rx_mcOK B xh T M b (c :: l) := ⟨hc, h⟩
theorem rx_go_nil : rx_goOK B xh T b [] := trivial
theorem rx_go_item {M0 : rx_Mt} {L : List (List (Option rx_Ent))} (h0 : T.2.2.2.2.2 b = some M0) (hm : rx_mcOK B xh T M0 0 L) : ∀ M, T.2.2.2.2.2 b = some M → rx_mcOK B xh T M 0 L := by
  intro M h
  rw [h0] at h
  cases h
  exact hm
theorem rx_go_cons {L : List (List (Option rx_Ent))} {l : List (List (List (Option rx_Ent)))} (hc : ∀ M, T.2.2.2.2.2 b = some M → rx_mcOK B xh T M 0 L) (h : rx_goOK B xh T (b + 1) l) : rx_goOK B xh T b (L :: l) := ⟨hc, h⟩
theorem rx_gg_nil : rx_ggOK B xh T b [] := trivial
theorem rx_gg_cons {G : List (List (List (Option rx_Ent)))} {l : List (List (List (List (Option rx_Ent))))} (hc : rx_goOK B xh T b G) (h : rx_ggOK B xh T (b + 16) l) : rx_ggOK B xh T b (G :: l) := ⟨hc, h⟩
theorem rx_ch_at : ∀ {c : List (Option rx_Ent)} {b k : Nat} {e : rx_Ent}, rx_chOK B xh T M b c → rx_nth c k = some (some e) → rx_entOK B xh T M (b + k) e
  | [], _, _, _, _, h => by cases h
  | none :: l, b, 0, e, _, h => by cases h
  | some e0 :: l, b, 0, e, hc, h => by
    cases h
    exact hc.1
  | none :: l, b, k + 1, e, hc, h => by
    have := rx_ch_at (c := l) (b := b + 1) (k := k) (e := e) hc h
    rw [show b + 1 + k = b + (k + 1) by omega] at this
    exact this
  | some e0 :: l, b, k + 1, e, hc, h => by
    have := rx_ch_at (c := l) (b := b + 1) (k := k) (e := e) hc.2 h
    rw [show b + 1 + k = b + (k + 1) by omega] at this
    exact this
theorem rx_mc_at : ∀ {L : List (List (Option rx_Ent))} {b k : Nat} {c : List (Option rx_Ent)}, rx_mcOK B xh T M b L → rx_nth L k = some c → rx_chOK B xh T M (b + 16 * k) c
  | [], _, _, _, _, h => by cases h
  | c0 :: l, b, 0, c, hc, h => by
    cases h
    exact hc.1
  | c0 :: l, b, k + 1, c, hc, h => by
    have := rx_mc_at (L := l) (b := b + 16) (k := k) (c := c) hc.2 h
    rw [show b + 16 + 16 * k = b + 16 * (k + 1) by omega] at this
    exact this
theorem rx_go_at : ∀ {G : List (List (List (Option rx_Ent)))} {b k : Nat} {L : List (List (Option rx_Ent))}, rx_goOK B xh T b G → rx_nth G k = some L → ∀ M, T.2.2.2.2.2 (b + k) = some M → rx_mcOK B xh T M 0 L
  | [], _, _, _, _, h => by cases h
  | c0 :: l, b, 0, c, hc, h => by
    cases h
    exact hc.1
  | c0 :: l, b, k + 1, c, hc, h => by
    have := rx_go_at (G := l) (b := b + 1) (k := k) (L := c) hc.2 h
    rw [show b + 1 + k = b + (k + 1) by omega] at this
    exact this
theorem rx_gg_at : ∀ {t : List (List (List (List (Option rx_Ent))))} {b k : Nat} {G : List (List (List (Option rx_Ent)))}, rx_ggOK B xh T b t → rx_nth t k = some G → rx_goOK B xh T (b + 16 * k) G
  | [], _, _, _, _, h => by cases h
  | c0 :: l, b, 0, c, hc, h => by
    cases h
    exact hc.1
  | c0 :: l, b, k + 1, c, hc, h => by
    have := rx_gg_at (t := l) (b := b + 16) (k := k) (G := c) hc.2 h
    rw [show b + 16 + 16 * k = b + 16 * (k + 1) by omega] at this
    exact this
theorem rx_fd_ok {t : List (List (List (List (Option rx_Ent))))} {j pc : Nat} {e : rx_Ent} (hg : rx_ggOK B xh T 0 t) (hm : T.2.2.2.2.2 j = some M) (h : rx_fd t j pc = some e) : rx_entOK B xh T M pc e := by
  unfold rx_fd at h
  split at h
  · cases h
  · rename_i G hG
    split at h
    · cases h
    · rename_i L hL
      split at h
      · cases h
      · rename_i c hc
        split at h
        · rename_i e0 he
          cases h
          have h1 := rx_gg_at hg hG
          have ej : 0 + 16 * (Nat.div j 16) + Nat.mod j 16 = j := by
            have := Nat.div_add_mod j 16
            show 0 + 16 * (j / 16) + j % 16 = j
            omega
          have h2 := rx_go_at h1 hL M (by rw [ej]; exact hm)
          have h3 := rx_mc_at h2 hc
          have h4 := rx_ch_at h3 he
          have ep : 0 + 16 * (Nat.div pc 16) + Nat.mod pc 16 = pc := by
            have := Nat.div_add_mod pc 16
            show 0 + 16 * (pc / 16) + pc % 16 = pc
            omega
          rw [ep] at h4
          exact h4
        · cases h
end RXF
noncomputable def bx_chk2 (B : bx_B) (cx : Nat → Nat → Option rx_Ent) (mk : rx_Z → rx_Z → List rx_E) (f j : Nat) (M : rx_Mt) (ct : bx_Ct) (tab : bx_tab) : Bool := match bx_ent0 B.2.1 ct.1 bx_I0 [] with
  | some (I0, ht0, as) => match bx_ent1 B ct.2.2.2.2 I0 ht0 with
    | some (I, ht) => decide (rx_cats as ≤ M.2.2.1) && (!(bx_lg B.2.2.2) && bx_okO (bx_fE B.2.2.1 ct.2.1) (rx_ex2 cx (bx_cut B.2.2.1 mk tab none) f ct.2.2.2.1 j (I, [], ht, 0, 0, 0, rx_largs 0 as, [])) &&
      tab.all (fun q => q.2.all (fun c => decide (c.2.1.1 < q.1.1.length)) && bx_okO (bx_fE B.2.2.1 ct.2.1) (rx_ex2 cx (bx_cut B.2.2.1 mk tab (some q.2)) f ct.2.2.2.1 j q.1)))
    | none => false
  | none => false
theorem bx_okO_mono {fE : rx_End → Bool} {o1 o2 : Option (List rx_End)} (h : ∀ Es, o1 = some Es → o2 = some Es) (h1 : bx_okO fE o1 = true) : bx_okO fE o2 = true := by
  obtain ⟨Es, h2, h3⟩ := bx_okO_ok h1
  rw [h Es h2]
  exact h3
theorem bx_chk2_ok {B : bx_B} {xh : rx_Xh} {T : rx_Tb} {cx : Nat → Nat → Option rx_Ent} {mk : rx_Z → rx_Z → List rx_E} {f j : Nat} {M : rx_Mt} {ct : bx_Ct} {tab : bx_tab} (hct : ∀ j M pc e, T.2.2.2.2.2 j = some M → cx j pc = some e → rx_entOK B xh T M pc e) (hj : T.2.2.2.2.2 j = some M) (h : bx_chk2 B cx mk f j M ct tab = true) : bx_chk B xh T mk f M ct tab = true := by
  unfold bx_chk2 at h
  unfold bx_chk
  split at h
  · rename_i I0 ht0 as hent
    rw [hent]
    dsimp only
    split at h
    · rename_i I ht hen1
      rw [hen1]
      dsimp only
      rw [Bool.and_eq_true, Bool.and_eq_true, Bool.and_eq_true] at h ⊢
      obtain ⟨h1, ⟨h5, h2⟩, h3⟩ := h
      refine ⟨h1, ⟨h5, bx_okO_mono (fun Es hE => rx_ex2_ok hct _ _ _ _ _ _ _ hj hE) h2⟩, List.all_eq_true.mpr fun q hq => ?_⟩
      have h4 := List.all_eq_true.mp h3 q hq
      rw [Bool.and_eq_true] at h4 ⊢
      exact ⟨h4.1, bx_okO_mono (fun Es hE => rx_ex2_ok hct _ _ _ _ _ _ _ hj hE) h4.2⟩
    · exact absurd h Bool.false_ne_true
  · exact absurd h Bool.false_ne_true
end
