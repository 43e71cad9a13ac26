/-! WHAT IS NOT WALKED IS SOUND -/
theorem ry_xm_ok {M : ry_Mt} {z : ry_Z} {R : Room} (h : ry_xm M z = true) (hmc : M.2.2.2.2.2.2.1 ≤ R.cells) (hms : M.2.2.2.2.2.2.2 ≤ R.slots) : z.2.2.2.1 ≤ R.cells ∧ z.2.2.2.2.1 ≤ R.slots := by
  unfold ry_xm at h
  rw [Bool.and_eq_true, decide_eq_true_eq, decide_eq_true_eq] at h
  exact ⟨Nat.le_trans h.1 hmc, Nat.le_trans h.2 hms⟩
theorem ryStL_no (o idx : Nat) : ry_lku (ryStL o) idx = none := by
  unfold ryStL
  rfl
theorem ry_false {α : Type} {b : Bool} {o : Option (List α)} {zs : List α} (h : ry_if (b && false) o = some zs) : False := by
  obtain ⟨h1, -⟩ := ry_if_ok h
  rw [Bool.and_false] at h1
  exact Bool.false_ne_true h1
set_option maxHeartbeats 1000000 in
theorem ryXh_ok (A : Nat → Prop) (xa : Nat → Nat) (PX : State → Prop) (l : Launch) (D : va_G) : ry_xhOK ryXh ryG ryNW ryAO vwCl ryNm A xa PX l D := by
  intro d M i len z zs h hn p e R s m args below meth c Q H0 H locs ls r ad hF hA hH0 hmc hms hd hdl hdg hR K
  cases i with
  | ldc idx =>
    obtain ⟨hl, h2⟩ := ry_ifn (show ry_if (len == 2) (ry_x_str (fun o i => ry_lku (ryStL o) i) M.1 idx z) = some zs from h)
    unfold ry_x_str at h2
    dsimp only at h2
    rw [ryStL_no] at h2
    cases h2
  | sipush n => exact (ry_false (show ry_if (len == 3 && false) (ry_x_image z) = some zs from h)).elim
  | invokespecial idx =>
    obtain ⟨hl, h2⟩ := ry_if_ok (show ry_if (len == 3 && ry_lku (ryXtL M.1) idx == some 10) (ry_x_init d z) = some zs from h)
    simp only [Bool.and_eq_true, beq_iff_eq] at hl
    obtain ⟨g1, g2⟩ := hl
    subst g1
    exact ry_x_init_ok hF hn hd hdl ⟨(ryXt_ok _ _ _ g2).1 rfl, ryW_i1, ryW_i2⟩ hdg hR h2 K
  | invokestatic idx =>
    obtain ⟨hl, h2⟩ := ry_ifn (show ry_if (len == 3) (match ry_lku (ryXtL M.1) idx with
      | some 11 => ry_x_copy d z
      | some 12 => ry_if (ry_xm M z) (ry_x_fill d z)
      | some 13 => ry_if (ry_xm M z) (ry_x_min d z)
      | _ => none) = some zs from h)
    subst hl
    split at h2
    · rename_i hk
      exact absurd (ryXt_ok _ _ _ hk).2.2 (by decide)
    · rename_i hk
      obtain ⟨hm, h3⟩ := ry_if_ok h2
      obtain ⟨c1, c2⟩ := ry_xm_ok hm hmc hms
      exact ry_x_fill_ok ryGgood hF hn hd hdl c1 c2 ⟨(ryXt_ok _ _ _ hk).2.1 rfl, ryW_f1, ryW_f2, ryW_f3⟩ hdg hR h3 K
    · rename_i hk
      exact absurd (ryXt_ok _ _ _ hk).2.2 (by decide)
    · cases h2
  | invokevirtual idx =>
    obtain ⟨hl, h2⟩ := ry_if_ok (show ry_if (len == 3 && ry_lku (ryXtL M.1) idx == some 14) (ry_if (ry_xm M z) (ry_x_slen rySlen d z)) = some zs from h)
    simp only [Bool.and_eq_true, beq_iff_eq] at hl
    exact absurd (ryXt_ok _ _ _ hl.2).2.2 (by decide)
  | _ => exact absurd (show (none : Option (List ry_Z)) = some zs from h) (fun q => by cases q)
