/-! LEAST, the developers' tree: what is given stays, what a walk leaves -/
def ldDS (S : Nat → Int → Int) : ldD := (S 451 5, S 451 0, ldt (S 451 0) (S 453), ldt (S 451 0) (S 454), ldt (S 451 0) (S 452), ldl (S 451 5) (S 451 7) (ldt 4 (S 455) (S 451 6)) (ldt (S 451 0) (S 453)))
def ldTS (S : Nat → Int → Int) (k s t : Int) : List Nat := ldT (ldDS S) (S 451 0 - k).toNat k s t (ldt 18 (S 457)) (ldt 18 (S 458)) (ldt k (S 456))
def ldGS (S : Nat → Int → Int) (k r t : Int) : List Nat := ldG (ldDS S) (S 451 0 - k - 1).toNat k r t (ldt 18 (S 457)) (ldt 18 (S 458)) (ldt (k + 1) (S 456))
def ldXS (S : Nat → Int → Int) (k r t x : Int) : List Nat := ldX (ldDS S) (S 451 0 - k - 1).toNat k r t (ldt 18 (S 457)) (ldt 18 (S 458)) (ldt (k + 1) (S 456)) x
def ldXs (S : Nat → Int → Int) (k r t x : Int) : List Nat := (if 0 < x then ldXS S k r t 0 else []) ++ ((if 1 < x then ldXS S k r t 1 else []) ++ (if 2 < x then ldXS S k r t 2 else []))
def ldPb (S : Nat → Int → Int) : Prop := 1 ≤ S 451 5 ∧ (∀ j : Int, 0 ≤ j → j < 18 → S 458 j < S 451 5) ∧ (S 451 8 ≠ 0 → S 451 6 < 0) ∧ (S 451 6 < 0 → S 451 10 = 0) ∧ (0 ≤ S 451 6 → 0 ≤ S 451 7) ∧ (0 ≤ S 451 6 → S 455 (S 451 6) < S 451 0) ∧ 0 ≤ S 451 9 ∧ (0 ≤ S 451 10 ∧ S 451 10 ≤ 1023)
def ldEnd (S0 S : Nat → Int → Int) (k : Int) (T : List Nat) : Prop := (∀ j : Int, S 457 j = S0 457 j) ∧ (∀ j : Int, S 458 j = S0 458 j) ∧ (∀ j : Int, j < k → S 456 j = S0 456 j) ∧ ldO (S0 451 8) (S0 451 6) T (S0 451 9) (S0 451 10) (S 451 9) (S 451 10)
def ldFr (S0 S : Nat → Int → Int) : Prop := S 451 0 = S0 451 0 ∧ S 451 5 = S0 451 5 ∧ S 451 6 = S0 451 6 ∧ S 451 7 = S0 451 7 ∧ S 451 8 = S0 451 8 ∧ (∀ j : Int, 0 ≤ j → j < 12 → S 452 j = S0 452 j) ∧ (∀ j : Int, 0 ≤ j → j < 12 → S 453 j = S0 453 j) ∧ (∀ j : Int, 0 ≤ j → j < 12 → S 454 j = S0 454 j) ∧ (∀ j : Int, 0 ≤ j → j < 4 → S 455 j = S0 455 j)
theorem ldFr_of {S0 S : Nat → Int → Int} (h : bx_same rxL (bx_mdl [(4, 9), (4, 10), (1047, 0), (1048, 0), (1049, 0)]) S0 S) : ldFr S0 S :=
  ⟨h 451 0 (by decide) (by decide) (by decide +kernel), h 451 5 (by decide) (by decide) (by decide +kernel), h 451 6 (by decide) (by decide) (by decide +kernel), h 451 7 (by decide) (by decide) (by decide +kernel), h 451 8 (by decide) (by decide) (by decide +kernel),
   fun j h0 h1 => rx_sameR2 h (tc := 0) (n := 12) (g := 43) rfl (by omega) (by decide +kernel) (by decide +kernel) h0 h1, fun j h0 h1 => rx_sameR2 h (tc := 0) (n := 12) (g := 44) rfl (by omega) (by decide +kernel) (by decide +kernel) h0 h1, fun j h0 h1 => rx_sameR2 h (tc := 0) (n := 12) (g := 45) rfl (by omega) (by decide +kernel) (by decide +kernel) h0 h1, fun j h0 h1 => rx_sameR2 h (tc := 0) (n := 4) (g := 46) rfl (by omega) (by decide +kernel) (by decide +kernel) h0 h1⟩
theorem ldFr_tr {S0 S1 S : Nat → Int → Int} (h : ldFr S0 S1) (h' : ldFr S1 S) : ldFr S0 S := by
  obtain ⟨a0, a5, a6, a7, a8, b2, b3, b4, b5⟩ := h
  obtain ⟨c0, c5, c6, c7, c8, d2, d3, d4, d5⟩ := h'
  exact ⟨c0.trans a0, c5.trans a5, c6.trans a6, c7.trans a7, c8.trans a8, fun j x y => (d2 j x y).trans (b2 j x y), fun j x y => (d3 j x y).trans (b3 j x y), fun j x y => (d4 j x y).trans (b4 j x y), fun j x y => (d5 j x y).trans (b5 j x y)⟩
theorem ldDS_fr {S0 S : Nat → Int → Int} (hn : S0 451 0 ≤ 12) (h : ldFr S0 S) : ldDS S = ldDS S0 := by
  obtain ⟨a0, a5, a6, a7, a8, b2, b3, b4, b5⟩ := h
  unfold ldDS
  rw [a0, a5, a6, a7, ldt_cg (f := S 452) (g := S0 452) (fun j x y => b2 j x (by omega)), ldt_cg (f := S 453) (g := S0 453) (fun j x y => b3 j x (by omega)), ldt_cg (f := S 454) (g := S0 454) (fun j x y => b4 j x (by omega)), ldt_cg (f := S 455) (g := S0 455) b5]
theorem ldEs_fr {S0 S : Nat → Int → Int} {k : Int} (hn : S0 451 0 ≤ 12) (h0 : 0 ≤ k) (h1 : k < S0 451 0) (h : ldFr S0 S) : ldEs S k ↔ ldEs S0 k := by
  obtain ⟨a0, a5, a6, a7, a8, b2, b3, b4, b5⟩ := h
  unfold ldEs
  rw [a0, b2 k h0 (by omega)]
  by_cases hk : k + 1 = S0 451 0
  · exact ⟨fun _ => Or.inl hk, fun _ => Or.inl hk⟩
  · rw [b2 (k + 1) (by omega) (by omega)]
theorem ldEs_E {S : Nat → Int → Int} {k : Int} (h0 : 0 ≤ k) (h1 : k < S 451 0) : ldE (ldDS S) k ↔ ldEs S k := by
  show (k + 1 = S 451 0 ∨ ldt (S 451 0) (S 452) (k + 1) ≠ ldt (S 451 0) (S 452) k) ↔ (k + 1 = S 451 0 ∨ S 452 (k + 1) ≠ S 452 k)
  rw [ldt_at h0 h1]
  by_cases hk : k + 1 = S 451 0
  · exact ⟨fun _ => Or.inl hk, fun _ => Or.inl hk⟩
  · rw [ldt_at (by omega) (by omega)]
theorem ldTS_cg {S0 S : Nat → Int → Int} {k s t : Int} (hn : S0 451 0 ≤ 12) (h : ldFr S0 S) (ha : ∀ j : Int, S 457 j = S0 457 j) (hg : ∀ j : Int, S 458 j = S0 458 j) (hp : ∀ j : Int, j < k → S 456 j = S0 456 j) : ldTS S k s t = ldTS S0 k s t := by
  unfold ldTS
  rw [ldDS_fr hn h, h.1, ldt_cg (f := S 457) (g := S0 457) (fun j _ _ => ha j), ldt_cg (f := S 458) (g := S0 458) (fun j _ _ => hg j), ldt_cg (f := S 456) (g := S0 456) (fun j _ y => hp j y)]
theorem ldDS_le {S : Nat → Int → Int} : ∀ a g p : Int → Int, (ldDS S).2.2.2.2.2 a g p ≤ 1023 := fun _ _ _ => ldl_le
theorem ldTS_le {S : Nat → Int → Int} {k s t : Int} : ∀ x, x ∈ ldTS S k s t → x ≤ 1023 := fun x hx => ldT_le ldDS_le _ _ _ _ _ _ _ x hx
theorem ldXS_le {S : Nat → Int → Int} {k r t x : Int} : ∀ y, y ∈ ldXS S k r t x → y ≤ 1023 := fun y hy => by
  unfold ldXS ldX at hy
  split at hy
  · exact ldT_le ldDS_le _ _ _ _ _ _ _ y hy
  · cases hy
theorem ldXs_le {S : Nat → Int → Int} {k r t x : Int} : ∀ y, y ∈ ldXs S k r t x → y ≤ 1023 := fun y hy => by
  have one : ∀ (c : Prop) (z : Int) [Decidable c], y ∈ (if c then ldXS S k r t z else []) → y ≤ 1023 := fun c z _ h => by
    split at h
    · exact ldXS_le y h
    · cases h
  unfold ldXs at hy
  rcases List.mem_append.mp hy with h | h
  · exact one _ _ h
  · rcases List.mem_append.mp h with h | h
    · exact one _ _ h
    · exact one _ _ h
/-- a leaf -/
theorem ldTS_0 {S : Nat → Int → Int} {k s t : Int} (hk : k = S 451 0) : ldTS S k s t = [(ldDS S).2.2.2.2.2 (ldt 18 (S 457)) (ldt 18 (S 458)) (ldt k (S 456))] := by
  unfold ldTS
  rw [show (S 451 0 - k).toNat = 0 by omega]
  rfl
/-- one deed on -/
theorem ldTS_s {S0 S : Nat → Int → Int} {k s t r : Int} (hn : S0 451 0 ≤ 12) (h0 : 0 ≤ k) (h1 : k < S0 451 0) (hr : r = 6 * s + S0 453 k) (hr0 : 0 ≤ r) (hr1 : r < 18) (hb : S0 457 r = -1 ∨ S0 457 r = S0 454 k) (h : ldFr S0 S) (ha : S 457 = ldu (S0 457) r (S0 454 k)) (hg : S 458 = S0 458) (hp : S 456 = ldu (S0 456) k s) : ldTS S0 k s t = ldGS S k r t := by
  have eC : (ldDS S0).2.2.1 k = S0 453 k := ldt_at h0 h1
  have eW : (ldDS S0).2.2.2.1 k = S0 454 k := ldt_at h0 h1
  unfold ldTS ldGS
  rw [ldDS_fr hn h, h.1, ha, hg, hp, ldt_up hr0 hr1, ldt_push h0, show (S0 451 0 - k).toNat = (S0 451 0 - k - 1).toNat + 1 by omega, ldT_s, eC, eW, ← hr, if_neg]
  rw [ldt_at hr0 hr1]
  omega
/-- the word doesn't fit -/
theorem ldTS_b {S0 : Nat → Int → Int} {k s t r : Int} (h0 : 0 ≤ k) (h1 : k < S0 451 0) (hr : r = 6 * s + S0 453 k) (hr0 : 0 ≤ r) (hr1 : r < 18) (hb : S0 457 r ≠ -1 ∧ S0 457 r ≠ S0 454 k) : ldTS S0 k s t = [] := by
  have eC : (ldDS S0).2.2.1 k = S0 453 k := ldt_at h0 h1
  have eW : (ldDS S0).2.2.2.1 k = S0 454 k := ldt_at h0 h1
  unfold ldTS
  rw [show (S0 451 0 - k).toNat = (S0 451 0 - k - 1).toNat + 1 by omega, ldT_s, eC, eW, ← hr, if_pos]
  rw [ldt_at hr0 hr1]
  exact hb
/-- on to one STATE -/
theorem ldGS_1 {S : Nat → Int → Int} {k r t s1 : Int} (h0 : 0 ≤ k) (h1 : k < S 451 0) (hr0 : 0 ≤ r) (hr1 : r < 18) (hc : ldEs S k ∨ S 458 r ≠ -1) (hs : (ldEs S k → s1 = 0) ∧ (¬ ldEs S k → s1 = S 458 r)) : ldGS S k r t = ldTS S (k + 1) s1 t := by
  unfold ldGS ldTS ldG
  rw [ldt_at hr0 hr1, if_pos (hc.imp (ldEs_E h0 h1).mpr id), show (S 451 0 - (k + 1)).toNat = (S 451 0 - k - 1).toNat by omega]
  congr 1
  by_cases he : ldEs S k
  · rw [if_pos ((ldEs_E h0 h1).mpr he), hs.1 he]
  · rw [if_neg (fun q => he ((ldEs_E h0 h1).mp q)), hs.2 he]
/-- to each of them -/
theorem ldGS_3 {S : Nat → Int → Int} {k r t : Int} (h0 : 0 ≤ k) (h1 : k < S 451 0) (hr0 : 0 ≤ r) (hr1 : r < 18) (hc : ¬ ldEs S k) (hg : S 458 r = -1) : ldGS S k r t = ldXS S k r t 0 ++ (ldXS S k r t 1 ++ ldXS S k r t 2) := by
  unfold ldGS ldG
  rw [ldt_at hr0 hr1, if_neg]
  · rfl
  · rintro (q | q)
    · exact hc ((ldEs_E h0 h1).mp q)
    · exact q hg
theorem ldXs_0 {S : Nat → Int → Int} {k r t : Int} : ldXs S k r t 0 = [] := by simp [ldXs]
theorem ldXs_s {S : Nat → Int → Int} {k r t x : Int} (h0 : 0 ≤ x) (h1 : x ≤ 2) : ldXs S k r t (x + 1) = ldXs S k r t x ++ ldXS S k r t x := by
  have hx : x = 0 ∨ x = 1 ∨ x = 2 := by omega
  rcases hx with rfl | rfl | rfl <;> unfold ldXs <;> simp
theorem ldXs_e {S : Nat → Int → Int} {k r t x : Int} (h : t < x ∨ S 451 5 ≤ x) : ldXs S k r t x = ldXS S k r t 0 ++ (ldXS S k r t 1 ++ ldXS S k r t 2) := by
  have key : ∀ y : Int, (if y < x then ldXS S k r t y else []) = ldXS S k r t y := fun y => by
    by_cases hy : y < x
    · rw [if_pos hy]
    · rw [if_neg hy]
      exact (ldX_nil (by show t < y ∨ S 451 5 ≤ y; omega)).symm
  unfold ldXs
  rw [key, key, key]
theorem ldXs_l {S : Nat → Int → Int} {k r t x : Int} (h0 : 0 ≤ x) (h1 : x ≤ 2) : (ldXs S k r t x).length + (ldXS S k r t x).length ≤ (ldXS S k r t 0 ++ (ldXS S k r t 1 ++ ldXS S k r t 2)).length := by
  have hx : x = 0 ∨ x = 1 ∨ x = 2 := by omega
  rcases hx with rfl | rfl | rfl <;> unfold ldXs <;> simp <;> omega
theorem ldXS_T {S0 S : Nat → Int → Int} {k r t x : Int} (hn : S0 451 0 ≤ 12) (h0 : 0 ≤ k) (h1 : k < S0 451 0) (hr0 : 0 ≤ r) (hr1 : r < 18) (h : ldFr S0 S) (hx : x ≤ t) (hm : x < S0 451 5) (ha : ∀ j : Int, S 457 j = S0 457 j) (hg : ∀ j : Int, j ≠ r → S 458 j = S0 458 j) (hgr : S 458 r = x) (hp : ∀ j : Int, j < k + 1 → S 456 j = S0 456 j) : ldTS S (k + 1) x (max t (x + 1)) = ldXS S0 k r t x := by
  have e : S 458 = ldu (S0 458) r x := funext fun j => by
    by_cases hj : j = r
    · subst hj
      rw [ldu_at, hgr]
    · rw [ldu_ne hj, hg j hj]
  unfold ldTS ldXS ldX
  rw [ldDS_fr hn h, h.1, e, ldt_up hr0 hr1, ldt_cg (f := S 457) (g := S0 457) (fun j _ _ => ha j), ldt_cg (f := S 456) (g := S0 456) (fun j _ y => hp j y), if_pos ⟨hx, hm⟩, show (S0 451 0 - (k + 1)).toNat = (S0 451 0 - k - 1).toNat by omega]
theorem ldO_b {one ask w0 b0 w b : Int} {T : List Nat} (h : ldO one ask T w0 b0 w b) (h0 : 0 ≤ b0) (h1 : b0 ≤ 1023) (hT : ∀ x, x ∈ T → x ≤ 1023) : 0 ≤ b ∧ b ≤ 1023 := by
  obtain ⟨-, -, -, -, h5, h6⟩ := h
  rcases Int.lt_or_le ask 0 with q | q
  · rw [h5 q]
    exact ⟨h0, h1⟩
  · have := ldB_le T b0.toNat (by omega) hT
    rw [h6 q]
    omega
/-- the leaf's WORDS, of the rows as they are -/
theorem ldl_t {m cue z n : Int} {C a g p : Int → Int} (hz : z < n) (hp : 0 ≤ z → 0 ≤ 6 * p z + C z ∧ 6 * p z + C z < 18) (h0 : 0 ≤ cue) (h5 : cue ≤ 5) : ldl m cue z (ldt n C) (ldt 18 a) (ldt 18 g) (ldt n p) = ldl m cue z C a g p := by
  have e : lds z (ldt n C) (ldt 18 g) (ldt n p) = lds z C g p := by
    unfold lds
    by_cases h : z < 0
    · rw [if_pos h, if_pos h]
    · have := hp (by omega)
      rw [if_neg h, if_neg h, ldt_at (by omega) hz, ldt_at (by omega) hz, ldt_at this.1 this.2]
  have e2 : ∀ st x : Int, 0 ≤ x → x ≤ 2 → ldg m cue st (ldt 18 a) x = ldg m cue st a x := fun st x h1 h2 => by
    unfold ldg
    rw [ldt_at (by omega) (by omega)]
  unfold ldl
  rw [e, e2 _ 0 (by omega) (by omega), e2 _ 1 (by omega) (by omega), e2 _ 2 (by omega) (by omega)]
theorem ldFr_up2 {S : Nat → Int → Int} {r x k s : Int} : ldFr S (bx_up (bx_up S 457 r x) 456 k s) := by
  have f : ∀ (p : Nat) (j : Int), p ≠ 456 → p ≠ 457 → bx_up (bx_up S 457 r x) 456 k s p j = S p j := fun p j h1 h2 => (bx_up_ne (fun q => h1 q.1)).trans (bx_up_ne (fun q => h2 q.1))
  exact ⟨f _ _ (by omega) (by omega), f _ _ (by omega) (by omega), f _ _ (by omega) (by omega), f _ _ (by omega) (by omega), f _ _ (by omega) (by omega), fun _ _ _ => f _ _ (by omega) (by omega), fun _ _ _ => f _ _ (by omega) (by omega), fun _ _ _ => f _ _ (by omega) (by omega), fun _ _ _ => f _ _ (by omega) (by omega)⟩
theorem ldFr_up1 {S : Nat → Int → Int} {r x : Int} : ldFr S (bx_up S 458 r x) := by
  have f : ∀ (p : Nat) (j : Int), p ≠ 458 → bx_up S 458 r x p j = S p j := fun p j h1 => bx_up_ne (fun q => h1 q.1)
  exact ⟨f _ _ (by omega), f _ _ (by omega), f _ _ (by omega), f _ _ (by omega), f _ _ (by omega), fun _ _ _ => f _ _ (by omega), fun _ _ _ => f _ _ (by omega), fun _ _ _ => f _ _ (by omega), fun _ _ _ => f _ _ (by omega)⟩
theorem ldPb_cg {S0 S : Nat → Int → Int} (h : ldPb S0) (hI : bx_Inv rxL S) (hf : ldFr S0 S) (hg : ∀ j : Int, 0 ≤ j → j < 18 → S 458 j < S0 451 5) (h9 : 0 ≤ S 451 9) (hb : S0 451 6 < 0 → S 451 10 = 0) (h10 : 0 ≤ S 451 10 ∧ S 451 10 ≤ 1023) : ldPb S := by
  obtain ⟨p1, p2, p3, p4, p5, p6, p7, p8⟩ := h
  obtain ⟨a0, a5, a6, a7, a8, b2, b3, b4, b5⟩ := hf
  have hx := ld451 hI
  refine ⟨by omega, fun j x y => by rw [a5]; exact hg j x y, fun q => ?_, fun q => hb (by omega), fun q => ?_, fun q => ?_, h9, h10⟩
  · have := p3 (by omega)
    omega
  · have := p5 (by omega)
    omega
  · have e := b5 (S 451 6) q (by omega)
    rw [a6] at e q ⊢
    have := p6 q
    omega
def ldU9 (S0 S : Nat → Int → Int) : Prop := S 451 9 = S0 451 9 + 1 ∧ ∀ (p : Nat) (j : Int), ¬ (p = 451 ∧ j = 9) → S p j = S0 p j
