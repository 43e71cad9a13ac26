/-! A TOWN IS COPIED: scripts and texts, one after another -/
/-- places of scripts and texts of the three towns -/
def rkRgn (p : Nat) : Prop := (23 ≤ p ∧ p < 137) ∨ (160 ≤ p ∧ p < 274) ∨ (296 ≤ p ∧ p < 410)
/-- a town's first script -/
def rkTb (b : Nat) : Prop := b = 23 ∨ b = 160 ∨ b = 296
def rkSq (S0 S : Nat → Int → Int) (t s : Nat) : Prop := ∀ j : Int, 0 ≤ j → j < 36 → S (t + 1) j = S0 (s + 1) j ∧ S (t + 2) j = S0 (s + 2) j
def tqCp (S0 S : Nat → Int → Int) (t s : Nat) : Prop := S t 0 = S0 s 0 ∧ S t 4 = S0 s 4 ∧ (∀ j : Int, 0 ≤ j → j < 400 → S (t + 1) j = S0 (s + 1) j ∧ S (t + 2) j = S0 (s + 2) j) ∧ ∀ p : Nat, 4 ≤ p → p ≤ 9 → ∀ j : Int, 0 ≤ j → j < 12 → S (t + p) j = S0 (s + p) j
theorem tqCp_of {S0 S : Nat → Int → Int} {t s : Nat} (q : rkQc S0 S t s) : tqCp S0 S t s := by
  obtain ⟨q0, q4, r1, r2, k4, k5, k6, k7, k8, k9, -, -⟩ := q
  refine ⟨q0, q4, fun j a b => ⟨r1 j a b, r2 j a b⟩, fun p p4 p9 j a b => ?_⟩
  have e : p = 4 ∨ p = 5 ∨ p = 6 ∨ p = 7 ∨ p = 8 ∨ p = 9 := by omega
  rcases e with rfl | rfl | rfl | rfl | rfl | rfl
  · exact k4 j a b
  · exact k5 j a b
  · exact k6 j a b
  · exact k7 j a b
  · exact k8 j a b
  · exact k9 j a b
theorem rkHl_cq {S0 S : Nat → Int → Int} {t s : Nat} {L : List rkQ} (h : rkHl S0 s L) (q : tqCp S0 S t s) : rkHl S t L := by
  obtain ⟨h1, h2, h3, h4⟩ := h
  obtain ⟨q0, q4, r, k⟩ := q
  have a0 : rkAt S t 427 0 = S t 0 := (rkAt_p (Nat.le_refl 427) 0).trans rfl
  have b0 : rkAt S0 s 427 0 = S0 s 0 := (rkAt_p (Nat.le_refl 427) 0).trans rfl
  refine ⟨q4.trans h1, h2, by omega, rkPd_cg (S := rkAt S0 s) (a0.trans (q0.trans b0.symm)) (fun j x y => ?_) (fun p a b j x y => ?_) h2 h4⟩
  · rw [b0] at y
    rw [rkAt_p (by omega), rkAt_p (by omega), rkAt_p (by omega), rkAt_p (by omega)]
    exact r j x (by omega)
  · rw [rkAt_p (by omega), rkAt_p (by omega)]
    exact k (p - 427) (by omega) (by omega) j x y
def rkW4 (S0 S : Nat → Int → Int) (tb : Nat) : Prop := ∀ (p : Nat) (j : Int), rkRgn p → (p < tb ∨ tb + 114 ≤ p) → S p j = S0 p j
def rkWt4 (S0 S : Nat → Int → Int) (tb sb : Nat) (a v l : Int) : Prop := (∀ k : Nat, (k : Int) < a → k < 6 → rkSq S0 S (tb + 3 * k) (sb + 3 * k)) ∧ (∀ k : Nat, (k : Int) < v → k < 12 → rkSq S0 S (tb + 18 + 3 * k) (sb + 18 + 3 * k)) ∧ (∀ k : Nat, (k : Int) < l → k < 6 → tqCp S0 S (tb + 54 + 10 * k) (sb + 54 + 10 * k)) ∧ rkW4 S0 S tb
theorem rkSq_cg {S0 S S_p : Nat → Int → Int} {t s : Nat} (h : rkSq S0 S t s) (e : ∀ (p : Nat) (j : Int), t ≤ p → p < t + 3 → S_p p j = S p j) : rkSq S0 S_p t s := fun j a b => ⟨(e _ j (by omega) (by omega)).trans (h j a b).1, (e _ j (by omega) (by omega)).trans (h j a b).2⟩
theorem tqCp_cg {S0 S S_p : Nat → Int → Int} {t s : Nat} (h : tqCp S0 S t s) (e : ∀ (p : Nat) (j : Int), t ≤ p → p < t + 10 → S_p p j = S p j) : tqCp S0 S_p t s :=
  ⟨(e _ _ (by omega) (by omega)).trans h.1, (e _ _ (by omega) (by omega)).trans h.2.1, fun j a b => ⟨(e _ j (by omega) (by omega)).trans (h.2.2.1 j a b).1, (e _ j (by omega) (by omega)).trans (h.2.2.1 j a b).2⟩, fun p a b j x y => (e _ j (by omega) (by omega)).trans (h.2.2.2 p a b j x y)⟩
theorem rkTb_re {b p : Nat} (h : rkTb b) (h0 : b ≤ p) (h1 : p < b + 114) : rkRgn p := by
  unfold rkTb at h
  unfold rkRgn
  omega
theorem rkWt4_ne {S0 S S_p : Nat → Int → Int} {tb sb : Nat} {a v l : Int} (hb : rkTb tb) (h : rkWt4 S0 S tb sb a v l) (e : ∀ (p : Nat) (j : Int), rkRgn p → S_p p j = S p j) : rkWt4 S0 S_p tb sb a v l :=
  ⟨fun k x y => rkSq_cg (h.1 k x y) fun p j p0 p1 => e p j (rkTb_re hb (by omega) (by omega)), fun k x y => rkSq_cg (h.2.1 k x y) fun p j p0 p1 => e p j (rkTb_re hb (by omega) (by omega)), fun k x y => tqCp_cg (h.2.2.1 k x y) fun p j p0 p1 => e p j (rkTb_re hb (by omega) (by omega)), fun p j r n => (e p j r).trans (h.2.2.2 p j r n)⟩
theorem rkWt4_0 {S0 S : Nat → Int → Int} {tb sb : Nat} (e : ∀ (p : Nat) (j : Int), rkRgn p → S p j = S0 p j) : rkWt4 S0 S tb sb 0 0 0 :=
  ⟨fun k x y => by omega, fun k x y => by omega, fun k x y => by omega, fun p j r _ => e p j r⟩
section RKW4
variable {S0 S S_p : Nat → Int → Int} {tb sb i : Nat}
theorem rkSq_src {t s : Nat} (hw : rkW4 S0 S tb) (q : rkSc S S_p t s) (r : ∀ p : Nat, s ≤ p → p < s + 3 → rkRgn p ∧ (p < tb ∨ tb + 114 ≤ p)) : rkSq S0 S_p t s := fun j a b => by
  obtain ⟨r1, r2⟩ := r (s + 1) (by omega) (by omega)
  obtain ⟨r3, r4⟩ := r (s + 2) (by omega) (by omega)
  exact ⟨(q.1 j a b).trans (hw _ j r1 r2), (q.2.1 j a b).trans (hw _ j r3 r4)⟩
theorem rkWt4_a (hb : rkTb tb) (hs : rkTb sb) (hn : tb ≠ sb) (i6 : i < 6) (h : rkWt4 S0 S tb sb (i : Int) 0 0) (q : rkSc S S_p (tb + 3 * i) (sb + 3 * i)) : rkWt4 S0 S_p tb sb ((i : Int) + 1) 0 0 := by
  have hb' := hb
  have hs_p := hs
  unfold rkTb at hb' hs_p
  refine ⟨fun k x y => ?_, fun k x y => by omega, fun k x y => by omega, fun p j r n => (q.2.2 p j (by omega) (by omega)).trans (h.2.2.2 p j r n)⟩
  by_cases e : k = i
  · subst e
    exact rkSq_src h.2.2.2 q fun p p0 p1 => ⟨rkTb_re hs (by omega) (by omega), by omega⟩
  · exact rkSq_cg (h.1 k (by omega) y) fun p j p0 p1 => q.2.2 p j (by omega) (by omega)
theorem rkWt4_v (hb : rkTb tb) (hs : rkTb sb) (hn : tb ≠ sb) (i12 : i < 12) (h : rkWt4 S0 S tb sb 6 (i : Int) 0) (q : rkSc S S_p (tb + 18 + 3 * i) (sb + 18 + 3 * i)) : rkWt4 S0 S_p tb sb 6 ((i : Int) + 1) 0 := by
  have hb' := hb
  have hs_p := hs
  unfold rkTb at hb' hs_p
  refine ⟨fun k x y => rkSq_cg (h.1 k x y) fun p j p0 p1 => q.2.2 p j (by omega) (by omega), fun k x y => ?_, fun k x y => by omega, fun p j r n => (q.2.2 p j (by omega) (by omega)).trans (h.2.2.2 p j r n)⟩
  by_cases e : k = i
  · subst e
    exact rkSq_src h.2.2.2 q fun p p0 p1 => ⟨rkTb_re hs (by omega) (by omega), by omega⟩
  · exact rkSq_cg (h.2.1 k (by omega) y) fun p j p0 p1 => q.2.2 p j (by omega) (by omega)
theorem rkWt4_l (hb : rkTb tb) (hs : rkTb sb) (hn : tb ≠ sb) (i6 : i < 6) (h : rkWt4 S0 S tb sb 6 12 (i : Int)) (q : rkQc S S_p (tb + 54 + 10 * i) (sb + 54 + 10 * i)) : rkWt4 S0 S_p tb sb 6 12 ((i : Int) + 1) := by
  have hb' := hb
  have hs_p := hs
  unfold rkTb at hb' hs_p
  have c := tqCp_of q
  obtain ⟨-, -, -, -, -, -, -, -, -, -, f, o⟩ := q
  have f' : ∀ (p : Nat) (j : Int), (p < tb + 54 + 10 * i ∨ tb + 54 + 10 * i + 10 ≤ p) → S_p p j = S p j := fun p j n => f p j (by omega) (by omega) (by omega) (by omega) (by omega) (by omega) (by omega) (by omega) (by omega)
  refine ⟨fun k x y => rkSq_cg (h.1 k x y) fun p j p0 p1 => f' p j (by omega), fun k x y => rkSq_cg (h.2.1 k x y) fun p j p0 p1 => f' p j (by omega), fun k x y => ?_, fun p j r n => (f' p j (by omega)).trans (h.2.2.2 p j r n)⟩
  by_cases e : k = i
  · subst e
    have s : ∀ (p : Nat) (j : Int), sb + 54 + 10 * k ≤ p → p < sb + 54 + 10 * k + 10 → S p j = S0 p j := fun p j p0 p1 => h.2.2.2 p j (rkTb_re hs (by omega) (by omega)) (by omega)
    exact ⟨c.1.trans (s _ _ (by omega) (by omega)), c.2.1.trans (s _ _ (by omega) (by omega)), fun j a b => ⟨(c.2.2.1 j a b).1.trans (s _ _ (by omega) (by omega)), (c.2.2.1 j a b).2.trans (s _ _ (by omega) (by omega))⟩, fun p a b j x y => (c.2.2.2 p a b j x y).trans (s _ _ (by omega) (by omega))⟩
  · exact tqCp_cg (h.2.2.1 k (by omega) y) fun p j p0 p1 => f' p j (by omega)
end RKW4
/-- where a town's scripts are -/
def rkSl (S : Nat → Int → Int) (row b n : Nat) : Prop := ∀ i : Nat, i < n → S row (i : Int) = ((b + 3 * i : Nat) : Int) ∧ rkSp S (b + 3 * i)
/-- all that is told of places -/
def rkPl (S : Nat → Int → Int) : Prop := rkPf S ∧ (rkSl S 4 23 6 ∧ rkSl S 12 41 12) ∧ (rkSl S 141 160 6 ∧ rkSl S 149 178 12) ∧ (rkSl S 277 296 6 ∧ rkSl S 285 314 12)
theorem rkSl_sm {ms : List (Nat × Nat)} {S S_p : Nat → Int → Int} (hs : bx_same rxL (bx_mdl ms) S S_p) (hk : [(9, 0), (9, 1), (1002, 0), (1009, 0)].all (fun q => !(bx_mdl ms q.1 q.2)) = true) {row b n : Nat} (hc : (List.range n).all (fun i => Nat.blt row 522 && (Nat.blt i (bx_wd (rxL.1 row)) && [(1002, 0), (1009, 0)].contains (bx_mc (rxL.1 row) i)) && (Nat.blt (b + 3 * i) 522 && (Nat.beq (bx_wd (rxL.1 (b + 3 * i))) 2 && (decide (bx_mc (rxL.1 (b + 3 * i)) 0 = (9, 0)) && decide (bx_mc (rxL.1 (b + 3 * i)) 1 = (9, 1)))))) = true) (h : rkSl S row b n) : rkSl S_p row b n := fun i hi => by
  have hq : ∀ x : Nat × Nat, x ∈ [(9, 0), (9, 1), (1002, 0), (1009, 0)] → bx_mdl ms x.1 x.2 = false := fun x hm => by
    have := List.all_eq_true.mp hk x hm
    rw [Bool.not_eq_true'] at this
    exact this
  have g := List.all_eq_true.mp hc i (List.mem_range.mpr hi)
  rw [Bool.and_eq_true, Bool.and_eq_true, Bool.and_eq_true, Bool.and_eq_true, Bool.and_eq_true, Bool.and_eq_true, Nat.blt_eq, Nat.blt_eq, Nat.blt_eq, decide_eq_true_eq, decide_eq_true_eq] at g
  obtain ⟨⟨g1, g2, g3⟩, g4, g5, g6, g7⟩ := g
  have g5 := Nat.eq_of_beq_eq_true g5
  obtain ⟨h1, h2, h3⟩ := h i hi
  refine ⟨(hs row i g1 g2 (hq _ ?_)).trans h1, (hs _ 0 g4 (by omega) (by rw [g6]; exact hq (9, 0) (by decide))).trans h2, (hs _ 1 g4 (by omega) (by rw [g7]; exact hq (9, 1) (by decide))).trans h3⟩
  have := List.contains_iff_mem.mp g3
  simp only [List.mem_cons, List.not_mem_nil, or_false] at this ⊢
  rcases this with e | e
  · exact Or.inr (Or.inr (Or.inl e))
  · exact Or.inr (Or.inr (Or.inr e))
theorem rkPl_sm {ms : List (Nat × Nat)} {S S_p : Nat → Int → Int} (hs : bx_same rxL (bx_mdl ms) S S_p) (hk : [(6, 8), (6, 9), (6, 10), (1016, 0), (9, 0), (9, 1), (1002, 0), (1009, 0)].all (fun q => !(bx_mdl ms q.1 q.2)) = true) (h : rkPl S) : rkPl S_p := by
  have hq : ∀ x : Nat × Nat, x ∈ [(6, 8), (6, 9), (6, 10), (1016, 0), (9, 0), (9, 1), (1002, 0), (1009, 0)] → (!(bx_mdl ms x.1 x.2)) = true := fun x hm => List.all_eq_true.mp hk x hm
  have hp : [(6, 8), (6, 9), (6, 10)].all (fun q => !(bx_mdl ms q.1 q.2)) = true := List.all_eq_true.mpr fun x hm => hq x (by
    simp only [List.mem_cons, List.not_mem_nil, or_false] at hm ⊢
    rcases hm with e | e | e
    · exact Or.inl e
    · exact Or.inr (Or.inl e)
    · exact Or.inr (Or.inr (Or.inl e)))
  have hz : [(9, 0), (9, 1), (1002, 0), (1009, 0)].all (fun q => !(bx_mdl ms q.1 q.2)) = true := List.all_eq_true.mpr fun x hm => hq x (by
    simp only [List.mem_cons, List.not_mem_nil, or_false] at hm ⊢
    rcases hm with e | e | e | e
    · exact Or.inr (Or.inr (Or.inr (Or.inr (Or.inl e))))
    · exact Or.inr (Or.inr (Or.inr (Or.inr (Or.inr (Or.inl e)))))
    · exact Or.inr (Or.inr (Or.inr (Or.inr (Or.inr (Or.inr (Or.inl e))))))
    · exact Or.inr (Or.inr (Or.inr (Or.inr (Or.inr (Or.inr (Or.inr e)))))))
  have hr : bx_mdl ms 1016 0 = false := by
    have := hq (1016, 0) (by decide)
    rw [Bool.not_eq_true'] at this
    exact this
  obtain ⟨h0, ⟨h1, h2⟩, ⟨h3, h4⟩, h5, h6⟩ := h
  exact ⟨rkPf_sm hs hp hr h0, ⟨rkSl_sm hs hz (by decide +kernel) h1, rkSl_sm hs hz (by decide +kernel) h2⟩, ⟨rkSl_sm hs hz (by decide +kernel) h3, rkSl_sm hs hz (by decide +kernel) h4⟩, rkSl_sm hs hz (by decide +kernel) h5, rkSl_sm hs hz (by decide +kernel) h6⟩
theorem rkNum_n0 : rxNum.all (fun p => !(decide (23 ≤ p ∧ p < 137) || (decide (160 ≤ p ∧ p < 274) || decide (296 ≤ p ∧ p < 410)))) = true := by decide +kernel
theorem rkNum_n {p : Nat} (h : p ∈ rxNum) : ¬ rkRgn p := fun r => by
  have g := List.all_eq_true.mp rkNum_n0 p h
  rw [Bool.not_eq_true', Bool.or_eq_false_iff, Bool.or_eq_false_iff, decide_eq_false_iff_not, decide_eq_false_iff_not, decide_eq_false_iff_not] at g
  rcases r with r | r | r
  · exact g.1 r
  · exact g.2.1 r
  · exact g.2.2 r
theorem rkSc_o {S S_p : Nat → Int → Int} {t s tb : Nat} (q : rkSc S S_p t s) (hb : rkTb tb) (h0 : tb ≤ t) (h1 : t + 3 ≤ tb + 114) (p : Nat) (j : Int) (n : ¬ rkRgn p) : S_p p j = S p j :=
  q.2.2 p j (fun e => n (rkTb_re hb (by omega) (by omega))) (fun e => n (rkTb_re hb (by omega) (by omega)))
theorem rkQc_o {S S_p : Nat → Int → Int} {t s tb : Nat} (q : rkQc S S_p t s) (hb : rkTb tb) (h0 : tb ≤ t) (h1 : t + 10 ≤ tb + 114) (p : Nat) (j : Int) (n : ¬ rkRgn p) : S_p p j = S p j := by
  obtain ⟨-, -, -, -, -, -, -, -, -, -, f, -⟩ := q
  have k : ∀ x : Nat, x < 10 → p ≠ t + x := fun x hx e => n (rkTb_re hb (by omega) (by omega))
  exact f p j (k 0 (by omega)) (k 1 (by omega)) (k 2 (by omega)) (k 4 (by omega)) (k 5 (by omega)) (k 6 (by omega)) (k 7 (by omega)) (k 8 (by omega)) (k 9 (by omega))
theorem rkSg_t {k tb : Nat} (hb : rkTb tb) (hk : k < 18) : tb + 3 * k ∈ rkSg := by
  have g : [23, 160, 296].all (fun b => (List.range 18).all (fun k => rkSg.contains (b + 3 * k))) = true := by decide +kernel
  have hm : tb ∈ [23, 160, 296] := by
    rcases hb with rfl | rfl | rfl <;> decide
  exact List.contains_iff_mem.mp (List.all_eq_true.mp (List.all_eq_true.mp g tb hm) k (List.mem_range.mpr hk))
theorem rkPg_t {k tb : Nat} (hb : rkTb tb) (hk : k < 6) : tb + 54 + 10 * k ∈ rkPg := by
  have g : [23, 160, 296].all (fun b => (List.range 6).all (fun k => rkPg.contains (b + 54 + 10 * k))) = true := by decide +kernel
  have hm : tb ∈ [23, 160, 296] := by
    rcases hb with rfl | rfl | rfl <;> decide
  exact List.contains_iff_mem.mp (List.all_eq_true.mp (List.all_eq_true.mp g tb hm) k (List.mem_range.mpr hk))
