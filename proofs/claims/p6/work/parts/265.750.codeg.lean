/-! OTHER PROGRAMS STAY but for their stacks -/
def rkOe (S0 S : Nat → Int → Int) : Prop := ∀ p i : Nat, p ∈ rkOl → tqOk p i = true → S p (i : Int) = S0 p (i : Int)
theorem tqOk_x {p i : Nat} (h : tqOk p i = true) : p < 522 ∧ i < bx_wd (rxL.1 p) ∧ tqKs.contains (bx_mc (rxL.1 p) i) = true := by
  unfold tqOk at h
  rw [Bool.and_eq_true, Bool.and_eq_true, Nat.blt_eq, Nat.blt_eq] at h
  exact ⟨h.1, h.2.1, h.2.2⟩
theorem rkOe_of {S0 S : Nat → Int → Int} (h : rkOf S0 S) : rkOe S0 S := fun p i hp ho => h p i hp (tqOk_x ho).2.1
theorem rkOe_T {S0 S T : Nat → Int → Int} {c k : Nat} (v : ∀ (p i : Nat), p < rxL.2.1 → i < bx_wd (rxL.1 p) → bx_mc (rxL.1 p) i ≠ (c, k) → T p (i : Int) = S p (i : Int)) (hc : tqKs.contains (c, k) = false) (h : rkOe S0 S) : rkOe S0 T := fun p i hp ho => by
  obtain ⟨a, b, d⟩ := tqOk_x ho
  refine (v p i a b fun e => ?_).trans (h p i hp ho)
  rw [e, hc] at d
  cases d
theorem rkOe_up {S0 S : Nat → Int → Int} {q : Nat} {i v : Int} (hq : rkOl.contains q = false) (h : rkOe S0 S) : rkOe S0 (bx_up S q i v) := fun p j hp ho => by
  refine (bx_up_ne fun g => ?_).trans (h p j hp ho)
  have := List.contains_iff_mem.mpr hp
  rw [g.1, hq] at this
  cases this
theorem rkOe_sm {ms : List (Nat × Nat)} {S0 S S_p : Nat → Int → Int} (hs : bx_same rxL (bx_mdl ms) S S_p) (hk : tqKs.all (fun q => !(bx_mdl ms q.1 q.2)) = true) (h : rkOe S0 S) : rkOe S0 S_p := fun p i hp ho => by
  obtain ⟨a, b, d⟩ := tqOk_x ho
  refine (hs p i a b ?_).trans (h p i hp ho)
  have q := List.all_eq_true.mp hk (bx_mc (rxL.1 p) i) (List.contains_iff_mem.mp d)
  rw [Bool.not_eq_true'] at q
  exact q
theorem rkOl_10 : (List.range 6).all (fun k => [77, 214, 350].all (fun b => (List.range 10).all (fun x => rkOl.contains (b + 10 * k + x)))) = true := by decide +kernel
theorem rkOl_in {b k x : Nat} (hb : b = 77 ∨ b = 214 ∨ b = 350) (hk : k < 6) (hx : x < 10) : b + 10 * k + x ∈ rkOl := by
  have hm : b ∈ [77, 214, 350] := by
    rcases hb with rfl | rfl | rfl <;> decide
  exact List.contains_iff_mem.mp (List.all_eq_true.mp (List.all_eq_true.mp (List.all_eq_true.mp rkOl_10 k (List.mem_range.mpr hk)) b hm) x (List.mem_range.mpr hx))
theorem rkPg_in {b k : Nat} (hb : b = 77 ∨ b = 214 ∨ b = 350) (hk : k < 6) : b + 10 * k ∈ rkPg := by
  have g : [77, 214, 350].all (fun b => (List.range 6).all (fun k => rkPg.contains (b + 10 * k))) = true := by decide +kernel
  have hm : b ∈ [77, 214, 350] := by
    rcases hb with rfl | rfl | rfl <;> decide
  exact List.contains_iff_mem.mp (List.all_eq_true.mp (List.all_eq_true.mp g b hm) k (List.mem_range.mpr hk))
theorem tqEq_oe {S S_p : Nat → Int → Int} {b k : Nat} (hb : b = 77 ∨ b = 214 ∨ b = 350) (hk : k < 6) (h : ∀ p i : Nat, b + 10 * k ≤ p → p < b + 10 * k + 10 → p ∈ rkOl → tqOk p i = true → S_p p (i : Int) = S p (i : Int)) : tqEq S S_p (b + 10 * k) := by
  have g := List.all_eq_true.mp rkPg_e _ (rkPg_in hb hk)
  rw [Bool.and_eq_true, Bool.and_eq_true] at g
  obtain ⟨g1, g2, g3⟩ := g
  have k1 := List.all_eq_true.mp g1
  have m : ∀ x : Nat, x < 10 → b + 10 * k + x ∈ rkOl := fun x hx => rkOl_in hb hk hx
  have f : ∀ i : Nat, tqOk (b + 10 * k) i = true → S_p (b + 10 * k) (i : Int) = S (b + 10 * k) (i : Int) := fun i ho => h _ i (Nat.le_refl _) (by omega) (m 0 (by omega)) ho
  refine ⟨f 0 (k1 0 (by decide)), f 4 (k1 4 (by decide)), ⟨f 8 (k1 8 (by decide)), f 9 (k1 9 (by decide)), f 10 (k1 10 (by decide))⟩, fun i a c => ?_, fun p p4 p9 i a c => ?_⟩
  · have q := List.all_eq_true.mp g2 i.toNat (List.mem_range.mpr (by omega))
    rw [Bool.and_eq_true] at q
    have q1 := h _ _ (by omega) (by omega) (m 1 (by omega)) q.1
    have q2 := h _ _ (by omega) (by omega) (m 2 (by omega)) q.2
    rw [Int.toNat_of_nonneg a] at q1 q2
    exact ⟨q1, q2⟩
  · have pm : p ∈ [4, 5, 6, 7, 8, 9] := by
      have e : p = 4 ∨ p = 5 ∨ p = 6 ∨ p = 7 ∨ p = 8 ∨ p = 9 := by omega
      rcases e with rfl | rfl | rfl | rfl | rfl | rfl <;> decide
    have q := List.all_eq_true.mp (List.all_eq_true.mp g3 p pm) i.toNat (List.mem_range.mpr (by omega))
    have q1 := h _ _ (by omega) (by omega) (m p (by omega)) q
    rw [Int.toNat_of_nonneg a] at q1
    exact q1
