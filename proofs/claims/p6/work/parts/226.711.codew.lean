/-! WHAT WELL MADE CODE TELLS: one value; a test's is 0 or 1 -/
def rkTs : List Bool → List Int → Prop
  | [], [] => True
  | b :: t, x :: st => (b = true → x = 0 ∨ x = 1) ∧ rkTs t st
  | _, _ => False
theorem rkTs_c {b : Bool} {t : List Bool} {st : List Int} (h : rkTs (b :: t) st) : ∃ (x : Int) (st1 : List Int), st = x :: st1 ∧ (b = true → x = 0 ∨ x = 1) ∧ rkTs t st1 := by
  cases st with
  | nil => exact h.elim
  | cons x st1 => exact ⟨x, st1, rfl, h.1, h.2⟩
theorem rkTs_n {st : List Int} (h : rkTs [] st) : st = [] := by
  cases st with
  | nil => rfl
  | cons x st1 => exact h.elim
theorem rkLm_s {o : Option Int} {z : Int} (h : rkLm o = some z) : o = some z := by
  cases o with
  | none => cases h
  | some x =>
    have h : (if -1000000000 ≤ x ∧ x ≤ 1000000000 then some x else none) = some z := h
    by_cases g : -1000000000 ≤ x ∧ x ≤ 1000000000
    · rw [if_pos g] at h
      exact h
    · rw [if_neg g] at h
      cases h
theorem rkBi_c {op a b z : Int} (h1 : 25 ≤ op) (h : rkBi op a b = some z) : z = 0 ∨ z = 1 := by
  unfold rkBi at h
  rw [if_neg (by omega), if_neg (by omega), if_neg (by omega), if_neg (by omega), if_neg (by omega)] at h
  have k : ∀ (p : Prop) [Decidable p], some (if p then (1 : Int) else 0) = some z → z = 0 ∨ z = 1 := fun p _ g => by
    have g := Option.some.inj g
    by_cases q : p
    · rw [if_pos q] at g
      exact Or.inr g.symm
    · rw [if_neg q] at g
      exact Or.inl g.symm
  by_cases h2 : op = 25
  · rw [if_pos h2] at h
    exact k _ h
  rw [if_neg h2] at h
  by_cases h3 : op = 26
  · rw [if_pos h3] at h
    exact k _ h
  rw [if_neg h3] at h
  exact k _ h
theorem rkVl_t {d : rkC} {vs : Int → Int} {b : Bool} {τ : Int → List Bool} (hr : ∀ i : Int, 0 ≤ i → i < rkM d → rkRu τ (rkM d) i (rkFo d i) (rkFa d i) ∧ ((rkFo d i = 29 ∨ rkFo d i = 30) → rkFa d i ≠ 0)) (hm : τ (rkM d) = [b]) : ∀ (k : Nat) (i : Int) (st : List Int) (r : Option (List Int)), 0 ≤ i → i ≤ rkM d → rkTs (τ i) st → rkVl d vs k i st = some r → r = none ∨ ∃ x : Int, r = some [x] ∧ (b = true → x = 0 ∨ x = 1)
  | 0, i, st, r, _, _, _, h => by cases h
  | k + 1, i, st, r, i0, i1, ht, h => by
    unfold rkVl at h
    by_cases h1 : rkM d ≤ i
    · rw [if_pos h1] at h
      have e : i = rkM d := by omega
      rw [e, hm] at ht
      obtain ⟨x, st1, e1, e2, e3⟩ := rkTs_c ht
      have e4 := rkTs_n e3
      subst e1
      subst e4
      exact Or.inr ⟨x, (Option.some.inj h).symm, e2⟩
    rw [if_neg h1] at h
    obtain ⟨hu, hn⟩ := hr i i0 (by omega)
    rcases hu with ⟨u1, u2, u3⟩ | ⟨u1, u2, t, u3, u4⟩ | ⟨u1, u2, t, u3, u4⟩ | ⟨u1, t, u3, u4⟩ | ⟨u1, t, u3, u4, u5⟩
    · rw [if_pos u2] at h
      refine rkVl_t hr hm k (i + 1) _ r (by omega) (by omega) ?_ h
      rw [u3]
      exact ⟨fun g => (by cases g), ht⟩
    · rw [u3] at ht
      obtain ⟨x, st1, e1, -, ht1⟩ := rkTs_c ht
      obtain ⟨y, st2, e2, -, ht2⟩ := rkTs_c ht1
      subst e1
      subst e2
      rw [if_neg (by omega)] at h
      simp only at h
      rw [if_neg (by omega), if_neg (by omega)] at h
      cases h6 : rkLm (rkBi (rkFo d i) y x) with
      | none =>
        rw [h6] at h
        exact Or.inl (Option.some.inj h).symm
      | some z =>
        rw [h6] at h
        refine rkVl_t hr hm k (i + 1) _ r (by omega) (by omega) ?_ h
        rw [u4]
        exact ⟨fun g => (by cases g), ht2⟩
    · rw [u3] at ht
      obtain ⟨x, st1, e1, -, ht1⟩ := rkTs_c ht
      obtain ⟨y, st2, e2, -, ht2⟩ := rkTs_c ht1
      subst e1
      subst e2
      rw [if_neg (by omega)] at h
      simp only at h
      rw [if_neg (by omega), if_neg (by omega)] at h
      cases h6 : rkLm (rkBi (rkFo d i) y x) with
      | none =>
        rw [h6] at h
        exact Or.inl (Option.some.inj h).symm
      | some z =>
        rw [h6] at h
        refine rkVl_t hr hm k (i + 1) _ r (by omega) (by omega) ?_ h
        rw [u4]
        exact ⟨fun _ => rkBi_c u1 (rkLm_s h6), ht2⟩
    · rw [u3] at ht
      obtain ⟨x, st1, e1, hx, ht1⟩ := rkTs_c ht
      have hx := hx rfl
      subst e1
      rw [if_neg (by omega)] at h
      simp only at h
      rw [if_pos u1] at h
      refine rkVl_t hr hm k (i + 1) _ r (by omega) (by omega) ?_ h
      rw [u4]
      exact ⟨fun _ => by omega, ht1⟩
    · rw [u3] at ht
      obtain ⟨x, st1, e1, hx, ht1⟩ := rkTs_c ht
      subst e1
      rw [if_neg (by omega)] at h
      simp only at h
      rw [if_neg (by omega), if_pos u1] at h
      obtain ⟨a1, a2, a3⟩ := u5.resolve_left (hn u1)
      by_cases h5 : x = (if rkFo d i = 30 then 1 else 0)
      · rw [if_pos h5] at h
        refine rkVl_t hr hm k (rkFa d i) _ r (by omega) a2 ?_ h
        rw [a3]
        exact ⟨hx, ht1⟩
      · rw [if_neg h5] at h
        refine rkVl_t hr hm k (i + 1) _ r (by omega) (by omega) ?_ h
        rw [u4]
        exact ht1
theorem rkEv_t {d : rkC} {vs : Int → Int} {b : Bool} {r : Option (List Int)} (h : rkWt d b) (g : rkEv d vs 0 [] r) : r = none ∨ ∃ x : Int, r = some [x] ∧ (b = true → x = 0 ∨ x = 1) := by
  obtain ⟨m0, τ, h1, h2, h3⟩ := h
  obtain ⟨k, hk⟩ := g
  exact rkVl_t h2 h3 k 0 [] r (Int.le_refl 0) m0 (by rw [h1]; trivial) hk
