/-- a script of holes -/
def rjHs : Int → Int := rjSc (fun _ => -1) 0
theorem rjHs_of {R : Int → Int} {b : Int} (h : ∀ t : Int, 0 ≤ t → t < 36 → R (b + t) = -1) : rjSc R b = rjHs := funext fun t => by
  unfold rjHs rjSc
  by_cases c : 0 ≤ t ∧ t < 36
  · rw [if_pos c, if_pos c]
    exact h t c.1 c.2
  · rw [if_neg c, if_neg c]
theorem rjd_ho {S : Nat → Int → Int} {a : Int} (h : ∀ t : Int, 0 ≤ t → t < 36 → S (24 + 3 * a).toNat t = -1 ∧ S (25 + 3 * a).toNat t = -1) : rjdRw S a rjHs := fun t t0 t1 => by
  have e : rjHs t = -1 := rjSc_in (R := fun _ => -1) (b := 0) t0 t1
  obtain ⟨x, y⟩ := h t t0 t1
  rw [e]
  exact ⟨⟨by decide, by decide⟩, x.trans (if_pos rfl).symm, y.trans (if_pos rfl).symm⟩