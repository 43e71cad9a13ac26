/-! A VERSION WATCHED: along the row of cues, from STATE 0 on, until it has no rule -/
def rjW1 (P : Int → Int) (c sl : Int) (x : (Int → Int) × Int × Int) : (Int → Int) × Int × Int :=
  if x.2.1 = -1 then x else if P (6 * x.2.1 + c) = -1 then (x.1, -1, x.2.2) else
  if x.1 (6 * x.2.1 + c) = -1 then (rkUp x.1 (6 * x.2.1 + c) (if x.2.2 = sl then (P (6 * x.2.1 + c) + 6) % 60 else P (6 * x.2.1 + c)), P (6 * x.2.1 + c) % 6, x.2.2 + 1)
  else (x.1, P (6 * x.2.1 + c) % 6, x.2.2)
/-- a script of holes -/
def rjHs : Int → Int := rjSc (fun _ => -1) 0
theorem rjHs_of {R : Int → Int} {b : Int} (h : ∀ t : Int, 0 ≤ t → t < 36 → R (b + t) = -1) : rjSc R b = rjHs := funext fun t => by
  unfold rjHs rjSc
  by_cases c : 0 ≤ t ∧ t < 36
  · rw [if_pos c, if_pos c]
    exact h t c.1 c.2
  · rw [if_neg c, if_neg c]
def rjW (P C : Int → Int) (sl : Int) : Nat → (Int → Int) × Int × Int
  | 0 => (rjHs, 0, 0)
  | k + 1 => rjW1 P (C (k : Int)) sl (rjW P C sl k)
theorem rjW1_e {P : Int → Int} {c sl : Int} {x : (Int → Int) × Int × Int} (h : x.2.1 = -1) : rjW1 P c sl x = x := if_pos h
theorem rjW1_h {P : Int → Int} {c sl : Int} {s : Int → Int} {st m : Int} (h : st ≠ -1) (g : P (6 * st + c) = -1) : rjW1 P c sl (s, st, m) = (s, -1, m) := by
  unfold rjW1
  rw [if_neg (show ¬ (s, st, m).2.1 = -1 from h), if_pos (show P (6 * (s, st, m).2.1 + c) = -1 from g)]
theorem rjW1_n {P : Int → Int} {c sl : Int} {s : Int → Int} {st m : Int} (h : st ≠ -1) (g : P (6 * st + c) ≠ -1) (f : s (6 * st + c) = -1) : rjW1 P c sl (s, st, m) = (rkUp s (6 * st + c) (if m = sl then (P (6 * st + c) + 6) % 60 else P (6 * st + c)), P (6 * st + c) % 6, m + 1) := by
  unfold rjW1
  rw [if_neg (show ¬ (s, st, m).2.1 = -1 from h), if_neg (show ¬ P (6 * (s, st, m).2.1 + c) = -1 from g), if_pos (show (s, st, m).1 (6 * (s, st, m).2.1 + c) = -1 from f)]
theorem rjW1_o {P : Int → Int} {c sl : Int} {s : Int → Int} {st m : Int} (h : st ≠ -1) (g : P (6 * st + c) ≠ -1) (f : s (6 * st + c) ≠ -1) : rjW1 P c sl (s, st, m) = (s, P (6 * st + c) % 6, m) := by
  unfold rjW1
  rw [if_neg (show ¬ (s, st, m).2.1 = -1 from h), if_neg (show ¬ P (6 * (s, st, m).2.1 + c) = -1 from g), if_neg (show ¬ (s, st, m).1 (6 * (s, st, m).2.1 + c) = -1 from f)]
/-- behind its end nothing comes -/
theorem rjW_end {P C : Int → Int} {sl : Int} {k : Nat} (h : (rjW P C sl k).2.1 = -1) : ∀ n : Nat, k ≤ n → rjW P C sl n = rjW P C sl k
  | 0, g => by rw [Nat.le_zero.mp g]
  | n + 1, g => by
    rcases Nat.lt_or_ge n k with g2 | g2
    · rw [show k = n + 1 by omega]
    · have e := rjW_end h n g2
      show rjW1 P (C (n : Int)) sl (rjW P C sl n) = _
      rw [e]
      exact rjW1_e h
theorem rjW_cg {P Q C D : Int → Int} {sl : Int} {n : Nat} (hP : ∀ t : Int, 0 ≤ t → t < 36 → P t = Q t) (hC : ∀ k : Nat, k < n → C (k : Int) = D (k : Int) ∧ 0 ≤ C (k : Int) ∧ C (k : Int) ≤ 5) : ∀ k : Nat, k ≤ n → rjW P C sl k = rjW Q D sl k ∧ (-1 ≤ (rjW P C sl k).2.1 ∧ (rjW P C sl k).2.1 ≤ 5)
  | 0, _ => ⟨rfl, by show (-1 : Int) ≤ 0 ∧ (0 : Int) ≤ 5; omega⟩
  | k + 1, h => by
    obtain ⟨e, b0, b1⟩ := rjW_cg hP hC k (by omega)
    obtain ⟨c0, c1, c2⟩ := hC k (by omega)
    generalize hx : rjW P C sl k = x at e b0 b1
    obtain ⟨s, st, m⟩ := x
    have b0 : -1 ≤ st := b0
    have b1 : st ≤ 5 := b1
    show rjW1 P (C (k : Int)) sl (rjW P C sl k) = rjW1 Q (D (k : Int)) sl (rjW Q D sl k) ∧ (-1 ≤ (rjW1 P (C (k : Int)) sl (rjW P C sl k)).2.1 ∧ (rjW1 P (C (k : Int)) sl (rjW P C sl k)).2.1 ≤ 5)
    rw [hx, ← e, ← c0]
    by_cases h : st = -1
    · have e1 : ∀ R : Int → Int, rjW1 R (C (k : Int)) sl (s, st, m) = (s, st, m) := fun R => rjW1_e h
      rw [e1, e1]
      exact ⟨rfl, b0, b1⟩
    · have ep := hP (6 * st + C (k : Int)) (by omega) (by omega)
      by_cases g : P (6 * st + C (k : Int)) = -1
      · rw [rjW1_h h g, rjW1_h h (ep.symm.trans g)]
        exact ⟨rfl, by show (-1 : Int) ≤ -1 ∧ (-1 : Int) ≤ 5; omega⟩
      · have g2 : Q (6 * st + C (k : Int)) ≠ -1 := fun z => g (ep.trans z)
        by_cases f : s (6 * st + C (k : Int)) = -1
        · rw [rjW1_n h g f, rjW1_n h g2 f, ep]
          exact ⟨rfl, by show -1 ≤ Q (6 * st + C (k : Int)) % 6 ∧ Q (6 * st + C (k : Int)) % 6 ≤ 5; omega⟩
        · rw [rjW1_o h g f, rjW1_o h g2 f, ep]
          exact ⟨rfl, by show -1 ≤ Q (6 * st + C (k : Int)) % 6 ∧ Q (6 * st + C (k : Int)) % 6 ≤ 5; omega⟩
/-- who is watched, who learns -/
def rjdWh (S0 : Nat → Int → Int) (pl le a b : Int) (P : Int → Int) : Prop := pl = 23 + 3 * a ∧ le = 23 + 3 * b ∧ (0 ≤ a ∧ a ≤ 17) ∧ (0 ≤ b ∧ b ≤ 17) ∧ a ≠ b ∧ rjdRw S0 a P ∧ rjdRw S0 b rjHs
theorem rjd_ho {S : Nat → Int → Int} {a : Int} (h : ∀ t : Int, 0 ≤ t → t < 36 → S (24 + 3 * a).toNat t = -1 ∧ S (25 + 3 * a).toNat t = -1) : rjdRw S a rjHs := fun t t0 t1 => by
  have e : rjHs t = -1 := rjSc_in (R := fun _ => -1) (b := 0) t0 t1
  obtain ⟨x, y⟩ := h t t0 t1
  rw [e]
  exact ⟨⟨by decide, by decide⟩, x.trans (if_pos rfl).symm, y.trans (if_pos rfl).symm⟩
theorem rjW_fn {P C D : Int → Int} {sl : Int} {n : Nat} (h : ∀ k : Nat, k < n → C (k : Int) = D (k : Int)) : ∀ k : Nat, k ≤ n → rjW P C sl k = rjW P D sl k
  | 0, _ => rfl
  | k + 1, hk => by
    show rjW1 P (C (k : Int)) sl (rjW P C sl k) = rjW1 P (D (k : Int)) sl (rjW P D sl k)
    rw [rjW_fn h k (by omega), h k (by omega)]
