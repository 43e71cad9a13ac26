/-! PROGRAMS AS OBJECTS: where a program's rows lie; one is copied; what it holds -/
/-- its three rows that only pointers tell -/
def rkPq (S : Nat → Int → Int) (t : Nat) : Prop := S t 8 = (t : Int) + 7 ∧ S t 9 = (t : Int) + 8 ∧ S t 10 = (t : Int) + 9
/-- t is as s was, nothing else is changed -/
def rkQc (S0 S : Nat → Int → Int) (t s : Nat) : Prop := S t 0 = S0 s 0 ∧ S t 4 = S0 s 4 ∧ (∀ j : Int, 0 ≤ j → j < 400 → S (t + 1) j = S0 (s + 1) j) ∧ (∀ j : Int, 0 ≤ j → j < 400 → S (t + 2) j = S0 (s + 2) j) ∧ (∀ j : Int, 0 ≤ j → j < 12 → S (t + 4) j = S0 (s + 4) j) ∧ (∀ j : Int, 0 ≤ j → j < 12 → S (t + 5) j = S0 (s + 5) j) ∧ (∀ j : Int, 0 ≤ j → j < 12 → S (t + 6) j = S0 (s + 6) j) ∧ (∀ j : Int, 0 ≤ j → j < 12 → S (t + 7) j = S0 (s + 7) j) ∧ (∀ j : Int, 0 ≤ j → j < 12 → S (t + 8) j = S0 (s + 8) j) ∧ (∀ j : Int, 0 ≤ j → j < 12 → S (t + 9) j = S0 (s + 9) j) ∧ (∀ (p : Nat) (j : Int), p ≠ t → p ≠ t + 1 → p ≠ t + 2 → p ≠ t + 4 → p ≠ t + 5 → p ≠ t + 6 → p ≠ t + 7 → p ≠ t + 8 → p ≠ t + 9 → S p j = S0 p j) ∧ ∀ j : Int, j ≠ 0 → j ≠ 4 → S t j = S0 t j
/-- the state as the program t shows it -/
def rkAt (S : Nat → Int → Int) (t : Nat) : Nat → Int → Int := fun p j => S (p + t - 427) j
theorem rkAt_427 {S : Nat → Int → Int} : rkAt S 427 = S := by
  funext p j
  show S (p + 427 - 427) j = S p j
  rw [Nat.add_sub_cancel]
theorem rkAt_p {S : Nat → Int → Int} {t p : Nat} (h : 427 ≤ p) (j : Int) : rkAt S t p j = S (t + (p - 427)) j := by
  show S (p + t - 427) j = _
  rw [show p + t - 427 = t + (p - 427) by omega]
/-- program t holds these clauses -/
def rkHl (S : Nat → Int → Int) (t : Nat) (L : List rkQ) : Prop := S t 4 = (L.length : Int) ∧ (L.length : Int) ≤ 12 ∧ S t 0 ≤ 400 ∧ rkPd (rkAt S t) 0 L
/-- how one of its rows' slots may be told anew -/
theorem rkPd_cg {S S_p : Nat → Int → Int} (z : S_p 427 0 = S 427 0) (r1 : ∀ j : Int, 0 ≤ j → j < S 427 0 → S_p 428 j = S 428 j ∧ S_p 429 j = S 429 j) (r2 : ∀ p : Nat, 431 ≤ p → p ≤ 436 → ∀ j : Int, 0 ≤ j → j < 12 → S_p p j = S p j) {L : List rkQ} (hl : (L.length : Int) ≤ 12) (h : rkPd S 0 L) : rkPd S_p 0 L :=
  rkPd_fr (c := 12) (fun i a b => r1 i a b) (by omega) (fun p a b i x y => r2 p a b i x y) (Int.le_refl 0) (by omega) h
theorem rkHl_cp {S0 S : Nat → Int → Int} {t s : Nat} {L : List rkQ} (h : rkHl S0 s L) (q : rkQc S0 S t s) : rkHl S t L := by
  obtain ⟨h1, h2, h3, h4⟩ := h
  obtain ⟨q0, q4, r1, r2, k4, k5, k6, k7, k8, k9, -, -⟩ := q
  have a0 : rkAt S t 427 0 = S t 0 := (rkAt_p (Nat.le_refl 427) 0).trans rfl
  have b0 : rkAt S0 s 427 0 = S0 s 0 := (rkAt_p (Nat.le_refl 427) 0).trans rfl
  refine ⟨q4.trans h1, h2, by omega, rkPd_cg (S := rkAt S0 s) (a0.trans (q0.trans b0.symm)) (fun j x y => ?_) (fun p a b j x y => ?_) h2 h4⟩
  · rw [b0] at y
    rw [rkAt_p (by omega), rkAt_p (by omega), rkAt_p (by omega), rkAt_p (by omega)]
    exact ⟨r1 j x (by omega), r2 j x (by omega)⟩
  · rw [rkAt_p (by omega), rkAt_p (by omega)]
    have e : p = 431 ∨ p = 432 ∨ p = 433 ∨ p = 434 ∨ p = 435 ∨ p = 436 := by omega
    rcases e with rfl | rfl | rfl | rfl | rfl | rfl
    · exact k4 j x y
    · exact k5 j x y
    · exact k6 j x y
    · exact k7 j x y
    · exact k8 j x y
    · exact k9 j x y
/-- another program stays -/
theorem rkHl_ot {S0 S : Nat → Int → Int} {t s u : Nat} {L : List rkQ} (h : rkHl S0 u L) (q : rkQc S0 S t s) (hu : u + 10 ≤ t ∨ t + 10 ≤ u) : rkHl S u L := by
  obtain ⟨h1, h2, h3, h4⟩ := h
  obtain ⟨-, -, -, -, -, -, -, -, -, -, f, -⟩ := q
  have e : ∀ (p : Nat) (j : Int), 427 ≤ p → p ≤ 436 → rkAt S u p j = rkAt S0 u p j := fun p j a b => by
    rw [rkAt_p a, rkAt_p a]
    exact f _ j (by omega) (by omega) (by omega) (by omega) (by omega) (by omega) (by omega) (by omega) (by omega)
  have f0 : ∀ j : Int, S u j = S0 u j := fun j => f u j (by omega) (by omega) (by omega) (by omega) (by omega) (by omega) (by omega) (by omega) (by omega)
  exact ⟨(f0 4).trans h1, h2, by rw [f0 0]; exact h3, rkPd_cg (S := rkAt S0 u) (e 427 0 (by omega) (by omega)) (fun j x y => ⟨e 428 j (by omega) (by omega), e 429 j (by omega) (by omega)⟩) (fun p a b j x y => e p j (by omega) (by omega)) h2 h4⟩
theorem rkPq_cp {S0 S : Nat → Int → Int} {t s u : Nat} (h : rkPq S0 u) (q : rkQc S0 S t s) (hu : u = t ∨ u + 10 ≤ t ∨ t + 10 ≤ u) : rkPq S u := by
  obtain ⟨-, -, -, -, -, -, -, -, -, -, f, o⟩ := q
  rcases hu with rfl | hu
  · exact ⟨(o 8 (by omega) (by omega)).trans h.1, (o 9 (by omega) (by omega)).trans h.2.1, (o 10 (by omega) (by omega)).trans h.2.2⟩
  · have f0 : ∀ j : Int, S u j = S0 u j := fun j => f u j (by omega) (by omega) (by omega) (by omega) (by omega) (by omega) (by omega) (by omega) (by omega)
    exact ⟨(f0 8).trans h.1, (f0 9).trans h.2.1, (f0 10).trans h.2.2⟩
/-- a town's texts: where they are -/
def rkTl (S : Nat → Int → Int) (row b : Nat) : Prop := ∀ i : Nat, i < 6 → S row (i : Int) = ((b + 10 * i : Nat) : Int) ∧ rkPq S (b + 10 * i)
/-- all that is told of places -/
def rkPf (S : Nat → Int → Int) : Prop := rkPq S 427 ∧ rkTl S 20 77 ∧ rkTl S 157 214 ∧ rkTl S 293 350
