/-! LAW: a text more in both -/
/-- behind the developers' law, ahead of the reference's -/
def rkKTl (S : Nat → Int → Int) : Prop := rkPl S ∧ rkKq (S 482) S 77 ∧ (S 410 0 = 0 ∨ rkKq (S 483) S 214) ∧ (S 410 1 = 0 ∨ rkKq (fun j => S 483 (6180 + j)) S 350) ∧ ∃ L : List rkQ, rkText false (rzCut (S 485)) (S 480 8) L ∧ rkHl S (77 + 10 * (S 482 3).toNat) L
section RKJ
variable {S0 S : Nat → Int → Int}
/-- no text came, the others stay -/
theorem rkKT_la0 (h : rkKT S0) (hl : rkPl S) (hd : rkOe S0 S) (r : ∀ j : Int, 0 ≤ j → j < 6180 → S 482 j = S0 482 j) (r3 : ∀ j : Int, 0 ≤ j → j < 12360 → S 483 j = S0 483 j) (k0 : S 410 0 = S0 410 0) (k1 : S 410 1 = S0 410 1) : rkKT S := by
  obtain ⟨-, h1, h2, h3⟩ := h
  have e : ∀ {b : Nat}, (b = 77 ∨ b = 214 ∨ b = 350) → ∀ k : Nat, k < 6 → tqEq S0 S (b + 10 * k) := fun hb k hk => tqEq_oe hb hk fun p i _ _ hp ho => hd p i hp ho
  refine ⟨hl, rkKq_r (rkKq_e h1 (e (Or.inl rfl))) r, ?_, ?_⟩
  · rw [k0]
    exact h2.imp id fun g => rkKq_r (rkKq_e g (e (Or.inr (Or.inl rfl)))) fun j a b => r3 j a (by omega)
  · rw [k1]
    exact h3.imp id fun g => rkKq_r (rkKq_e g (e (Or.inr (Or.inr rfl)))) fun j a b => r3 _ (by omega) (by omega)
theorem rkKT_la (h : rkKT S0) (hl : rkPl S) (hd : rkLd8 S0 S) (hn : S0 1 14 = S0 482 3) (r : ∀ j : Int, 0 ≤ j → j < 6180 → S 482 j = S0 482 j) (r3 : ∀ j : Int, 0 ≤ j → j < 12360 → S 483 j = S0 483 j) (k0 : S 410 0 = S0 410 0) (k1 : S 410 1 = S0 410 1) (cT : rzCut (S 485) = rzCut (S0 411)) (cN : S 480 8 = S0 0 4) : rkKTl S := by
  obtain ⟨-, h1, h2, h3⟩ := h
  obtain ⟨i, i6, hi, ⟨L, t1, t2⟩, ho⟩ := hd
  have e : ∀ {b : Nat}, (b = 77 ∨ b = 214 ∨ b = 350) → ∀ k : Nat, k < 6 → (b = 77 → k ≠ i) → tqEq S0 S (b + 10 * k) := fun {b} hb k hk hne => tqEq_oe hb hk fun p q a b_p hp ho' => ho p q hp (by
    rcases hb with rfl | rfl | rfl
    · have := hne rfl
      omega
    · omega
    · omega) (tqOk_x ho').2.1
  refine ⟨hl, fun k x y => ?_, ?_, ?_, L, by rw [cT, cN]; exact t1, ?_⟩
  · have e3 : S 482 3 = S0 482 3 := r 3 (by omega) (by omega)
    rw [e3] at x
    obtain ⟨L', g1, g2, g3⟩ := h1 k x y
    exact ⟨L', rkTr_cg g1 fun j a b => r j (by omega) (by omega), rkHl_eq g2 (e (Or.inl rfl) k y (fun _ => by omega)), g3⟩
  · rw [k0]
    exact h2.imp id fun g => rkKq_r (rkKq_e g fun k hk => e (Or.inr (Or.inl rfl)) k hk (fun q => absurd q (by decide))) fun j a b => r3 j a (by omega)
  · rw [k1]
    exact h3.imp id fun g => rkKq_r (rkKq_e g fun k hk => e (Or.inr (Or.inr rfl)) k hk (fun q => absurd q (by decide))) fun j a b => r3 _ (by omega) (by omega)
  · rw [r 3 (by omega) (by omega), ← hn, hi]
    exact t2
theorem rkKT_lb (hl : rkPl S0 → rkPl S) (hq : ∀ {R R' : Int → Int} {b : Nat}, (b = 77 ∨ b = 214 ∨ b = 350) → rkKq R S0 b → (∀ j : Int, 0 ≤ j → j < 6180 → R' j = R j) → rkKq R' S b) (hh : ∀ {k : Nat} {L : List rkQ}, k < 6 → rkHl S0 (77 + 10 * k) L → rkHl S (77 + 10 * k) L) (h : rkKTl S0) (h0 : 0 ≤ S0 482 3) (h6 : S0 482 3 < 6) (e3 : S 482 3 = S0 482 3 + 1) (hw : rkLw S0 S) (r3 : ∀ j : Int, 0 ≤ j → j < 12360 → S 483 j = S0 483 j) (k0 : S 410 0 = S0 410 0) (k1 : S 410 1 = S0 410 1) : rkKT S := by
  obtain ⟨g0, g1, g2, g3, L, t1, t2⟩ := h
  rcases hw with ⟨w, -⟩ | ⟨-, w, L', u1, u2⟩
  · omega
  · have eL : L = L' := rkTx_det t1 u1
    subst eL
    refine ⟨hl g0, fun k x y => ?_, ?_, ?_⟩
    · by_cases hk : (k : Int) < S0 482 3
      · obtain ⟨L', v1, v2, v3⟩ := g1 k hk y
        exact ⟨L', rkTr_cg v1 fun j a b => w j (by omega) (by omega) (by omega) (by omega), hh y v2, v3⟩
      · have ek : (k : Int) = S0 482 3 := by omega
        refine ⟨L, by rw [ek]; exact u2, ?_, rkText_ln u1⟩
        rw [show (S0 482 3).toNat = k by omega] at t2
        exact hh y t2
    · rw [k0]
      exact g2.imp id fun g => hq (Or.inr (Or.inl rfl)) g fun j a b => r3 j a (by omega)
    · rw [k1]
      exact g3.imp id fun g => hq (Or.inr (Or.inr rfl)) g fun j a b => r3 _ (by omega) (by omega)
end RKJ
/-- a text stays where its kinds aren't changed -/
theorem rkHl_sm {ms : List (Nat × Nat)} {S S_p : Nat → Int → Int} (hs : bx_same rxL (bx_mdl ms) S S_p) (hk : tqKs.all (fun q => !(bx_mdl ms q.1 q.2)) = true) {k : Nat} {L : List rkQ} (h6 : k < 6) (h : rkHl S (77 + 10 * k) L) : rkHl S_p (77 + 10 * k) L := rkHl_eq h (tqEq_sm hs hk (rkPg_in (Or.inl rfl) h6))
