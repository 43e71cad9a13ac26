/-! THE LAW IN FORCE: none, or one of those that there are; of images where they are kept -/
def rkFu (R : Int → Int) : Prop := R 4 = -1 ∨ (0 ≤ R 4 ∧ R 4 < R 3)
theorem rkFu_r {R R' : Int → Int} (h : rkFu R) (e3 : R' 3 = R 3) (e4 : R' 4 = R 4) : rkFu R' := by
  unfold rkFu at h ⊢
  rw [e3, e4]
  exact h
def rkFx (S : Nat → Int → Int) (j : Int) : Int := S 483 (6180 + j)
def rkFv (S : Nat → Int → Int) : Prop := rkFu (S 482) ∧ (S 410 0 = 0 ∨ rkFu (S 483)) ∧ (S 410 1 = 0 ∨ rkFu (rkFx S))
def rkFvi0 (S : Nat → Int → Int) : Prop := rkFu (S 482) ∧ (S 410 1 = 0 ∨ rkFu (rkFx S))
def rkFvi1 (S : Nat → Int → Int) : Prop := rkFu (S 482) ∧ (S 410 0 = 0 ∨ rkFu (S 483))
def rkFvb0 (S : Nat → Int → Int) : Prop := rkFu (S 483) ∧ (S 410 0 = 0 ∨ rkFu (S 483)) ∧ (S 410 1 = 0 ∨ rkFu (rkFx S))
def rkFvb1 (S : Nat → Int → Int) : Prop := rkFu (rkFx S) ∧ (S 410 0 = 0 ∨ rkFu (S 483)) ∧ (S 410 1 = 0 ∨ rkFu (rkFx S))
section RKFV
variable {S S_p : Nat → Int → Int}
theorem rkFx_e (r : ∀ j : Int, 6180 ≤ j → j < 12360 → S_p 483 j = S 483 j) (h : rkFu (rkFx S)) : rkFu (rkFx S_p) := rkFu_r h (r _ (by omega) (by omega)) (r _ (by omega) (by omega))
theorem rkFy_e (r : ∀ j : Int, 0 ≤ j → j < 6180 → S_p 483 j = S 483 j) (h : rkFu (S 483)) : rkFu (S_p 483) := rkFu_r h (r _ (by omega) (by omega)) (r _ (by omega) (by omega))
theorem rkFk0 (k0 : S_p 410 0 = S 410 0) (r : ∀ j : Int, 0 ≤ j → j < 6180 → S_p 483 j = S 483 j) (h : S 410 0 = 0 ∨ rkFu (S 483)) : S_p 410 0 = 0 ∨ rkFu (S_p 483) := h.imp (fun g => k0.trans g) (rkFy_e r)
theorem rkFk1 (k1 : S_p 410 1 = S 410 1) (r : ∀ j : Int, 6180 ≤ j → j < 12360 → S_p 483 j = S 483 j) (h : S 410 1 = 0 ∨ rkFu (rkFx S)) : S_p 410 1 = 0 ∨ rkFu (rkFx S_p) := h.imp (fun g => k1.trans g) (rkFx_e r)
theorem rkFv_e (h : rkFv S) (e3 : S_p 482 3 = S 482 3) (e4 : S_p 482 4 = S 482 4) (r : ∀ j : Int, 0 ≤ j → j < 12360 → S_p 483 j = S 483 j) (k0 : S_p 410 0 = S 410 0) (k1 : S_p 410 1 = S 410 1) : rkFv S_p :=
  ⟨rkFu_r h.1 e3 e4, rkFk0 k0 (fun j a b => r j a (by omega)) h.2.1, rkFk1 k1 (fun j a b => r j (by omega) b) h.2.2⟩
/-- a change of the law in force, of how many there are -/
theorem rkFv_u (h : rkFv S) (u : rkFu (S_p 482)) (r : ∀ j : Int, 0 ≤ j → j < 12360 → S_p 483 j = S 483 j) (k0 : S_p 410 0 = S 410 0) (k1 : S_p 410 1 = S 410 1) : rkFv S_p :=
  ⟨u, rkFk0 k0 (fun j a b => r j a (by omega)) h.2.1, rkFk1 k1 (fun j a b => r j (by omega) b) h.2.2⟩
theorem rkFv_i0 (h : rkFv S) (e3 : S_p 482 3 = S 482 3) (e4 : S_p 482 4 = S 482 4) (r : ∀ j : Int, 0 ≤ j → j < 12360 → S_p 483 j = S 483 j) (k1 : S_p 410 1 = S 410 1) : rkFvi0 S_p := ⟨rkFu_r h.1 e3 e4, rkFk1 k1 (fun j a b => r j (by omega) b) h.2.2⟩
theorem rkFv_i1 (h : rkFv S) (e3 : S_p 482 3 = S 482 3) (e4 : S_p 482 4 = S 482 4) (r : ∀ j : Int, 0 ≤ j → j < 12360 → S_p 483 j = S 483 j) (k0 : S_p 410 0 = S 410 0) : rkFvi1 S_p := ⟨rkFu_r h.1 e3 e4, rkFk0 k0 (fun j a b => r j a (by omega)) h.2.1⟩
theorem rkFv_j0 (h : rkFvi0 S) (e3 : S_p 482 3 = S 482 3) (e4 : S_p 482 4 = S 482 4) (c1 : ∀ j : Int, 0 ≤ j → j < 6180 → S_p 483 j = S 482 j) (c2 : ∀ j : Int, 6180 ≤ j → S_p 483 j = S 483 j) (k1 : S_p 410 1 = S 410 1) : rkFv S_p := ⟨rkFu_r h.1 e3 e4, Or.inr (rkFu_r h.1 (c1 _ (by omega) (by omega)) (c1 _ (by omega) (by omega))), rkFk1 k1 (fun j a b => c2 j a) h.2⟩
theorem rkFv_j1 (h : rkFvi1 S) (e3 : S_p 482 3 = S 482 3) (e4 : S_p 482 4 = S 482 4) (c1 : ∀ j : Int, 0 ≤ j → j < 6180 → S_p 483 (6180 + j) = S 482 j) (c2 : ∀ j : Int, j < 6180 → S_p 483 j = S 483 j) (k0 : S_p 410 0 = S 410 0) : rkFv S_p := ⟨rkFu_r h.1 e3 e4, rkFk0 k0 (fun j a b => c2 j b) h.2, Or.inr (rkFu_r h.1 (c1 _ (by omega) (by omega)) (c1 _ (by omega) (by omega)))⟩
theorem rkFv_b0 (h : rkFv S) (z : S 410 0 ≠ 0) (r : ∀ j : Int, 0 ≤ j → j < 12360 → S_p 483 j = S 483 j) (k0 : S_p 410 0 = S 410 0) (k1 : S_p 410 1 = S 410 1) : rkFvb0 S_p := ⟨rkFy_e (fun j a b => r j a (by omega)) (h.2.1.resolve_left z), rkFk0 k0 (fun j a b => r j a (by omega)) h.2.1, rkFk1 k1 (fun j a b => r j (by omega) b) h.2.2⟩
theorem rkFv_b1 (h : rkFv S) (z : S 410 1 ≠ 0) (r : ∀ j : Int, 0 ≤ j → j < 12360 → S_p 483 j = S 483 j) (k0 : S_p 410 0 = S 410 0) (k1 : S_p 410 1 = S 410 1) : rkFvb1 S_p := ⟨rkFx_e (fun j a b => r j (by omega) b) (h.2.2.resolve_left z), rkFk0 k0 (fun j a b => r j a (by omega)) h.2.1, rkFk1 k1 (fun j a b => r j (by omega) b) h.2.2⟩
theorem rkFv_k0 (h : rkFvb0 S) (r : ∀ j : Int, 0 ≤ j → j < 6180 → S_p 482 j = S 483 j) (c3 : ∀ j : Int, 0 ≤ j → j < 12360 → S_p 483 j = S 483 j) (k0 : S_p 410 0 = S 410 0) (k1 : S_p 410 1 = S 410 1) : rkFv S_p := ⟨rkFu_r h.1 (r _ (by omega) (by omega)) (r _ (by omega) (by omega)), rkFk0 k0 (fun j a b => c3 j a (by omega)) h.2.1, rkFk1 k1 (fun j a b => c3 j (by omega) b) h.2.2⟩
theorem rkFv_k1 (h : rkFvb1 S) (r : ∀ j : Int, 0 ≤ j → j < 6180 → S_p 482 j = S 483 (6180 + j)) (c3 : ∀ j : Int, 0 ≤ j → j < 12360 → S_p 483 j = S 483 j) (k0 : S_p 410 0 = S 410 0) (k1 : S_p 410 1 = S 410 1) : rkFv S_p := ⟨rkFu_r h.1 (r _ (by omega) (by omega)) (r _ (by omega) (by omega)), rkFk0 k0 (fun j a b => c3 j a (by omega)) h.2.1, rkFk1 k1 (fun j a b => c3 j (by omega) b) h.2.2⟩
theorem rkFv_sm {ms : List (Nat × Nat)} (hs : bx_same rxL (bx_mdl ms) S S_p) (hk : [(1063, 5), (1063, 6), (1031, 0), (1064, 0), (1064, 1)].all (fun q => !(bx_mdl ms q.1 q.2)) = true) (h : rkFv S) : rkFv S_p := by
  have f : ∀ a b : Nat, (a, b) ∈ [(1063, 5), (1063, 6), (1031, 0), (1064, 0), (1064, 1)] → bx_mdl ms a b = false := fun a b hm => by
    have := List.all_eq_true.mp hk (a, b) hm
    rw [Bool.not_eq_true'] at this
    exact this
  exact rkFv_e h (hs 482 3 (by decide) (by decide) (f _ _ (by decide))) (hs 482 4 (by decide) (by decide) (f _ _ (by decide))) (fun j a b => rx_same64 (f _ _ (by decide)) (f _ _ (by decide)) hs a b) (hs 410 0 (by decide) (by decide) (f _ _ (by decide))) (hs 410 1 (by decide) (by decide) (f _ _ (by decide)))
end RKFV
theorem rkFv_st : rkFv rzS := by
  have e4 : rzS 482 4 = -1 := by decide +kernel
  exact ⟨Or.inl e4, Or.inl (by decide +kernel), Or.inl (by decide +kernel)⟩
