noncomputable def rxLc (S : Nat → Int → Int) : Prop := ∀ k : Int, 0 ≤ k → k < S 480 16 → rxCq S (S 486 (8 * k + 3)) (S 486 (8 * k + 4)) ∧ rxCq S (S 486 (8 * k + 5)) (S 486 (8 * k + 6))
noncomputable def rxRo (S0 S : Nat → Int → Int) : Prop := (∀ j : Int, 0 ≤ j → j < 6180 → S 482 j = S0 482 j) ∧ 0 ≤ S0 482 3 ∧ S0 482 3 ≤ 5
theorem rxRo_of {ms : List (Nat × Nat)} {S0 S S_p : Nat → Int → Int} (h : rxRo S0 S) (hm : bx_same rxL (bx_mdl ms) S S_p) (hx : bx_noG ms 1063 = true) : rxRo S0 S_p := by
  exact ⟨fun j j0 j1 => (rx_sameR hm (p := 482) (tc := 0) (n := 6180) (g := 63) rfl (by omega) hx hx j0 (by omega)).trans (h.1 j j0 j1), h.2⟩
noncomputable def rxLk (S S_p : Nat → Int → Int) : Prop := S_p 480 16 = S 480 16 ∧ S_p 480 18 = S 480 18 ∧ S_p 480 15 = S 480 15 ∧ (∀ j : Int, 0 ≤ j → j < 96 → S_p 486 j = S 486 j) ∧ ∀ j : Int, 0 ≤ j → j < 400 → S_p 487 j = S 487 j ∧ S_p 488 j = S 488 j
theorem rxLk.lc {S S_p : Nat → Int → Int} (h : rxLk S S_p) (hl : rxLc S) (h16 : S 480 16 ≤ 12) (h18 : S 480 18 ≤ 400) : rxLc S_p := fun k k0 k1 => by
  obtain ⟨a1, a2, a3, a4, a5⟩ := h
  rw [a1] at k1
  obtain ⟨b1, b2⟩ := hl k k0 k1
  rw [a4 _ (by omega) (by omega), a4 _ (by omega) (by omega), a4 _ (by omega) (by omega), a4 _ (by omega) (by omega)]
  exact ⟨⟨b1.1, by rw [a2]; exact b1.2.1, rxSeg_cg b1.2.2 fun i i0 i1 => a5 i (by have := b1.1; omega) (by have := b1.2.1; omega)⟩, ⟨b2.1, by rw [a2]; exact b2.2.1, rxSeg_cg b2.2.2 fun i i0 i1 => a5 i (by have := b2.1; omega) (by have := b2.2.1; omega)⟩⟩
theorem rxLk_of {ms : List (Nat × Nat)} {S S_p : Nat → Int → Int} (hm : bx_same rxL (bx_mdl ms) S S_p) (h1 : [(12, 16), (12, 18), (12, 15), (1067, 0), (1067, 1), (1068, 0), (1068, 1), (1069, 0), (1069, 1)].all (fun q => !(bx_mdl ms q.1 q.2)) = true) : rxLk S S_p := by
  have hq : ∀ a b : Nat, (a, b) ∈ [(12, 16), (12, 18), (12, 15), (1067, 0), (1067, 1), (1068, 0), (1068, 1), (1069, 0), (1069, 1)] → bx_mdl ms a b = false := fun a b hb => by
    have := List.all_eq_true.mp h1 (a, b) hb
    rw [Bool.not_eq_true'] at this
    exact this
  refine ⟨rx_sameO hm (p := 480) (j := 16) rfl (by omega) (hq 12 16 (by decide)) (by decide), rx_sameO hm (p := 480) (j := 18) rfl (by omega) (hq 12 18 (by decide)) (by decide), rx_sameO hm (p := 480) (j := 15) rfl (by omega) (hq 12 15 (by decide)) (by decide), fun j j0 j1 => ?_, fun j j0 j1 => ⟨?_, ?_⟩⟩
  · exact rx_sameR2 hm (p := 486) (tc := 0) (n := 96) (g := 67) rfl (by omega) (hq 1067 0 (by decide)) (hq 1067 1 (by decide)) j0 (by omega)
  · exact rx_sameR2 hm (p := 487) (tc := 0) (n := 400) (g := 68) rfl (by omega) (hq 1068 0 (by decide)) (hq 1068 1 (by decide)) j0 (by omega)
  · exact rx_sameR2 hm (p := 488) (tc := 0) (n := 400) (g := 69) rfl (by omega) (hq 1069 0 (by decide)) (hq 1069 1 (by decide)) j0 (by omega)
noncomputable def rxRx (S0 S : Nat → Int → Int) (base : Int) : Prop := (∀ j : Int, 0 ≤ j → j < 6180 → (j < base ∨ base + 900 ≤ j) → S 482 j = S0 482 j) ∧ S 482 (base + 1) = S 480 16 ∧ rxLc S ∧ S 480 15 = 0 ∧ base = 780 + 900 * S0 482 3 ∧ 0 ≤ S0 482 3 ∧ S0 482 3 ≤ 5
theorem rxRx_st {S0 S : Nat → Int → Int} {base a v : Int} (h : rxRx S0 S base) (h16 : S 480 16 ≤ 12) (h18 : S 480 18 ≤ 400) (a0 : base + 2 ≤ a) (a1 : a < base + 900) : rxRx S0 (bx_up S 482 a v) base := by
  obtain ⟨h1, h2, h3, h4, h5, h6, h7⟩ := h
  have e : ∀ i : Int, bx_up S 482 a v 480 i = S 480 i := fun i => by rw [bx_up_row (by omega)]
  refine ⟨fun j j0 j1 j2 => ?_, ?_, ?_, (e _).trans h4, h5, h6, h7⟩
  · rw [bx_up_ne (by omega)]
    exact h1 j j0 j1 j2
  · rw [bx_up_ne (by omega), e]
    exact h2
  · exact rxLk.lc (S := S) ⟨e _, e _, e _, fun j _ _ => by rw [bx_up_row (by omega)], fun j _ _ => ⟨by rw [bx_up_row (by omega)], by rw [bx_up_row (by omega)]⟩⟩ h3 h16 h18
theorem rxTq_row {S0 S : Nat → Int → Int} {base : Int} (h0 : rxTq (S0 482)) (h : rxRx S0 S base) (hc : ∀ j : Int, 0 ≤ j → j < 8 * S 480 16 → S 482 (base + 2 + j) = S 486 j) (ho : ∀ j : Int, 0 ≤ j → j < S 480 18 → S 482 (base + 98 + 2 * j) = S 487 j ∧ S 482 (base + 98 + 2 * j + 1) = S 488 j) (h18 : S 480 18 ≤ 400) : rxTq (S 482) := fun n k n0 n5 k0 k1 k2 => by
  obtain ⟨a1, a2, a3, a4, a5, a6, a7⟩ := h
  by_cases hn : n = S0 482 3
  · subst hn
    rw [← a5] at k1 ⊢
    rw [a2] at k1
    obtain ⟨b1, b2⟩ := a3 k k0 k1
    have e : ∀ c : Int, 0 ≤ c → c < 8 → S 482 (base + 2 + 8 * k + c) = S 486 (8 * k + c) := fun c c0 c1 => by
      rw [show base + 2 + 8 * k + c = base + 2 + (8 * k + c) by omega]
      exact hc (8 * k + c) (by omega) (by omega)
    rw [e 3 (by omega) (by omega), e 4 (by omega) (by omega), e 5 (by omega) (by omega), e 6 (by omega) (by omega)]
    exact ⟨⟨b1.1, by have := b1.2.1; omega, rxSeg_cg b1.2.2 fun i i0 i1 => ho i (by have := b1.1; omega) (by have := b1.2.1; omega)⟩, ⟨b2.1, by have := b2.2.1; omega, rxSeg_cg b2.2.2 fun i i0 i1 => ho i (by have := b2.1; omega) (by have := b2.2.1; omega)⟩⟩
  · have hb : ∀ i : Int, 780 + 900 * n ≤ i → i < 780 + 900 * n + 900 → S 482 i = S0 482 i := fun i i0 i1 => a1 i (by omega) (by omega) (by omega)
    rw [hb (780 + 900 * n + 1) (by omega) (by omega)] at k1
    obtain ⟨b1, b2⟩ := h0 n k n0 n5 k0 k1 k2
    rw [hb (780 + 900 * n + 2 + 8 * k + 3) (by omega) (by omega), hb (780 + 900 * n + 2 + 8 * k + 4) (by omega) (by omega), hb (780 + 900 * n + 2 + 8 * k + 5) (by omega) (by omega), hb (780 + 900 * n + 2 + 8 * k + 6) (by omega) (by omega)]
    exact ⟨rxCl_cg b1 (by omega) hb, rxCl_cg b2 (by omega) hb⟩
theorem rxCv0 : (List.range 6).all (fun n => (bx_ssOf rxPl486).all (bx_cov1 rxPl482 (780 + 900 * (n : Int) + 2) 0 95)) = true := by decide +kernel
theorem rxCv {S : Nat → Int → Int} (hI : bx_Inv rxL S) {n i : Int} (n0 : 0 ≤ n) (n5 : n ≤ 5) (i0 : 0 ≤ i) (i1 : i ≤ 95) : bx_okT rxL (rxL.2.2.1 482 (780 + 900 * n + 2 + i)) (S 486 i) := by
  have h := List.all_eq_true.mp rxCv0 n.toNat (List.mem_range.mpr (by omega))
  rw [show ((n.toNat : Nat) : Int) = n by omega] at h
  have h1 := rx_inv hI (p := 486) (j := i) (by omega) rxW486 i0 (by omega) (rxT486 i)
  rw [rxT482, show 780 + 900 * n + 2 + i = i + (780 + 900 * n + 2) by omega]
  exact bx_cov_ok (k := rxPl486.1) (n := rxPl486.2.1) h i0 i1 h1
theorem rxX_img {S0 S : Nat → Int → Int} (h : rxX S0) (hi : ∀ i : Int, 0 ≤ i → i < 12360 → S 483 i = S0 483 i) (hr : rxTq (S 482)) (h15 : S 480 15 = 0) : rxX S :=
  ⟨hr, rxTq_cg h.2.1 fun i i0 i1 => hi i (by omega) (by omega), rxTq_cg h.2.2.1 fun i i0 i1 => hi _ (by omega) (by omega), h15⟩
noncomputable def rxI242_0 (S0 : Nat → Int → Int) (ws : List Int) (S : Nat → Int → Int) : Prop := S = S0 ∧ ws = [480]
noncomputable def rxm242_0 (S0 : Nat → Int → Int) (ws : List Int) (S : Nat → Int → Int) : Nat := 100000000
noncomputable def rxz242_0 : rx_Z := ([(0, 0), (0, 0), (0, 0), (0, 0), (0, 0), (0, 0), (0, 0), (0, 0)], [], [], 0, 0, 0, [(0, .inr (3, (0, 480)))], [])
noncomputable def rxI242_1 (S0 : Nat → Int → Int) (ws : List Int) (S : Nat → Int → Int) : Prop := rxRo S0 S
noncomputable def rxm242_1 (S0 : Nat → Int → Int) (ws : List Int) (S : Nat → Int → Int) : Nat := 300000
noncomputable def rxz242_1 : rx_Z := ([(0, 0), (0, 0), (0, 0), (0, 0), (0, 0), (0, 0), (0, 0), (0, 0)], [], [], 0, 0, 30, [(0, .inr (3, (0, 480)))], [.inr (0, (0, 0)), .inr (3, (0, 480))])
noncomputable def rxI242_2 (S0 : Nat → Int → Int) (ws : List Int) (S : Nat → Int → Int) : Prop := rxRo S0 S ∧ rxTk S ∧ S 480 14 = 0 ∧ S 480 16 = 0 ∧ S 480 18 = 0 ∧ S 480 15 = 0
noncomputable def rxm242_2 (S0 : Nat → Int → Int) (ws : List Int) (S : Nat → Int → Int) : Nat := 290000
noncomputable def rxz242_2 : rx_Z := ([(0, 0), (0, 0), (0, 0), (0, 0), (0, 0), (0, 0), (0, 0), (0, 0)], [], [], 0, 0, 33, [(0, .inr (3, (0, 480)))], [])
noncomputable def rxI242_3 (S0 : Nat → Int → Int) (ws : List Int) (S : Nat → Int → Int) : Prop := rxRo S0 S ∧ rxTk S ∧ S 480 14 = 0 ∧ S 480 16 = 0 ∧ S 480 18 = 0 ∧ S 480 15 = 0
noncomputable def rxm242_3 (S0 : Nat → Int → Int) (ws : List Int) (S : Nat → Int → Int) : Nat := 280000
noncomputable def rxz242_3 : rx_Z := ([(0, 0), (0, 0), (0, 0), (0, 0), (0, 0), (0, 0), (0, 0), (0, 0)], [], [], 0, 0, 34, [(0, .inr (3, (0, 480)))], [.inr (3, (0, 480))])
noncomputable def rxI242_4 (S0 : Nat → Int → Int) (ws : List Int) (S : Nat → Int → Int) : Prop := rxRo S0 S ∧ rxLi S ∧ S 480 15 = 0
noncomputable def rxm242_4 (S0 : Nat → Int → Int) (ws : List Int) (S : Nat → Int → Int) : Nat := 100000 * (1 - S 480 14).toNat + 100 * (200 - S 480 16).toNat + 60
noncomputable def rxz242_4 : rx_Z := ([(0, 0), (0, 0), (0, 0), (0, 0), (0, 0), (0, 0), (0, 0), (0, 0)], [], [], 0, 0, 37, [(0, .inr (3, (0, 480)))], [])
noncomputable def rxI242_5 (S0 : Nat → Int → Int) (ws : List Int) (S : Nat → Int → Int) : Prop := rxRo S0 S ∧ rxLi S ∧ S 480 15 = 0
noncomputable def rxm242_5 (S0 : Nat → Int → Int) (ws : List Int) (S : Nat → Int → Int) : Nat := 100000 * (1 - S 480 14).toNat + 100 * (200 - S 480 16).toNat + 50
noncomputable def rxz242_5 : rx_Z := ([(0, 0), (0, 0), (0, 0), (0, 0), (0, 0), (0, 0), (0, 0), (0, 0)], [], [], 0, 0, 37, [(0, .inr (3, (0, 480)))], [])
noncomputable def rxI242_6 (S0 : Nat → Int → Int) (ws : List Int) (S : Nat → Int → Int) : Prop := rxRo S0 S ∧ rxLi S ∧ S 480 15 = 0 ∧ S 480 14 = 0
noncomputable def rxm242_6 (S0 : Nat → Int → Int) (ws : List Int) (S : Nat → Int → Int) : Nat := 100000 * (1 - S 480 14).toNat + 100 * (200 - S 480 16).toNat + 40
noncomputable def rxz242_6 : rx_Z := ([(0, 0), (0, 0), (0, 0), (0, 0), (0, 0), (0, 0), (0, 0), (0, 0)], [], [], 0, 0, 54, [(0, .inr (3, (0, 480)))], [.inr (3, (0, 480))])
noncomputable def rxI242_7 (S0 : Nat → Int → Int) (ws : List Int) (S : Nat → Int → Int) : Prop := rxRo S0 S ∧ rxLi S ∧ S 480 15 = 0 ∧ S 480 14 = 0
noncomputable def rxm242_7 (S0 : Nat → Int → Int) (ws : List Int) (S : Nat → Int → Int) : Nat := 100000 * (1 - S 480 14).toNat + 100 * (200 - S 480 16).toNat + 30
noncomputable def rxz242_7 : rx_Z := ([(0, 0), (0, 0), (0, 0), (0, 0), (0, 0), (0, 0), (0, 0), (0, 0)], [], [], 0, 0, 57, [(0, .inr (3, (0, 480)))], [])
noncomputable def rxI242_8 (S0 : Nat → Int → Int) (ws : List Int) (S : Nat → Int → Int) : Prop := rxRo S0 S ∧ rxLi S ∧ S 480 15 = 0 ∧ S 480 14 = 0
noncomputable def rxm242_8 (S0 : Nat → Int → Int) (ws : List Int) (S : Nat → Int → Int) : Nat := 100000 * (1 - S 480 14).toNat + 100 * (200 - S 480 16).toNat + 20
noncomputable def rxz242_8 : rx_Z := ([(0, 0), (0, 0), (0, 0), (0, 0), (0, 0), (0, 0), (0, 0), (0, 0)], [], [], 0, 0, 58, [(0, .inr (3, (0, 480)))], [.inr (3, (0, 480))])
noncomputable def rxI242_9 (S0 : Nat → Int → Int) (ws : List Int) (S : Nat → Int → Int) : Prop := rxRo S0 S ∧ rxLi S ∧ S 480 15 = 0
noncomputable def rxm242_9 (S0 : Nat → Int → Int) (ws : List Int) (S : Nat → Int → Int) : Nat := 100000 * (1 - S 480 14).toNat + 100 * (200 - S 480 16).toNat + 60
noncomputable def rxz242_9 : rx_Z := ([(0, 0), (0, 0), (0, 0), (0, 0), (0, 0), (0, 0), (0, 0), (0, 0)], [], [], 0, 0, 61, [(0, .inr (3, (0, 480)))], [])
noncomputable def rxI242_10 (S0 : Nat → Int → Int) (ws : List Int) (S : Nat → Int → Int) : Prop := rxRo S0 S ∧ rxLi S ∧ S 480 15 = 0
noncomputable def rxm242_10 (S0 : Nat → Int → Int) (ws : List Int) (S : Nat → Int → Int) : Nat := 18000
noncomputable def rxz242_10 : rx_Z := ([(0, 0), (0, 0), (0, 0), (0, 0), (0, 0), (0, 0), (0, 0), (0, 0)], [], [], 0, 0, 65, [(0, .inr (3, (0, 480)))], [.inr (3, (0, 480))])
noncomputable def rxI242_11 (S0 : Nat → Int → Int) (ws : List Int) (S : Nat → Int → Int) : Prop := rxRo S0 S ∧ S 480 15 = 0 ∧ (S 480 14 = 0 → rxLc S)
noncomputable def rxm242_11 (S0 : Nat → Int → Int) (ws : List Int) (S : Nat → Int → Int) : Nat := 17999
noncomputable def rxz242_11 : rx_Z := ([(0, 0), (0, 0), (0, 0), (0, 0), (0, 0), (0, 0), (0, 0), (0, 0)], [], [], 0, 0, 68, [(0, .inr (3, (0, 480)))], [])
noncomputable def rxI242_12 (S0 : Nat → Int → Int) (ws : List Int) (S : Nat → Int → Int) (n3 : Int) : Prop := n3 = S0 482 3 ∧ rxRo S0 S ∧ S 480 15 = 0 ∧ rxLc S
noncomputable def rxm242_12 (S0 : Nat → Int → Int) (ws : List Int) (S : Nat → Int → Int) (n3 : Int) : Nat := 17998
noncomputable def rxz242_12 : rx_Z := ([(0, 0), (0, 0), (0, 0), (0, 0), (0, 0), (0, 0), (0, 0), (0, 0), (0, 5)], [], [], 0, 0, 94, [(0, .inr (3, (0, 480)))], [.inr (0, (8, 0)), .inr (0, (0, 900)), .inr (0, (0, 780))])
noncomputable def rxI242_13 (S0 : Nat → Int → Int) (ws : List Int) (S : Nat → Int → Int) (base a v : Int) : Prop := a = base + 1 ∧ v = S 480 16 ∧ base = 780 + 900 * S0 482 3 ∧ rxRo S0 S ∧ S 480 15 = 0 ∧ rxLc S
noncomputable def rxm242_13 (S0 : Nat → Int → Int) (ws : List Int) (S : Nat → Int → Int) (base a v : Int) : Nat := 17997
noncomputable def rxz242_13 : rx_Z := ([(0, 0), (0, 0), (0, 0), (0, 0), (0, 0), (0, 0), (0, 0), (0, 0), (780, 5280), (781, 5281), (0, 12)], [], [], 0, 0, 108, [(0, .inr (3, (0, 480))), (1, .inr (0, (8, 0)))], [.inr (0, (10, 0)), .inr (0, (9, 0)), .inr (3, (0, 482))])
noncomputable def rxI242_14 (S0 : Nat → Int → Int) (ws : List Int) (S : Nat → Int → Int) (base a v : Int) : Prop := rxRx S0 S base
noncomputable def rxm242_14 (S0 : Nat → Int → Int) (ws : List Int) (S : Nat → Int → Int) (base a v : Int) : Nat := 17996
noncomputable def rxz242_14 : rx_Z := ([(0, 0), (0, 0), (0, 0), (0, 0), (0, 0), (0, 0), (0, 0), (0, 0), (780, 5280), (781, 5281), (0, 12)], [], [], 0, 0, 109, [(0, .inr (3, (0, 480))), (1, .inr (0, (8, 0)))], [])
noncomputable def rxI242_15 (S0 : Nat → Int → Int) (ws : List Int) (S : Nat → Int → Int) (base i : Int) : Prop := rxRx S0 S base ∧ i ≤ 8 * S 480 16 ∧ (∀ j : Int, 0 ≤ j → j < i → S 482 (base + 2 + j) = S 486 j)
noncomputable def rxm242_15 (S0 : Nat → Int → Int) (ws : List Int) (S : Nat → Int → Int) (base i : Int) : Nat := 10000 + 10 * (100 - i).toNat + 5
noncomputable def rxz242_15 : rx_Z := ([(0, 0), (0, 0), (0, 0), (0, 0), (0, 0), (0, 0), (0, 0), (0, 0), (780, 5280), (0, 96)], [], [], 0, 0, 111, [(0, .inr (3, (0, 480))), (1, .inr (0, (8, 0))), (2, .inr (0, (9, 0)))], [])
noncomputable def rxI242_16 (S0 : Nat → Int → Int) (ws : List Int) (S : Nat → Int → Int) (base i a v : Int) : Prop := a = base + 2 + i ∧ v = S 486 i ∧ i < 8 * S 480 16 ∧ rxRx S0 S base ∧ (∀ j : Int, 0 ≤ j → j < i → S 482 (base + 2 + j) = S 486 j)
noncomputable def rxm242_16 (S0 : Nat → Int → Int) (ws : List Int) (S : Nat → Int → Int) (base i a v : Int) : Nat := 10000 + 10 * (100 - i).toNat + 4
noncomputable def rxz242_16 : rx_Z := ([(0, 0), (0, 0), (0, 0), (0, 0), (0, 0), (0, 0), (0, 0), (0, 0), (780, 5280), (0, 95), (782, 5377), (0, 400)], [], [], 0, 0, 137, [(0, .inr (3, (0, 480))), (1, .inr (0, (8, 0))), (2, .inr (0, (9, 0)))], [.inr (0, (11, 0)), .inr (0, (10, 0)), .inr (3, (0, 482))])
noncomputable def rxI242_17 (S0 : Nat → Int → Int) (ws : List Int) (S : Nat → Int → Int) (base i a v : Int) : Prop := i < 8 * S 480 16 ∧ rxRx S0 S base ∧ (∀ j : Int, 0 ≤ j → j < i + 1 → S 482 (base + 2 + j) = S 486 j)
noncomputable def rxm242_17 (S0 : Nat → Int → Int) (ws : List Int) (S : Nat → Int → Int) (base i a v : Int) : Nat := 10000 + 10 * (100 - i).toNat + 3
noncomputable def rxz242_17 : rx_Z := ([(0, 0), (0, 0), (0, 0), (0, 0), (0, 0), (0, 0), (0, 0), (0, 0), (780, 5280), (0, 95), (782, 5377), (0, 400)], [], [], 0, 0, 138, [(0, .inr (3, (0, 480))), (1, .inr (0, (8, 0))), (2, .inr (0, (9, 0)))], [])
noncomputable def rxI242_18 (S0 : Nat → Int → Int) (ws : List Int) (S : Nat → Int → Int) (base i : Int) : Prop := i ≤ S 480 18 ∧ rxRx S0 S base ∧ (∀ j : Int, 0 ≤ j → j < 8 * S 480 16 → S 482 (base + 2 + j) = S 486 j) ∧ (∀ j : Int, 0 ≤ j → j < i → S 482 (base + 98 + 2 * j) = S 487 j ∧ S 482 (base + 98 + 2 * j + 1) = S 488 j)
noncomputable def rxm242_18 (S0 : Nat → Int → Int) (ws : List Int) (S : Nat → Int → Int) (base i : Int) : Nat := 10 * (500 - i).toNat + 5
noncomputable def rxz242_18 : rx_Z := ([(0, 0), (0, 0), (0, 0), (0, 0), (0, 0), (0, 0), (0, 0), (0, 0), (780, 5280), (0, 400)], [], [], 0, 0, 146, [(0, .inr (3, (0, 480))), (1, .inr (0, (8, 0))), (2, .inr (0, (9, 0)))], [])
noncomputable def rxI242_19 (S0 : Nat → Int → Int) (ws : List Int) (S : Nat → Int → Int) (base i a v : Int) : Prop := a = base + 98 + 2 * i ∧ v = S 487 i ∧ i < S 480 18 ∧ rxRx S0 S base ∧ (∀ j : Int, 0 ≤ j → j < 8 * S 480 16 → S 482 (base + 2 + j) = S 486 j) ∧ (∀ j : Int, 0 ≤ j → j < i → S 482 (base + 98 + 2 * j) = S 487 j ∧ S 482 (base + 98 + 2 * j + 1) = S 488 j)
noncomputable def rxm242_19 (S0 : Nat → Int → Int) (ws : List Int) (S : Nat → Int → Int) (base i a v : Int) : Nat := 10 * (500 - i).toNat + 4
noncomputable def rxz242_19 : rx_Z := ([(0, 0), (0, 0), (0, 0), (0, 0), (0, 0), (0, 0), (0, 0), (0, 0), (780, 5280), (0, 399), (878, 6176), (0, 30)], [], [], 0, 0, 172, [(0, .inr (3, (0, 480))), (1, .inr (0, (8, 0))), (2, .inr (0, (9, 0)))], [.inr (0, (11, 0)), .inr (0, (10, 0)), .inr (3, (0, 482))])
noncomputable def rxI242_20 (S0 : Nat → Int → Int) (ws : List Int) (S : Nat → Int → Int) (base i a v : Int) : Prop := S 482 (base + 98 + 2 * i) = S 487 i ∧ i < S 480 18 ∧ rxRx S0 S base ∧ (∀ j : Int, 0 ≤ j → j < 8 * S 480 16 → S 482 (base + 2 + j) = S 486 j) ∧ (∀ j : Int, 0 ≤ j → j < i → S 482 (base + 98 + 2 * j) = S 487 j ∧ S 482 (base + 98 + 2 * j + 1) = S 488 j)
noncomputable def rxm242_20 (S0 : Nat → Int → Int) (ws : List Int) (S : Nat → Int → Int) (base i a v : Int) : Nat := 10 * (500 - i).toNat + 3
noncomputable def rxz242_20 : rx_Z := ([(0, 0), (0, 0), (0, 0), (0, 0), (0, 0), (0, 0), (0, 0), (0, 0), (780, 5280), (0, 399), (878, 6176), (0, 30)], [], [], 0, 0, 173, [(0, .inr (3, (0, 480))), (1, .inr (0, (8, 0))), (2, .inr (0, (9, 0)))], [])
noncomputable def rxI242_21 (S0 : Nat → Int → Int) (ws : List Int) (S : Nat → Int → Int) (base i a v : Int) : Prop := a = base + 98 + 2 * i + 1 ∧ v = S 488 i ∧ S 482 (base + 98 + 2 * i) = S 487 i ∧ i < S 480 18 ∧ rxRx S0 S base ∧ (∀ j : Int, 0 ≤ j → j < 8 * S 480 16 → S 482 (base + 2 + j) = S 486 j) ∧ (∀ j : Int, 0 ≤ j → j < i → S 482 (base + 98 + 2 * j) = S 487 j ∧ S 482 (base + 98 + 2 * j + 1) = S 488 j)
noncomputable def rxm242_21 (S0 : Nat → Int → Int) (ws : List Int) (S : Nat → Int → Int) (base i a v : Int) : Nat := 10 * (500 - i).toNat + 2
noncomputable def rxz242_21 : rx_Z := ([(0, 0), (0, 0), (0, 0), (0, 0), (0, 0), (0, 0), (0, 0), (0, 0), (780, 5280), (0, 399), (879, 6177), (0, 1000)], [], [], 0, 0, 193, [(0, .inr (3, (0, 480))), (1, .inr (0, (8, 0))), (2, .inr (0, (9, 0)))], [.inr (0, (11, 0)), .inr (0, (10, 0)), .inr (3, (0, 482))])
noncomputable def rxI242_22 (S0 : Nat → Int → Int) (ws : List Int) (S : Nat → Int → Int) (base i a v : Int) : Prop := i < S 480 18 ∧ rxRx S0 S base ∧ (∀ j : Int, 0 ≤ j → j < 8 * S 480 16 → S 482 (base + 2 + j) = S 486 j) ∧ (∀ j : Int, 0 ≤ j → j < i + 1 → S 482 (base + 98 + 2 * j) = S 487 j ∧ S 482 (base + 98 + 2 * j + 1) = S 488 j)
noncomputable def rxm242_22 (S0 : Nat → Int → Int) (ws : List Int) (S : Nat → Int → Int) (base i a v : Int) : Nat := 10 * (500 - i).toNat + 1
noncomputable def rxz242_22 : rx_Z := ([(0, 0), (0, 0), (0, 0), (0, 0), (0, 0), (0, 0), (0, 0), (0, 0), (780, 5280), (0, 399), (879, 6177), (0, 1000)], [], [], 0, 0, 194, [(0, .inr (3, (0, 480))), (1, .inr (0, (8, 0))), (2, .inr (0, (9, 0)))], [])
noncomputable def rxI242_23 (S0 : Nat → Int → Int) (ws : List Int) (S : Nat → Int → Int) (n3 : Int) : Prop := rxX S
noncomputable def rxm242_23 (S0 : Nat → Int → Int) (ws : List Int) (S : Nat → Int → Int) (n3 : Int) : Nat := 2
noncomputable def rxz242_23 : rx_Z := ([(0, 0), (0, 0), (0, 0), (0, 0), (0, 0), (0, 0), (0, 0), (0, 0), (0, 5)], [], [], 0, 0, 207, [(0, .inr (3, (0, 480)))], [.inr (0, (8, 0)), .inr (0, (0, 3)), .inr (3, (0, 482))])
noncomputable def rxo242_0_0 : bx_HO := (([(0, 0), (0, 0), (0, 0), (0, 0), (0, 0), (0, 0), (0, 0), (0, 0), (0, 5)], [(3, (8, 0), (0, 6))], [(((0, 0), 1851192626986356798026460450737346142932482408387548938499129344000000), .inr (0, (8, 0))), (((0, 482), 3), .inr (0, (8, 0))), (((0, 480), 3), .inr (3, (0, 482))), (((0, 0), 1851192626986356797424340330377019318111018015026043177836478467000000), .inr (0, (0, 0))), (((0, 480), 0), .inr (0, (0, 0)))], 0, 0, 30, [(0, .inr (3, (0, 480)))], [.inr (0, (0, 0)), .inr (3, (0, 480))]), [], [], [(0, 0), (0, 0), (0, 0), (0, 0), (0, 0), (0, 0), (0, 0), (0, 0)], 1)
noncomputable def rxe242_0_0 : rx_End × List (Nat × Int × Int) := (([(0, 0), (0, 0), (0, 0), (0, 0), (0, 0), (0, 0), (0, 0), (0, 0), (6, 6), ((-2147483648), 2147483647), ((-2147483648), 2147483647)], [], [(((0, 0), 1851192626986356798427873864310897359480125337295219445606187011000000), .inr (0, (10, 0))), (((0, 481), 5), .inr (0, (10, 0))), (((0, 0), 1851192626986356798427873864310897359480125337295219445606187008000000), .inr (0, (9, 0))), (((0, 480), 2), .inr (3, (0, 481))), (((0, 0), 1851192626986356797625047037163794926384839479479878431390302211000000), .inr (0, (0, (-5)))), (((0, 480), 1), .inr (0, (0, (-5)))), (((0, 0), 1851192626986356799029993984671224184301589730656725206267068419000000), .inr (0, (0, 0))), (((0, 480), 8), .inr (0, (0, 0))), (((0, 0), 1851192626986356798026460450737346142932482408387548938499129344000000), .inr (0, (8, 0))), (((0, 482), 3), .inr (0, (8, 0))), (((0, 480), 3), .inr (3, (0, 482))), (((0, 0), 1851192626986356797424340330377019318111018015026043177836478467000000), .inr (0, (0, 0))), (((0, 480), 0), .inr (0, (0, 0)))], some (.inr (0, (0, (-5))))), [])
noncomputable def rxo242_2_0 : bx_HO := (([(0, 0), (0, 0), (0, 0), (0, 0), (0, 0), (0, 0), (0, 0), (0, 0)], [], [], 0, 0, 34, [(0, .inr (3, (0, 480)))], [.inr (3, (0, 480))]), [], [], [(0, 0), (0, 0), (0, 0), (0, 0), (0, 0), (0, 0), (0, 0), (0, 0)], 3)
noncomputable def rxo242_4_0 : bx_HO := (([(0, 0), (0, 0), (0, 0), (0, 0), (0, 0), (0, 0), (0, 0), (0, 0), (0, 0), (0, 2)], [(3, (9, 0), (0, 3))], [(((0, 0), 1851192626986356799632114105031551009123054124018230966928539648000000), .inr (0, (9, 0))), (((0, 480), 11), .inr (0, (9, 0))), (((0, 0), 1851192626986356800234234225391877833944518517379736727590010880000000), .inr (0, (8, 0))), (((0, 480), 14), .inr (0, (8, 0)))], 0, 0, 65, [(0, .inr (3, (0, 480)))], [.inr (3, (0, 480))]), [], [], [(0, 0), (0, 0), (0, 0), (0, 0), (0, 0), (0, 0), (0, 0), (0, 0)], 10)
noncomputable def rxo242_4_1 : bx_HO := (([(0, 0), (0, 0), (0, 0), (0, 0), (0, 0), (0, 0), (0, 0), (0, 0), (0, 0), (3, 3), ((-9223372036854775808), 9223372036854775807)], [(3, (10, 0), (0, 59))], [(((0, 0), 1851192626986356799832820811818326617396875588472066220482363392000000), .inr (1, (10, 0))), (((0, 480), 12), .inr (1, (10, 0))), (((0, 0), 1851192626986356799632114105031551009123054124018230966928539648000000), .inr (0, (9, 0))), (((0, 480), 11), .inr (0, (9, 0))), (((0, 0), 1851192626986356800234234225391877833944518517379736727590010880000000), .inr (0, (8, 0))), (((0, 480), 14), .inr (0, (8, 0)))], 0, 0, 65, [(0, .inr (3, (0, 480)))], [.inr (3, (0, 480))]), [], [], [(0, 0), (0, 0), (0, 0), (0, 0), (0, 0), (0, 0), (0, 0), (0, 0)], 10)
noncomputable def rxo242_4_2 : bx_HO := (([(0, 0), (0, 0), (0, 0), (0, 0), (0, 0), (0, 0), (0, 0), (0, 0), (0, 0), (3, 3), (59, 59)], [], [(((0, 0), 1851192626986356799832820811818326617396875588472066220482363392000000), .inr (1, (10, 0))), (((0, 480), 12), .inr (1, (10, 0))), (((0, 0), 1851192626986356799632114105031551009123054124018230966928539648000000), .inr (0, (9, 0))), (((0, 480), 11), .inr (0, (9, 0))), (((0, 0), 1851192626986356800234234225391877833944518517379736727590010880000000), .inr (0, (8, 0))), (((0, 480), 14), .inr (0, (8, 0)))], 0, 0, 54, [(0, .inr (3, (0, 480)))], [.inr (3, (0, 480))]), [], [], [(0, 0), (0, 0), (0, 0), (0, 0), (0, 0), (0, 0), (0, 0), (0, 0)], 6)
noncomputable def rxo242_4_3 : bx_HO := (([(0, 0), (0, 0), (0, 0), (0, 0), (0, 0), (0, 0), (0, 0), (0, 0), (1, 1)], [(3, (8, 0), (0, 0))], [(((0, 0), 1851192626986356800234234225391877833944518517379736727590010880000000), .inr (0, (8, 0))), (((0, 480), 14), .inr (0, (8, 0)))], 0, 0, 65, [(0, .inr (3, (0, 480)))], [.inr (3, (0, 480))]), [], [], [(0, 0), (0, 0), (0, 0), (0, 0), (0, 0), (0, 0), (0, 0), (0, 0)], 10)
noncomputable def rxo242_5_0 : bx_HO := (([(0, 0), (0, 0), (0, 0), (0, 0), (0, 0), (0, 0), (0, 0), (0, 0), (0, 0), (0, 2)], [(3, (9, 0), (0, 3))], [(((0, 0), 1851192626986356799632114105031551009123054124018230966928539648000000), .inr (0, (9, 0))), (((0, 480), 11), .inr (0, (9, 0))), (((0, 0), 1851192626986356800234234225391877833944518517379736727590010880000000), .inr (0, (8, 0))), (((0, 480), 14), .inr (0, (8, 0)))], 0, 0, 65, [(0, .inr (3, (0, 480)))], [.inr (3, (0, 480))]), [], [], [(0, 0), (0, 0), (0, 0), (0, 0), (0, 0), (0, 0), (0, 0), (0, 0)], 10)
noncomputable def rxo242_5_1 : bx_HO := (([(0, 0), (0, 0), (0, 0), (0, 0), (0, 0), (0, 0), (0, 0), (0, 0), (0, 0), (3, 3), ((-9223372036854775808), 9223372036854775807)], [(3, (10, 0), (0, 59))], [(((0, 0), 1851192626986356799832820811818326617396875588472066220482363392000000), .inr (1, (10, 0))), (((0, 480), 12), .inr (1, (10, 0))), (((0, 0), 1851192626986356799632114105031551009123054124018230966928539648000000), .inr (0, (9, 0))), (((0, 480), 11), .inr (0, (9, 0))), (((0, 0), 1851192626986356800234234225391877833944518517379736727590010880000000), .inr (0, (8, 0))), (((0, 480), 14), .inr (0, (8, 0)))], 0, 0, 65, [(0, .inr (3, (0, 480)))], [.inr (3, (0, 480))]), [], [], [(0, 0), (0, 0), (0, 0), (0, 0), (0, 0), (0, 0), (0, 0), (0, 0)], 10)
noncomputable def rxo242_5_2 : bx_HO := (([(0, 0), (0, 0), (0, 0), (0, 0), (0, 0), (0, 0), (0, 0), (0, 0), (0, 0), (3, 3), (59, 59)], [], [(((0, 0), 1851192626986356799832820811818326617396875588472066220482363392000000), .inr (1, (10, 0))), (((0, 480), 12), .inr (1, (10, 0))), (((0, 0), 1851192626986356799632114105031551009123054124018230966928539648000000), .inr (0, (9, 0))), (((0, 480), 11), .inr (0, (9, 0))), (((0, 0), 1851192626986356800234234225391877833944518517379736727590010880000000), .inr (0, (8, 0))), (((0, 480), 14), .inr (0, (8, 0)))], 0, 0, 54, [(0, .inr (3, (0, 480)))], [.inr (3, (0, 480))]), [], [], [(0, 0), (0, 0), (0, 0), (0, 0), (0, 0), (0, 0), (0, 0), (0, 0)], 6)
noncomputable def rxo242_5_3 : bx_HO := (([(0, 0), (0, 0), (0, 0), (0, 0), (0, 0), (0, 0), (0, 0), (0, 0), (1, 1)], [(3, (8, 0), (0, 0))], [(((0, 0), 1851192626986356800234234225391877833944518517379736727590010880000000), .inr (0, (8, 0))), (((0, 480), 14), .inr (0, (8, 0)))], 0, 0, 65, [(0, .inr (3, (0, 480)))], [.inr (3, (0, 480))]), [], [], [(0, 0), (0, 0), (0, 0), (0, 0), (0, 0), (0, 0), (0, 0), (0, 0)], 10)
noncomputable def rxo242_7_0 : bx_HO := (([(0, 0), (0, 0), (0, 0), (0, 0), (0, 0), (0, 0), (0, 0), (0, 0)], [], [], 0, 0, 58, [(0, .inr (3, (0, 480)))], [.inr (3, (0, 480))]), [], [], [(0, 0), (0, 0), (0, 0), (0, 0), (0, 0), (0, 0), (0, 0), (0, 0)], 8)
noncomputable def rxo242_9_0 : bx_HO := (([(0, 0), (0, 0), (0, 0), (0, 0), (0, 0), (0, 0), (0, 0), (0, 0)], [], [], 0, 0, 37, [(0, .inr (3, (0, 480)))], []), [], [], [(0, 0), (0, 0), (0, 0), (0, 0), (0, 0), (0, 0), (0, 0), (0, 0)], 5)
noncomputable def rxo242_11_0 : bx_HO := (([(0, 0), (0, 0), (0, 0), (0, 0), (0, 0), (0, 0), (0, 0), (0, 0), (0, 0), (0, 6)], [], [(((0, 0), 1851192626986356798026460450737346142932482408387548938499129344000000), .inr (0, (9, 0))), (((0, 482), 3), .inr (0, (9, 0))), (((0, 480), 3), .inr (3, (0, 482))), (((0, 0), 1851192626986356800234234225391877833944518517379736727590010880000000), .inr (0, (8, 0))), (((0, 480), 14), .inr (0, (8, 0)))], 0, 0, 94, [(0, .inr (3, (0, 480)))], [.inr (0, (9, 0)), .inr (0, (0, 900)), .inr (0, (0, 780))]), [(9, 0, 5)], [], [(0, 0), (0, 0), (0, 0), (0, 0), (0, 0), (0, 0), (0, 0), (0, 0), (9, 0)], 12)
noncomputable def rxe242_11_0 : rx_End × List (Nat × Int × Int) := (([(0, 0), (0, 0), (0, 0), (0, 0), (0, 0), (0, 0), (0, 0), (0, 0), (1, 1), ((-2147483648), 2147483647), ((-2147483648), 2147483647)], [(3, (8, 0), (0, 0))], [(((0, 0), 1851192626986356798628580571097672967753946801749054699160010755000000), .inr (0, (10, 0))), (((0, 481), 6), .inr (0, (10, 0))), (((0, 0), 1851192626986356798628580571097672967753946801749054699160010752000000), .inr (0, (9, 0))), (((0, 480), 2), .inr (3, (0, 481))), (((0, 0), 1851192626986356797625047037163794926384839479479878431390302211000000), .inr (0, (0, (-6)))), (((0, 480), 1), .inr (0, (0, (-6)))), (((0, 0), 1851192626986356800234234225391877833944518517379736727590010880000000), .inr (0, (8, 0))), (((0, 480), 14), .inr (0, (8, 0)))], some (.inr (0, (0, (-6))))), [])
noncomputable def rxo242_12_0 : bx_HO := (([(0, 0), (0, 0), (0, 0), (0, 0), (0, 0), (0, 0), (0, 0), (0, 0), (0, 5), (0, 4500), (0, 12)], [(904, (9, 0), (8, 0))], [(((0, 0), 1851192626986356800635647638965429050492161446287407234697658368000000), .inr (0, (10, 0))), (((0, 480), 16), .inr (0, (10, 0))), (((0, 480), 3), .inr (3, (0, 482)))], 0, 0, 108, [(1, .inr (0, (9, 780))), (0, .inr (3, (0, 480)))], [.inr (0, (10, 0)), .inr (0, (9, 781)), .inr (3, (0, 482))]), [], [], [(0, 0), (0, 0), (0, 0), (0, 0), (0, 0), (0, 0), (0, 0), (0, 0), (9, 780), (9, 781), (10, 0)], 13)
noncomputable def rxo242_14_0 : bx_HO := (([(0, 0), (0, 0), (0, 0), (0, 0), (0, 0), (0, 0), (0, 0), (0, 0), (780, 5280), (781, 5281), (0, 12)], [], [], 0, 0, 111, [(2, .inr (0, (0, 0))), (0, .inr (3, (0, 480))), (1, .inr (0, (8, 0)))], []), [], [], [(0, 0), (0, 0), (0, 0), (0, 0), (0, 0), (0, 0), (0, 0), (0, 0), (8, 0), (0, 0)], 15)
noncomputable def rxo242_15_0 : bx_HO := (([(0, 0), (0, 0), (0, 0), (0, 0), (0, 0), (0, 0), (0, 0), (0, 0), (780, 5280), (0, 95), (0, 12), (1, 96), (782, 5377), (0, 400)], [(604462909807314587353097000000, (12, 0), (8, 2)), (0, (9, 0), (11, 0)), (12, (11, 0), (10, 0))], [(((0, 0), 1851192626986356797424367893248739914126558548369245151065145344000000), .inr (0, (13, 0))), (((0, 480), 17), .inr (3, (0, 486))), (((0, 480), 3), .inr (3, (0, 482))), (((0, 0), 1851192626986356800635647638965429050492161446287407234697658368000000), .inr (0, (10, 0))), (((0, 480), 16), .inr (0, (10, 0)))], 0, 0, 137, [(0, .inr (3, (0, 480))), (1, .inr (0, (8, 0))), (2, .inr (0, (9, 0)))], [.inr (0, (13, 0)), .inr (0, (12, 0)), .inr (3, (0, 482))]), [], [], [(0, 0), (0, 0), (0, 0), (0, 0), (0, 0), (0, 0), (0, 0), (0, 0), (8, 0), (9, 0), (12, 0), (13, 0)], 16)
noncomputable def rxo242_15_1 : bx_HO := (([(0, 0), (0, 0), (0, 0), (0, 0), (0, 0), (0, 0), (0, 0), (0, 0), (780, 5280), (0, 96), (0, 12), (0, 96)], [(1, (11, 0), (9, 0)), (12, (11, 0), (10, 0))], [(((0, 0), 1851192626986356800635647638965429050492161446287407234697658368000000), .inr (0, (10, 0))), (((0, 480), 16), .inr (0, (10, 0)))], 0, 0, 146, [(2, .inr (0, (0, 0))), (0, .inr (3, (0, 480))), (1, .inr (0, (8, 0)))], []), [], [], [(0, 0), (0, 0), (0, 0), (0, 0), (0, 0), (0, 0), (0, 0), (0, 0), (8, 0), (0, 0)], 18)
noncomputable def rxo242_17_0 : bx_HO := (([(0, 0), (0, 0), (0, 0), (0, 0), (0, 0), (0, 0), (0, 0), (0, 0), (780, 5280), (0, 95), (782, 5377), (0, 400)], [], [], 0, 0, 111, [(2, .inr (0, (9, 1))), (0, .inr (3, (0, 480))), (1, .inr (0, (8, 0)))], []), [], [], [(0, 0), (0, 0), (0, 0), (0, 0), (0, 0), (0, 0), (0, 0), (0, 0), (8, 0), (9, 1)], 15)
noncomputable def rxo242_18_0 : bx_HO := (([(0, 0), (0, 0), (0, 0), (0, 0), (0, 0), (0, 0), (0, 0), (0, 0), (780, 5280), (0, 399), (1, 400), (0, 798), (878, 6176), (0, 30)], [(604462909807314587353099000000, (12, 0), (8, 98)), (6, (11, 0), (9, 0)), (0, (9, 0), (10, 0))], [(((0, 0), 1851192626986356797424367893248739914126558548369245151065735168000000), .inr (0, (13, 0))), (((0, 480), 19), .inr (3, (0, 487))), (((0, 480), 3), .inr (3, (0, 482))), (((0, 0), 1851192626986356801037061052538980267039804375195077741805305856000000), .inr (0, (10, 0))), (((0, 480), 18), .inr (0, (10, 0)))], 0, 0, 172, [(0, .inr (3, (0, 480))), (1, .inr (0, (8, 0))), (2, .inr (0, (9, 0)))], [.inr (0, (13, 0)), .inr (0, (12, 0)), .inr (3, (0, 482))]), [], [], [(0, 0), (0, 0), (0, 0), (0, 0), (0, 0), (0, 0), (0, 0), (0, 0), (8, 0), (9, 0), (12, 0), (13, 0)], 19)
noncomputable def rxo242_18_1 : bx_HO := (([(0, 0), (0, 0), (0, 0), (0, 0), (0, 0), (0, 0), (0, 0), (0, 0), (780, 5280), (0, 400), (0, 400), (0, 6)], [(1, (10, 0), (9, 0))], [(((0, 0), 1851192626986356798026460450737346142932482408387548938499129344000000), .inr (0, (11, 0))), (((0, 482), 3), .inr (0, (11, 0))), (((0, 480), 3), .inr (3, (0, 482))), (((0, 0), 1851192626986356801037061052538980267039804375195077741805305856000000), .inr (0, (10, 0))), (((0, 480), 18), .inr (0, (10, 0)))], 0, 0, 207, [(0, .inr (3, (0, 480))), (1, .inr (0, (8, 0))), (2, .inr (0, (9, 0)))], [.inr (0, (11, 0)), .inr (0, (0, 3)), .inr (3, (0, 482))]), [(11, 0, 5)], [], [(0, 0), (0, 0), (0, 0), (0, 0), (0, 0), (0, 0), (0, 0), (0, 0), (11, 0)], 23)
noncomputable def rxo242_20_0 : bx_HO := (([(0, 0), (0, 0), (0, 0), (0, 0), (0, 0), (0, 0), (0, 0), (0, 0), (780, 5280), (0, 399), (878, 6176), (0, 30), (0, 798), (878, 6176), (0, 1000)], [(604462909807314587353100000000, (13, 0), (8, 98)), (6, (12, 0), (9, 0))], [(((0, 0), 1851192626986356797424367893248739914126558548369245151066324992000000), .inr (0, (14, 0))), (((0, 480), 20), .inr (3, (0, 488))), (((0, 480), 3), .inr (3, (0, 482)))], 0, 0, 193, [(0, .inr (3, (0, 480))), (1, .inr (0, (8, 0))), (2, .inr (0, (9, 0)))], [.inr (0, (14, 0)), .inr (0, (13, 1)), .inr (3, (0, 482))]), [], [], [(0, 0), (0, 0), (0, 0), (0, 0), (0, 0), (0, 0), (0, 0), (0, 0), (8, 0), (9, 0), (13, 1), (14, 0)], 21)
noncomputable def rxo242_22_0 : bx_HO := (([(0, 0), (0, 0), (0, 0), (0, 0), (0, 0), (0, 0), (0, 0), (0, 0), (780, 5280), (0, 399), (879, 6177), (0, 1000)], [], [], 0, 0, 146, [(2, .inr (0, (9, 1))), (0, .inr (3, (0, 480))), (1, .inr (0, (8, 0)))], []), [], [], [(0, 0), (0, 0), (0, 0), (0, 0), (0, 0), (0, 0), (0, 0), (0, 0), (8, 0), (9, 1)], 18)
noncomputable def rxe242_23_0 : rx_End × List (Nat × Int × Int) := (([(0, 0), (0, 0), (0, 0), (0, 0), (0, 0), (0, 0), (0, 0), (0, 0), (0, 5)], [], [(((0, 0), 1851192626986356797625047037163794926384839479479878431390302211000000), .inr (0, (0, 0))), (((0, 480), 1), .inr (0, (0, 0))), (((0, 480), 3), .inr (3, (0, 482))), (((0, 0), 1851192626986356798026460450737346142932482408387548938499129347000000), .inr (0, (8, 1))), (((0, 482), 3), .inr (0, (8, 1)))], some (.inr (0, (8, 0)))), [])
noncomputable def rxY242 : List bx_HE := [(rxz242_0, [rxo242_0_0], [rxe242_0_0]), (rxz242_1, [], []), (rxz242_2, [rxo242_2_0], []), (rxz242_3, [], []), (rxz242_4, [rxo242_4_0, rxo242_4_1, rxo242_4_2, rxo242_4_3], []), (rxz242_5, [rxo242_5_0, rxo242_5_1, rxo242_5_2, rxo242_5_3], []), (rxz242_6, [], []), (rxz242_7, [rxo242_7_0], []), (rxz242_8, [], []), (rxz242_9, [rxo242_9_0], []), (rxz242_10, [], []), (rxz242_11, [rxo242_11_0], [rxe242_11_0]), (rxz242_12, [rxo242_12_0], []), (rxz242_13, [], []), (rxz242_14, [rxo242_14_0], []), (rxz242_15, [rxo242_15_0, rxo242_15_1], []), (rxz242_16, [], []), (rxz242_17, [rxo242_17_0], []), (rxz242_18, [rxo242_18_0, rxo242_18_1], []), (rxz242_19, [], []), (rxz242_20, [rxo242_20_0], []), (rxz242_21, [], []), (rxz242_22, [rxo242_22_0], []), (rxz242_23, [], [rxe242_23_0])]
noncomputable def rxU242 (q : bx_HE) : Bool := Nat.beq (rx_zpc q.1) 30 || Nat.beq (rx_zpc q.1) 34 || Nat.beq (rx_zpc q.1) 54 || Nat.beq (rx_zpc q.1) 58 || Nat.beq (rx_zpc q.1) 65 || Nat.beq (rx_zpc q.1) 108 || Nat.beq (rx_zpc q.1) 137 || Nat.beq (rx_zpc q.1) 172 || Nat.beq (rx_zpc q.1) 193
noncomputable def rxYB242 : bx_B := (rxV, rxNP, rxDmf, bx_mdH rxC242.2.2.1)
set_option maxRecDepth 100000 in
theorem rxYc242 : bx_chkH rxYB242 rxM242 rxC242 rxY242 (rxU242, fun cut z => rx_ex2 (rxCT rxYB242 rxCnE) cut 30000 rxC242.2.2.2.1 242 z) = true := by decide +kernel
noncomputable def rxI242 (S0 : Nat → Int → Int) (ws : List Int) (i : Nat) : bx_SP := fun S r => match i with | 0 => rxI242_0 S0 ws S | 1 => rxI242_1 S0 ws S | 2 => rxI242_2 S0 ws S | 3 => rxI242_3 S0 ws S | 4 => rxI242_4 S0 ws S | 5 => rxI242_5 S0 ws S | 6 => rxI242_6 S0 ws S | 7 => rxI242_7 S0 ws S | 8 => rxI242_8 S0 ws S | 9 => rxI242_9 S0 ws S | 10 => rxI242_10 S0 ws S | 11 => rxI242_11 S0 ws S | 12 => rxI242_12 S0 ws S (r 8) | 13 => rxI242_13 S0 ws S (r 8) (r 9) (r 10) | 14 => rxI242_14 S0 ws S (r 8) (r 9) (r 10) | 15 => rxI242_15 S0 ws S (r 8) (r 9) | 16 => rxI242_16 S0 ws S (r 8) (r 9) (r 10) (r 11) | 17 => rxI242_17 S0 ws S (r 8) (r 9) (r 10) (r 11) | 18 => rxI242_18 S0 ws S (r 8) (r 9) | 19 => rxI242_19 S0 ws S (r 8) (r 9) (r 10) (r 11) | 20 => rxI242_20 S0 ws S (r 8) (r 9) (r 10) (r 11) | 21 => rxI242_21 S0 ws S (r 8) (r 9) (r 10) (r 11) | 22 => rxI242_22 S0 ws S (r 8) (r 9) (r 10) (r 11) | 23 => rxI242_23 S0 ws S (r 8) | _ => False
noncomputable def rxm242 (S0 : Nat → Int → Int) (ws : List Int) (i : Nat) (S : Nat → Int → Int) (r : Nat → Int) : Nat := match i with | 0 => rxm242_0 S0 ws S | 1 => rxm242_1 S0 ws S | 2 => rxm242_2 S0 ws S | 3 => rxm242_3 S0 ws S | 4 => rxm242_4 S0 ws S | 5 => rxm242_5 S0 ws S | 6 => rxm242_6 S0 ws S | 7 => rxm242_7 S0 ws S | 8 => rxm242_8 S0 ws S | 9 => rxm242_9 S0 ws S | 10 => rxm242_10 S0 ws S | 11 => rxm242_11 S0 ws S | 12 => rxm242_12 S0 ws S (r 8) | 13 => rxm242_13 S0 ws S (r 8) (r 9) (r 10) | 14 => rxm242_14 S0 ws S (r 8) (r 9) (r 10) | 15 => rxm242_15 S0 ws S (r 8) (r 9) | 16 => rxm242_16 S0 ws S (r 8) (r 9) (r 10) (r 11) | 17 => rxm242_17 S0 ws S (r 8) (r 9) (r 10) (r 11) | 18 => rxm242_18 S0 ws S (r 8) (r 9) | 19 => rxm242_19 S0 ws S (r 8) (r 9) (r 10) (r 11) | 20 => rxm242_20 S0 ws S (r 8) (r 9) (r 10) (r 11) | 21 => rxm242_21 S0 ws S (r 8) (r 9) (r 10) (r 11) | 22 => rxm242_22 S0 ws S (r 8) (r 9) (r 10) (r 11) | 23 => rxm242_23 S0 ws S (r 8) | _ => 0
noncomputable def rxP242 (S0 : Nat → Int → Int) (ws : List Int) : Prop := rxX S0
noncomputable def rxPS242 (S0 : Nat → Int → Int) (ws : List Int) (S : Nat → Int → Int) (w : Option Int) : Prop := rxX S
theorem rxk242_1 {S0 : Nat → Int → Int} {ws : List Int} {S : Nat → Int → Int} (hP : rxP242 S0 ws) (hin : bx_same rxL (bx_mdl rxC242.2.2.1) S0 S) (I0 : bx_Inv rxL S) (hinv : rxI242_1 S0 ws S)  : rxPBX S [480, 0] ∧ ∀ (S_p : Nat → Int → Int), rxPSBX S [480, 0] S_p none → bx_Inv rxL S_p → bx_same rxL (bx_mdl rxCBX.2.2.1) S S_p → rxI242_2 S0 ws S_p ∧ rxm242_2 S0 ws S_p < rxm242_1 S0 ws S := by
  have h : rxRo S0 S := hinv
  refine ⟨trivial, fun S_p hq I1 hsm => ⟨⟨rxRo_of h hsm (by decide +kernel), hq.2.1, hq.2.2.1, hq.2.2.2.1, hq.2.2.2.2.1, ?_⟩, by unfold rxm242_1 rxm242_2; omega⟩⟩
  obtain ⟨-, -, -, -, -, z, hw, h2⟩ := hq
  have he : (0 : Int) = z := Option.some.inj (congrArg (fun l => l[1]?) hw)
  omega
theorem rxs242_1 {X : (Nat → Int → Int) → Prop} {S0 : Nat → Int → Int} {ws : List Int} (hP : rxP242 S0 ws) : rx_obK X S0 rxC242.2.2.1 rxCBX.2.2.1 (rxI242 S0 ws) (rxm242 S0 ws) 1 2 rxz242_1 rxz242_2 [.inr (3, (0, 480)), .inr (0, (0, 0))] none rxPBX rxPSBX := by
  intro S r hinv hXS I0 hin hs_ hf_
  have b_ := bx_bds_sat hs_
  have f_ := bx_fcl_ok hs_.1 hf_
  have g := rxk242_1 hP hin I0 hinv 
  have ea : List.map (bx_num r) [.inr (3, (0, 480)), .inr (0, (0, 0))] = [480, 0] := by
    simp only [List.map_cons, List.map_nil, bx_xv_ok hs_.1]
    rfl
  rw [ea]
  refine ⟨g.1, fun S_p w r_p hPS hX_p I1 hsm hr hw hs_p => ?_⟩
  have hw : w = none := hPS.1
  subst hw
  have g2 := g.2 S_p hPS I1 hsm
  show rxI242_2 S0 ws S_p ∧ rxm242_2 S0 ws S_p < _
  exact g2
theorem rxk242_3 {S0 : Nat → Int → Int} {ws : List Int} {S : Nat → Int → Int} (hP : rxP242 S0 ws) (hin : bx_same rxL (bx_mdl rxC242.2.2.1) S0 S) (I0 : bx_Inv rxL S) (hinv : rxI242_3 S0 ws S)  : rxPRL S [480] ∧ ∀ (S_p : Nat → Int → Int), rxPSRL S [480] S_p none → bx_Inv rxL S_p → bx_same rxL (bx_mdl rxCRL.2.2.1) S S_p → rxI242_4 S0 ws S_p ∧ rxm242_4 S0 ws S_p < rxm242_3 S0 ws S := by
  obtain ⟨h1, h2, h3, h4, h5, h6⟩ := hinv
  have k0 := h2.1
  refine ⟨⟨⟨h2, fun _ => ⟨by omega, fun k k0 k1 => by omega⟩⟩, h3, by omega⟩, fun S_p hq I1 hsm => ⟨⟨rxRo_of h1 hsm (by decide +kernel), hq.2.1, ?_⟩, ?_⟩⟩
  · exact (rx_sameO hsm (p := 480) (j := 15) rfl (by omega) (by decide +kernel) (by decide)).trans h6
  · have b14 := rxBox14 I1
    have b16 := rxBox16 I1
    unfold rxm242_3 rxm242_4
    omega
theorem rxs242_3 {X : (Nat → Int → Int) → Prop} {S0 : Nat → Int → Int} {ws : List Int} (hP : rxP242 S0 ws) : rx_obK X S0 rxC242.2.2.1 rxCRL.2.2.1 (rxI242 S0 ws) (rxm242 S0 ws) 3 4 rxz242_3 rxz242_4 [.inr (3, (0, 480))] none rxPRL rxPSRL := by
  intro S r hinv hXS I0 hin hs_ hf_
  have b_ := bx_bds_sat hs_
  have f_ := bx_fcl_ok hs_.1 hf_
  have g := rxk242_3 hP hin I0 hinv 
  have ea : List.map (bx_num r) [.inr (3, (0, 480))] = [480] := by
    simp only [List.map_cons, List.map_nil, bx_xv_ok hs_.1]
    rfl
  rw [ea]
  refine ⟨g.1, fun S_p w r_p hPS hX_p I1 hsm hr hw hs_p => ?_⟩
  have hw : w = none := hPS.1
  subst hw
  have g2 := g.2 S_p hPS I1 hsm
  show rxI242_4 S0 ws S_p ∧ rxm242_4 S0 ws S_p < _
  exact g2
theorem rxk242_6 {S0 : Nat → Int → Int} {ws : List Int} {S : Nat → Int → Int} (hP : rxP242 S0 ws) (hin : bx_same rxL (bx_mdl rxC242.2.2.1) S0 S) (I0 : bx_Inv rxL S) (hinv : rxI242_6 S0 ws S)  : rxPNX S [480] ∧ ∀ (S_p : Nat → Int → Int), rxPSNX S [480] S_p none → bx_Inv rxL S_p → bx_same rxL (bx_mdl rxCNX.2.2.1) S S_p → rxI242_7 S0 ws S_p ∧ rxm242_7 S0 ws S_p < rxm242_6 S0 ws S := by
  obtain ⟨h1, h2, h3, h4⟩ := hinv
  have k0 := h2.1.2.1
  refine ⟨h2.1.2.2.1, fun S_p hq I1 hsm => ?_⟩
  have hk := rxLk_of hsm (by decide +kernel)
  have b16 := rxBox16 I0
  have b18 := rxBox18 I0
  have h14 : S_p 480 14 = S 480 14 := rx_sameO hsm (p := 480) (j := 14) rfl (by omega) (by decide +kernel) (by decide)
  have q3 := hq.2.2
  have hl := h2.2 h4
  have k18 := hk.2.1
  have k16 := hk.1
  exact ⟨⟨rxRo_of h1 hsm (by decide +kernel), ⟨hq.2.1, fun _ => ⟨by omega, hk.lc hl.2 (by omega) (by omega)⟩⟩, hk.2.2.1.trans h3, by omega⟩, by unfold rxm242_6 rxm242_7; omega⟩
theorem rxs242_6 {X : (Nat → Int → Int) → Prop} {S0 : Nat → Int → Int} {ws : List Int} (hP : rxP242 S0 ws) : rx_obK X S0 rxC242.2.2.1 rxCNX.2.2.1 (rxI242 S0 ws) (rxm242 S0 ws) 6 7 rxz242_6 rxz242_7 [.inr (3, (0, 480))] none rxPNX rxPSNX := by
  intro S r hinv hXS I0 hin hs_ hf_
  have b_ := bx_bds_sat hs_
  have f_ := bx_fcl_ok hs_.1 hf_
  have g := rxk242_6 hP hin I0 hinv 
  have ea : List.map (bx_num r) [.inr (3, (0, 480))] = [480] := by
    simp only [List.map_cons, List.map_nil, bx_xv_ok hs_.1]
    rfl
  rw [ea]
  refine ⟨g.1, fun S_p w r_p hPS hX_p I1 hsm hr hw hs_p => ?_⟩
  have hw : w = none := hPS.1
  subst hw
  have g2 := g.2 S_p hPS I1 hsm
  show rxI242_7 S0 ws S_p ∧ rxm242_7 S0 ws S_p < _
  exact g2
theorem rxk242_8 {S0 : Nat → Int → Int} {ws : List Int} {S : Nat → Int → Int} (hP : rxP242 S0 ws) (hin : bx_same rxL (bx_mdl rxC242.2.2.1) S0 S) (I0 : bx_Inv rxL S) (hinv : rxI242_8 S0 ws S)  : rxPRL S [480] ∧ ∀ (S_p : Nat → Int → Int), rxPSRL S [480] S_p none → bx_Inv rxL S_p → bx_same rxL (bx_mdl rxCRL.2.2.1) S S_p → rxI242_9 S0 ws S_p ∧ rxm242_9 S0 ws S_p < rxm242_8 S0 ws S := by
  obtain ⟨h1, h2, h3, h4⟩ := hinv
  have b18 := rxBox18 I0
  refine ⟨⟨h2, h4, b18.1⟩, fun S_p hq I1 hsm => ⟨⟨rxRo_of h1 hsm (by decide +kernel), hq.2.1, ?_⟩, ?_⟩⟩
  · exact (rx_sameO hsm (p := 480) (j := 15) rfl (by omega) (by decide +kernel) (by decide)).trans h3
  · have b14 := rxBox14 I1
    have b16 := rxBox16 I1
    have c16 := rxBox16 I0
    unfold rxm242_8 rxm242_9
    by_cases q : S_p 480 14 = 0
    · have := hq.2.2 q
      omega
    · omega
theorem rxs242_8 {X : (Nat → Int → Int) → Prop} {S0 : Nat → Int → Int} {ws : List Int} (hP : rxP242 S0 ws) : rx_obK X S0 rxC242.2.2.1 rxCRL.2.2.1 (rxI242 S0 ws) (rxm242 S0 ws) 8 9 rxz242_8 rxz242_9 [.inr (3, (0, 480))] none rxPRL rxPSRL := by
  intro S r hinv hXS I0 hin hs_ hf_
  have b_ := bx_bds_sat hs_
  have f_ := bx_fcl_ok hs_.1 hf_
  have g := rxk242_8 hP hin I0 hinv 
  have ea : List.map (bx_num r) [.inr (3, (0, 480))] = [480] := by
    simp only [List.map_cons, List.map_nil, bx_xv_ok hs_.1]
    rfl
  rw [ea]
  refine ⟨g.1, fun S_p w r_p hPS hX_p I1 hsm hr hw hs_p => ?_⟩
  have hw : w = none := hPS.1
  subst hw
  have g2 := g.2 S_p hPS I1 hsm
  show rxI242_9 S0 ws S_p ∧ rxm242_9 S0 ws S_p < _
  exact g2
theorem rxk242_10 {S0 : Nat → Int → Int} {ws : List Int} {S : Nat → Int → Int} (hP : rxP242 S0 ws) (hin : bx_same rxL (bx_mdl rxC242.2.2.1) S0 S) (I0 : bx_Inv rxL S) (hinv : rxI242_10 S0 ws S)  : rxPET S [480] ∧ ∀ (S_p : Nat → Int → Int), rxPSET S [480] S_p none → bx_Inv rxL S_p → bx_same rxL (bx_mdl rxCET.2.2.1) S S_p → rxI242_11 S0 ws S_p ∧ rxm242_11 S0 ws S_p < rxm242_10 S0 ws S := by
  obtain ⟨h1, h2, h3⟩ := hinv
  refine ⟨h2.1, fun S_p hq I1 hsm => ⟨⟨rxRo_of h1 hsm (by decide +kernel), hq.2.1, fun q => ?_⟩, by unfold rxm242_10 rxm242_11; omega⟩⟩
  have b16 := rxBox16 I0
  have b18 := rxBox18 I0
  have hl := (h2.2 (hq.2.2 q)).2
  have e16 : S_p 480 16 = S 480 16 := rx_sameO hsm (p := 480) (j := 16) rfl (by omega) (by decide +kernel) (by decide)
  have e18 : S_p 480 18 = S 480 18 := rx_sameO hsm (p := 480) (j := 18) rfl (by omega) (by decide +kernel) (by decide)
  refine rxLk.lc (S := bx_up S 480 15 (S_p 480 15)) ⟨?_, ?_, ?_, fun j j0 j1 => ?_, fun j j0 j1 => ⟨?_, ?_⟩⟩ ?_ ?_ ?_
  · simp [bx_up]; exact e16
  · simp [bx_up]; exact e18
  · simp [bx_up]
  · rw [bx_up_row (by omega)]
    exact rx_sameR hsm (p := 486) (tc := 0) (n := 96) (g := 67) rfl (by omega) (by decide +kernel) (by decide +kernel) j0 (by omega)
  · rw [bx_up_row (by omega)]
    exact rx_sameR hsm (p := 487) (tc := 0) (n := 400) (g := 68) rfl (by omega) (by decide +kernel) (by decide +kernel) j0 (by omega)
  · rw [bx_up_row (by omega)]
    exact rx_sameR hsm (p := 488) (tc := 0) (n := 400) (g := 69) rfl (by omega) (by decide +kernel) (by decide +kernel) j0 (by omega)
  · have f16 : bx_up S 480 15 (S_p 480 15) 480 16 = S 480 16 := by simp [bx_up]
    have f18 : bx_up S 480 15 (S_p 480 15) 480 18 = S 480 18 := by simp [bx_up]
    intro k k0 k1
    rw [f16] at k1
    obtain ⟨c1, c2⟩ := hl k k0 k1
    rw [bx_up_row (p_p := 486) (by omega)]
    unfold rxCq at c1 c2 ⊢
    rw [f18, bx_up_row (p_p := 487) (by omega), bx_up_row (p_p := 488) (by omega)]
    exact ⟨c1, c2⟩
  · simp [bx_up]; omega
  · simp [bx_up]; omega
theorem rxs242_10 {X : (Nat → Int → Int) → Prop} {S0 : Nat → Int → Int} {ws : List Int} (hP : rxP242 S0 ws) : rx_obK X S0 rxC242.2.2.1 rxCET.2.2.1 (rxI242 S0 ws) (rxm242 S0 ws) 10 11 rxz242_10 rxz242_11 [.inr (3, (0, 480))] none rxPET rxPSET := by
  intro S r hinv hXS I0 hin hs_ hf_
  have b_ := bx_bds_sat hs_
  have f_ := bx_fcl_ok hs_.1 hf_
  have g := rxk242_10 hP hin I0 hinv 
  have ea : List.map (bx_num r) [.inr (3, (0, 480))] = [480] := by
    simp only [List.map_cons, List.map_nil, bx_xv_ok hs_.1]
    rfl
  rw [ea]
  refine ⟨g.1, fun S_p w r_p hPS hX_p I1 hsm hr hw hs_p => ?_⟩
  have hw : w = none := hPS.1
  subst hw
  have g2 := g.2 S_p hPS I1 hsm
  show rxI242_11 S0 ws S_p ∧ rxm242_11 S0 ws S_p < _
  exact g2
theorem rxt242_13 {S0 : Nat → Int → Int} {ws : List Int} {S : Nat → Int → Int} {base a v : Int} (hP : rxP242 S0 ws) (hin : bx_same rxL (bx_mdl rxC242.2.2.1) S0 S) (I0 : bx_Inv rxL S) (hinv : rxI242_13 S0 ws S base a v) (l8 : 780 ≤ base) (u8 : base ≤ 5280) (l9 : 781 ≤ a) (u9 : a ≤ 5281) (l10 : 0 ≤ v) (u10 : v ≤ 12) : bx_okT rxL (rxL.2.2.1 482 a) v ∧ rxI242_14 S0 ws (bx_up S 482 a v) base a v ∧ rxm242_14 S0 ws (bx_up S 482 a v) base a v < rxm242_13 S0 ws S base a v := by
  obtain ⟨rfl, rfl, hb, h1, h2, h3⟩ := hinv
  have b16 := rxBox16 I0
  have b18 := rxBox18 I0
  have e : ∀ i : Int, bx_up S 482 (base + 1) (S 480 16) 480 i = S 480 i := fun i => by rw [bx_up_row (by omega)]
  refine ⟨?_, ⟨fun j j0 j1 j2 => ?_, ?_, ?_, (e _).trans h2, hb, h1.2.1, h1.2.2⟩, by unfold rxm242_13 rxm242_14; omega⟩
  · rw [hb, rxT482, bx_dW_ok (rxDw _ h1.2.1 h1.2.2).2.2.1 (by omega) (by omega) (by omega)]
    exact ⟨b16.1, b16.2⟩
  · rw [bx_up_ne (by omega)]
    exact h1.1 j j0 j1
  · rw [bx_up_at, e]
  · exact rxLk.lc (S := S) ⟨e _, e _, e _, fun j _ _ => by rw [bx_up_row (by omega)], fun j _ _ => ⟨by rw [bx_up_row (by omega)], by rw [bx_up_row (by omega)]⟩⟩ h3 b16.2 b18.2
theorem rxs242_13 {X : (Nat → Int → Int) → Prop} {S0 : Nat → Int → Int} {ws : List Int} (hP : rxP242 S0 ws) (hX : ∀ S S1 : Nat → Int → Int, X S → bx_same rxL (bx_mdl rxC242.2.2.1) S S1 → X S1) : rx_obS X S0 rxC242.2.2.1 (rxI242 S0 ws) (rxm242 S0 ws) 13 14 rxz242_13 482 9 10 := by
  intro S r hinv hXS I0 hin hs_ hf_
  have b_ := bx_bds_sat hs_
  have f_ := bx_fcl_ok hs_.1 hf_
  obtain ⟨⟨l8, u8⟩, ⟨l9, u9⟩, ⟨l10, u10⟩, -⟩ := b_
  have g := rxt242_13 hP hin I0 hinv l8 u8 l9 u9 l10 u10
  exact ⟨g.1, g.2.1, g.2.2, hX _ _ hXS (rx_same_upR (fun _ _ _ _ _ => rfl) (tc := 0) (n := 6180) (g := 63) rfl (by decide +kernel) l9 u9), rx_same_upR hin (tc := 0) (n := 6180) (g := 63) rfl (by decide +kernel) l9 u9⟩
theorem rxt242_16 {S0 : Nat → Int → Int} {ws : List Int} {S : Nat → Int → Int} {base i a v : Int} (hP : rxP242 S0 ws) (hin : bx_same rxL (bx_mdl rxC242.2.2.1) S0 S) (I0 : bx_Inv rxL S) (hinv : rxI242_16 S0 ws S base i a v) (l8 : 780 ≤ base) (u8 : base ≤ 5280) (l9 : 0 ≤ i) (u9 : i ≤ 95) (l10 : 782 ≤ a) (u10 : a ≤ 5377) (l11 : 0 ≤ v) (u11 : v ≤ 400) : bx_okT rxL (rxL.2.2.1 482 a) v ∧ rxI242_17 S0 ws (bx_up S 482 a v) base i a v ∧ rxm242_17 S0 ws (bx_up S 482 a v) base i a v < rxm242_16 S0 ws S base i a v := by
  obtain ⟨rfl, rfl, hi, h1, h2⟩ := hinv
  have b16 := rxBox16 I0
  have b18 := rxBox18 I0
  have hb := h1.2.2.2.2
  refine ⟨?_, ⟨by rw [bx_up_row (by omega)]; exact hi, rxRx_st h1 b16.2 b18.2 (by omega) (by omega), fun j j0 j1 => ?_⟩, by unfold rxm242_16 rxm242_17; omega⟩
  · have g := rxCv I0 (n := S0 482 3) hb.2.1 hb.2.2 l9 u9
    rw [← hb.1] at g
    exact g
  · rw [bx_up_row (p_p := 486) (by omega)]
    by_cases hj : j = i
    · subst hj
      exact bx_up_at
    · rw [bx_up_ne (by omega)]
      exact h2 j j0 (by omega)
theorem rxs242_16 {X : (Nat → Int → Int) → Prop} {S0 : Nat → Int → Int} {ws : List Int} (hP : rxP242 S0 ws) (hX : ∀ S S1 : Nat → Int → Int, X S → bx_same rxL (bx_mdl rxC242.2.2.1) S S1 → X S1) : rx_obS X S0 rxC242.2.2.1 (rxI242 S0 ws) (rxm242 S0 ws) 16 17 rxz242_16 482 10 11 := by
  intro S r hinv hXS I0 hin hs_ hf_
  have b_ := bx_bds_sat hs_
  have f_ := bx_fcl_ok hs_.1 hf_
  obtain ⟨⟨l8, u8⟩, ⟨l9, u9⟩, ⟨l10, u10⟩, ⟨l11, u11⟩, -⟩ := b_
  have g := rxt242_16 hP hin I0 hinv l8 u8 l9 u9 l10 u10 l11 u11
  exact ⟨g.1, g.2.1, g.2.2, hX _ _ hXS (rx_same_upR (fun _ _ _ _ _ => rfl) (tc := 0) (n := 6180) (g := 63) rfl (by decide +kernel) l10 u10), rx_same_upR hin (tc := 0) (n := 6180) (g := 63) rfl (by decide +kernel) l10 u10⟩
theorem rxt242_19 {S0 : Nat → Int → Int} {ws : List Int} {S : Nat → Int → Int} {base i a v : Int} (hP : rxP242 S0 ws) (hin : bx_same rxL (bx_mdl rxC242.2.2.1) S0 S) (I0 : bx_Inv rxL S) (hinv : rxI242_19 S0 ws S base i a v) (l8 : 780 ≤ base) (u8 : base ≤ 5280) (l9 : 0 ≤ i) (u9 : i ≤ 399) (l10 : 878 ≤ a) (u10 : a ≤ 6176) (l11 : 0 ≤ v) (u11 : v ≤ 30) : bx_okT rxL (rxL.2.2.1 482 a) v ∧ rxI242_20 S0 ws (bx_up S 482 a v) base i a v ∧ rxm242_20 S0 ws (bx_up S 482 a v) base i a v < rxm242_19 S0 ws S base i a v := by
  obtain ⟨rfl, rfl, hi, h1, h2, h3⟩ := hinv
  have b16 := rxBox16 I0
  have b18 := rxBox18 I0
  have hb := h1.2.2.2.2
  have e16 : bx_up S 482 (base + 98 + 2 * i) (S 487 i) 480 16 = S 480 16 := by rw [bx_up_row (by omega)]
  have e18 : bx_up S 482 (base + 98 + 2 * i) (S 487 i) 480 18 = S 480 18 := by rw [bx_up_row (by omega)]
  refine ⟨?_, ⟨?_, by rw [e18]; exact hi, rxRx_st h1 b16.2 b18.2 (by omega) (by omega), fun j j0 j1 => ?_, fun j j0 j1 => ?_⟩, by unfold rxm242_19 rxm242_20; omega⟩
  · rw [rxT482, bx_dW_ok (rxDw _ hb.2.1 hb.2.2).1 (by omega) (by omega) (by rw [← hb.1, show base + 98 + 2 * i - (base + 98) = 2 * i by omega]; omega)]
    exact ⟨l11, u11⟩
  · rw [bx_up_at, bx_up_row (by omega)]
  · rw [e16] at j1
    rw [bx_up_ne (by omega), bx_up_row (by omega)]
    exact h2 j j0 j1
  · exact ⟨by rw [bx_up_ne (by omega), bx_up_row (by omega)]; exact (h3 j j0 j1).1, by rw [bx_up_ne (by omega), bx_up_row (by omega)]; exact (h3 j j0 j1).2⟩
theorem rxs242_19 {X : (Nat → Int → Int) → Prop} {S0 : Nat → Int → Int} {ws : List Int} (hP : rxP242 S0 ws) (hX : ∀ S S1 : Nat → Int → Int, X S → bx_same rxL (bx_mdl rxC242.2.2.1) S S1 → X S1) : rx_obS X S0 rxC242.2.2.1 (rxI242 S0 ws) (rxm242 S0 ws) 19 20 rxz242_19 482 10 11 := by
  intro S r hinv hXS I0 hin hs_ hf_
  have b_ := bx_bds_sat hs_
  have f_ := bx_fcl_ok hs_.1 hf_
  obtain ⟨⟨l8, u8⟩, ⟨l9, u9⟩, ⟨l10, u10⟩, ⟨l11, u11⟩, -⟩ := b_
  have g := rxt242_19 hP hin I0 hinv l8 u8 l9 u9 l10 u10 l11 u11
  exact ⟨g.1, g.2.1, g.2.2, hX _ _ hXS (rx_same_upR (fun _ _ _ _ _ => rfl) (tc := 0) (n := 6180) (g := 63) rfl (by decide +kernel) l10 u10), rx_same_upR hin (tc := 0) (n := 6180) (g := 63) rfl (by decide +kernel) l10 u10⟩
theorem rxt242_21 {S0 : Nat → Int → Int} {ws : List Int} {S : Nat → Int → Int} {base i a v : Int} (hP : rxP242 S0 ws) (hin : bx_same rxL (bx_mdl rxC242.2.2.1) S0 S) (I0 : bx_Inv rxL S) (hinv : rxI242_21 S0 ws S base i a v) (l8 : 780 ≤ base) (u8 : base ≤ 5280) (l9 : 0 ≤ i) (u9 : i ≤ 399) (l10 : 879 ≤ a) (u10 : a ≤ 6177) (l11 : 0 ≤ v) (u11 : v ≤ 1000) : bx_okT rxL (rxL.2.2.1 482 a) v ∧ rxI242_22 S0 ws (bx_up S 482 a v) base i a v ∧ rxm242_22 S0 ws (bx_up S 482 a v) base i a v < rxm242_21 S0 ws S base i a v := by
  obtain ⟨rfl, rfl, ho, hi, h1, h2, h3⟩ := hinv
  have b16 := rxBox16 I0
  have b18 := rxBox18 I0
  have hb := h1.2.2.2.2
  have e16 : bx_up S 482 (base + 98 + 2 * i + 1) (S 488 i) 480 16 = S 480 16 := by rw [bx_up_row (by omega)]
  have e18 : bx_up S 482 (base + 98 + 2 * i + 1) (S 488 i) 480 18 = S 480 18 := by rw [bx_up_row (by omega)]
  refine ⟨?_, ⟨by rw [e18]; exact hi, rxRx_st h1 b16.2 b18.2 (by omega) (by omega), fun j j0 j1 => ?_, fun j j0 j1 => ?_⟩, by unfold rxm242_21 rxm242_22; omega⟩
  · rw [rxT482, bx_dW_ok (rxDw _ hb.2.1 hb.2.2).2.1 (by omega) (by omega) (by rw [← hb.1, show base + 98 + 2 * i + 1 - (base + 99) = 2 * i by omega]; omega)]
    exact ⟨l11, u11⟩
  · rw [e16] at j1
    rw [bx_up_ne (by omega), bx_up_row (by omega)]
    exact h2 j j0 j1
  · rw [bx_up_row (p_p := 487) (by omega), bx_up_row (p_p := 488) (by omega)]
    by_cases hj : j = i
    · subst hj
      rw [bx_up_ne (by omega), bx_up_at]
      exact ⟨ho, rfl⟩
    · rw [bx_up_ne (by omega), bx_up_ne (by omega)]
      exact h3 j j0 (by omega)
theorem rxs242_21 {X : (Nat → Int → Int) → Prop} {S0 : Nat → Int → Int} {ws : List Int} (hP : rxP242 S0 ws) (hX : ∀ S S1 : Nat → Int → Int, X S → bx_same rxL (bx_mdl rxC242.2.2.1) S S1 → X S1) : rx_obS X S0 rxC242.2.2.1 (rxI242 S0 ws) (rxm242 S0 ws) 21 22 rxz242_21 482 10 11 := by
  intro S r hinv hXS I0 hin hs_ hf_
  have b_ := bx_bds_sat hs_
  have f_ := bx_fcl_ok hs_.1 hf_
  obtain ⟨⟨l8, u8⟩, ⟨l9, u9⟩, ⟨l10, u10⟩, ⟨l11, u11⟩, -⟩ := b_
  have g := rxt242_21 hP hin I0 hinv l8 u8 l9 u9 l10 u10 l11 u11
  exact ⟨g.1, g.2.1, g.2.2, hX _ _ hXS (rx_same_upR (fun _ _ _ _ _ => rfl) (tc := 0) (n := 6180) (g := 63) rfl (by decide +kernel) l10 u10), rx_same_upR hin (tc := 0) (n := 6180) (g := 63) rfl (by decide +kernel) l10 u10⟩
theorem rxc242_0_0 {S0 : Nat → Int → Int} {ws : List Int} {S : Nat → Int → Int} {x8 : Int} (hP : rxP242 S0 ws) (hin : bx_same rxL (bx_mdl rxC242.2.2.1) S0 S) (I0 : bx_Inv rxL S) (hinv : rxI242_0 S0 ws S) (l8 : 0 ≤ x8) (u8 : x8 ≤ 5) (f0 : x8 ≠ 6) (e0 : (bx_up S 480 0 0) 482 3 = x8) : (True) ∧ (True) ∧ rxI242_1 S0 ws (bx_up S 480 0 0) ∧ rxm242_1 S0 ws (bx_up S 480 0 0) < rxm242_0 S0 ws S := by
  obtain ⟨rfl, hw⟩ := hinv
  have g3 := rx_inv I0 (p := 482) (j := 3) (by omega) rxW482 (by omega) (by omega) rfl
  have g3 : 0 ≤ S 482 3 ∧ S 482 3 ≤ 6 := g3
  have r482 : ∀ x : Int, (bx_up S 480 0 0) 482 x = S 482 x := fun x => by simp [bx_up]
  exact ⟨trivial, trivial, ⟨fun j _ _ => r482 j, g3.1, by rw [r482] at e0; omega⟩, by unfold rxm242_0 rxm242_1; omega⟩
theorem rxg242_0_0 {X : (Nat → Int → Int) → Prop} {S0 : Nat → Int → Int} {ws : List Int} (hP : rxP242 S0 ws) : bx_obC rxL X S0 rxC242.2.2.1 (rxI242 S0 ws) (rxm242 S0 ws) 0 rxz242_0 rxo242_0_0 := by
  intro S S_p r r_p hinv hX hin hsm_ hseg
  obtain ⟨I0, I1, h0_, hr_, b_, f_, d_⟩ := bx_cl (evs := [(0, (0, 482), (0, 3), .inr (0, (8, 0))), (1, (0, 480), (0, 0), .inr (0, (0, 0)))]) (fvs := [(3, (8, 0), (0, 6), (0, 0))]) hseg (by decide +kernel) (by decide +kernel)
  have hinv : rxI242_0 S0 ws S := hinv
  obtain ⟨⟨l8, u8⟩, -⟩ := b_
  obtain ⟨f0, -⟩ := f_
  obtain ⟨e0, ⟨T1, w_, w1⟩⟩ := d_
  subst w1
  subst w_
  have g := rxc242_0_0 hP hin I0 hinv l8 u8 f0 e0
  refine ⟨bx_narP_ok (l := []) g.1, bx_nfP_ok h0_ (fvs := []) (by decide +kernel) g.2.1, ?_, ?_⟩
  · show rxI242_1 S0 ws (bx_up T1 480 (0) (0))
    exact g.2.2.1
  · show rxm242_1 S0 ws (bx_up T1 480 (0) (0)) < rxm242_0 S0 ws T1
    exact g.2.2.2
theorem rxd242_0_0 {S0 : Nat → Int → Int} {ws : List Int} {S : Nat → Int → Int} {x8 x9 x10 : Int} (hP : rxP242 S0 ws) (hin : bx_same rxL (bx_mdl rxC242.2.2.1) S0 S) (hin2 : bx_same rxL (bx_mdl rxC242.2.2.1) S (bx_up (bx_up (bx_up (bx_up S 480 0 0) 480 8 0) 480 1 ((-5))) 481 5 x10)) (I0 : bx_Inv rxL S) (I1 : bx_Inv rxL (bx_up (bx_up (bx_up (bx_up S 480 0 0) 480 8 0) 480 1 ((-5))) 481 5 x10)) (hinv : rxI242_0 S0 ws S) (l8 : 6 ≤ x8) (u8 : x8 ≤ 6) (l9 : (-2147483648) ≤ x9) (u9 : x9 ≤ 2147483647) (l10 : (-2147483648) ≤ x10) (u10 : x10 ≤ 2147483647) (e4 : (bx_up S 480 0 0) 482 3 = x8) (e1 : (bx_up (bx_up (bx_up S 480 0 0) 480 8 0) 480 1 ((-5))) 481 5 = x9) : (True) ∧ rxPS242 S0 ws (bx_up (bx_up (bx_up (bx_up S 480 0 0) 480 8 0) 480 1 ((-5))) 481 5 x10) (some ((-5))) := by
  obtain ⟨rfl, hw⟩ := hinv
  have r482 : ∀ x : Int, (bx_up (bx_up (bx_up (bx_up S 480 0 0) 480 8 0) 480 1 ((-5))) 481 5 x10) 482 x = S 482 x := fun x => by simp [bx_up]
  have r483 : ∀ x : Int, (bx_up (bx_up (bx_up (bx_up S 480 0 0) 480 8 0) 480 1 ((-5))) 481 5 x10) 483 x = S 483 x := fun x => by simp [bx_up]
  have f15 : (bx_up (bx_up (bx_up (bx_up S 480 0 0) 480 8 0) 480 1 ((-5))) 481 5 x10) 480 15 = S 480 15 := by simp [bx_up]
  refine ⟨trivial, rxX_img hP (fun i _ _ => r483 i) ?_ (f15.trans hP.2.2.2)⟩
  exact rxTq_cg hP.1 fun i _ _ => r482 i
theorem rxf242_0_0 {X : (Nat → Int → Int) → Prop} {S0 : Nat → Int → Int} {ws : List Int} (hP : rxP242 S0 ws) : bx_obE rxL X S0 rxC242.2.2.1 (rxI242 S0 ws) (rxPS242 S0 ws) 0 rxz242_0 rxe242_0_0 := by
  intro S S_p r r_p hinv hX hin hsm_ hseg
  obtain ⟨I0, I1, h0_, hr_, b_, f_, d_⟩ := bx_cl (evs := [(1, (0, 481), (0, 5), .inr (0, (10, 0))), (0, (0, 481), (0, 5), .inr (0, (9, 0))), (1, (0, 480), (0, 1), .inr (0, (0, (-5)))), (1, (0, 480), (0, 8), .inr (0, (0, 0))), (0, (0, 482), (0, 3), .inr (0, (8, 0))), (1, (0, 480), (0, 0), .inr (0, (0, 0)))]) (fvs := []) hseg (by decide +kernel) (by decide +kernel)
  have hinv : rxI242_0 S0 ws S := hinv
  obtain ⟨⟨l8, u8⟩, ⟨l9, u9⟩, ⟨l10, u10⟩, -⟩ := b_
  obtain ⟨T0, ⟨e1, ⟨T2, ⟨T3, ⟨e4, ⟨T5, w_, w5⟩⟩, w3⟩, w2⟩⟩, w0⟩ := d_
  subst w0
  subst w2
  subst w3
  subst w5
  subst w_
  have g := rxd242_0_0 hP hin hsm_ I0 I1 hinv l8 u8 l9 u9 l10 u10 e4 e1
  refine ⟨bx_narP_ok (l := []) g.1, ?_⟩
  show rxPS242 S0 ws (bx_up (bx_up (bx_up (bx_up T5 480 (0) (0)) 480 (8) (0)) 480 (1) ((-5))) 481 (5) (r_p 10)) (some (bx_num r_p (.inr (0, (0, (-5))))))
  rw [bx_xv_ok h0_]
  exact g.2
theorem rxc242_2_0 {S0 : Nat → Int → Int} {ws : List Int} {S : Nat → Int → Int} (hP : rxP242 S0 ws) (hin : bx_same rxL (bx_mdl rxC242.2.2.1) S0 S) (I0 : bx_Inv rxL S) (hinv : rxI242_2 S0 ws S)  : (True) ∧ (True) ∧ rxI242_3 S0 ws S ∧ rxm242_3 S0 ws S < rxm242_2 S0 ws S := by
  exact ⟨trivial, trivial, hinv, by unfold rxm242_2 rxm242_3; omega⟩
theorem rxg242_2_0 {X : (Nat → Int → Int) → Prop} {S0 : Nat → Int → Int} {ws : List Int} (hP : rxP242 S0 ws) : bx_obC rxL X S0 rxC242.2.2.1 (rxI242 S0 ws) (rxm242 S0 ws) 2 rxz242_2 rxo242_2_0 := by
  intro S S_p r r_p hinv hX hin hsm_ hseg
  obtain ⟨I0, I1, h0_, hr_, b_, f_, d_⟩ := bx_cl (evs := []) (fvs := []) hseg (by decide +kernel) (by decide +kernel)
  have hinv : rxI242_2 S0 ws S := hinv
  have w_ := d_
  subst w_
  have g := rxc242_2_0 hP hin I0 hinv 
  refine ⟨bx_narP_ok (l := []) g.1, bx_nfP_ok h0_ (fvs := []) (by decide +kernel) g.2.1, ?_, ?_⟩
  · show rxI242_3 S0 ws S_p
    exact g.2.2.1
  · show rxm242_3 S0 ws S_p < rxm242_2 S0 ws S_p
    exact g.2.2.2
theorem rxc242_4_0 {S0 : Nat → Int → Int} {ws : List Int} {S : Nat → Int → Int} {x8 x9 : Int} (hP : rxP242 S0 ws) (hin : bx_same rxL (bx_mdl rxC242.2.2.1) S0 S) (I0 : bx_Inv rxL S) (hinv : rxI242_4 S0 ws S) (l8 : 0 ≤ x8) (u8 : x8 ≤ 0) (l9 : 0 ≤ x9) (u9 : x9 ≤ 2) (f0 : x9 ≠ 3) (e1 : S 480 14 = x8) (e0 : S 480 11 = x9) : (True) ∧ (True) ∧ rxI242_10 S0 ws S ∧ rxm242_10 S0 ws S < rxm242_4 S0 ws S := by
  have b14 := rxBox14 I0
  have b16 := rxBox16 I0
  exact ⟨trivial, trivial, hinv, by unfold rxm242_4 rxm242_10; omega⟩
theorem rxg242_4_0 {X : (Nat → Int → Int) → Prop} {S0 : Nat → Int → Int} {ws : List Int} (hP : rxP242 S0 ws) : bx_obC rxL X S0 rxC242.2.2.1 (rxI242 S0 ws) (rxm242 S0 ws) 4 rxz242_4 rxo242_4_0 := by
  intro S S_p r r_p hinv hX hin hsm_ hseg
  obtain ⟨I0, I1, h0_, hr_, b_, f_, d_⟩ := bx_cl (evs := [(0, (0, 480), (0, 11), .inr (0, (9, 0))), (0, (0, 480), (0, 14), .inr (0, (8, 0)))]) (fvs := [(3, (9, 0), (0, 3), (0, 0))]) hseg (by decide +kernel) (by decide +kernel)
  have hinv : rxI242_4 S0 ws S := hinv
  obtain ⟨⟨l8, u8⟩, ⟨l9, u9⟩, -⟩ := b_
  obtain ⟨f0, -⟩ := f_
  obtain ⟨e0, ⟨e1, w_⟩⟩ := d_
  subst w_
  have g := rxc242_4_0 hP hin I0 hinv l8 u8 l9 u9 f0 e1 e0
  refine ⟨bx_narP_ok (l := []) g.1, bx_nfP_ok h0_ (fvs := []) (by decide +kernel) g.2.1, ?_, ?_⟩
  · show rxI242_10 S0 ws S_p
    exact g.2.2.1
  · show rxm242_10 S0 ws S_p < rxm242_4 S0 ws S_p
    exact g.2.2.2
theorem rxc242_4_1 {S0 : Nat → Int → Int} {ws : List Int} {S : Nat → Int → Int} {x8 x9 x10 : Int} (hP : rxP242 S0 ws) (hin : bx_same rxL (bx_mdl rxC242.2.2.1) S0 S) (I0 : bx_Inv rxL S) (hinv : rxI242_4 S0 ws S) (l8 : 0 ≤ x8) (u8 : x8 ≤ 0) (l9 : 3 ≤ x9) (u9 : x9 ≤ 3) (l10 : (-9223372036854775808) ≤ x10) (u10 : x10 ≤ 9223372036854775807) (f0 : x10 ≠ 59) (e2 : S 480 14 = x8) (e1 : S 480 11 = x9) (e0 : S 480 12 = x10) : (True) ∧ (True) ∧ rxI242_10 S0 ws S ∧ rxm242_10 S0 ws S < rxm242_4 S0 ws S := by
  have b14 := rxBox14 I0
  have b16 := rxBox16 I0
  exact ⟨trivial, trivial, hinv, by unfold rxm242_4 rxm242_10; omega⟩
theorem rxg242_4_1 {X : (Nat → Int → Int) → Prop} {S0 : Nat → Int → Int} {ws : List Int} (hP : rxP242 S0 ws) : bx_obC rxL X S0 rxC242.2.2.1 (rxI242 S0 ws) (rxm242 S0 ws) 4 rxz242_4 rxo242_4_1 := by
  intro S S_p r r_p hinv hX hin hsm_ hseg
  obtain ⟨I0, I1, h0_, hr_, b_, f_, d_⟩ := bx_cl (evs := [(0, (0, 480), (0, 12), .inr (1, (10, 0))), (0, (0, 480), (0, 11), .inr (0, (9, 0))), (0, (0, 480), (0, 14), .inr (0, (8, 0)))]) (fvs := [(3, (10, 0), (0, 59), (0, 0))]) hseg (by decide +kernel) (by decide +kernel)
  have hinv : rxI242_4 S0 ws S := hinv
  obtain ⟨⟨l8, u8⟩, ⟨l9, u9⟩, ⟨l10, u10⟩, -⟩ := b_
  obtain ⟨f0, -⟩ := f_
  obtain ⟨e0, ⟨e1, ⟨e2, w_⟩⟩⟩ := d_
  subst w_
  have g := rxc242_4_1 hP hin I0 hinv l8 u8 l9 u9 l10 u10 f0 e2 e1 e0
  refine ⟨bx_narP_ok (l := []) g.1, bx_nfP_ok h0_ (fvs := []) (by decide +kernel) g.2.1, ?_, ?_⟩
  · show rxI242_10 S0 ws S_p
    exact g.2.2.1
  · show rxm242_10 S0 ws S_p < rxm242_4 S0 ws S_p
    exact g.2.2.2
theorem rxc242_4_2 {S0 : Nat → Int → Int} {ws : List Int} {S : Nat → Int → Int} {x8 x9 x10 : Int} (hP : rxP242 S0 ws) (hin : bx_same rxL (bx_mdl rxC242.2.2.1) S0 S) (I0 : bx_Inv rxL S) (hinv : rxI242_4 S0 ws S) (l8 : 0 ≤ x8) (u8 : x8 ≤ 0) (l9 : 3 ≤ x9) (u9 : x9 ≤ 3) (l10 : 59 ≤ x10) (u10 : x10 ≤ 59) (e2 : S 480 14 = x8) (e1 : S 480 11 = x9) (e0 : S 480 12 = x10) : (True) ∧ (True) ∧ rxI242_6 S0 ws S ∧ rxm242_6 S0 ws S < rxm242_4 S0 ws S := by
  have b14 := rxBox14 I0
  have b16 := rxBox16 I0
  obtain ⟨h1, h2, h3⟩ := hinv
  exact ⟨trivial, trivial, ⟨h1, h2, h3, by omega⟩, by unfold rxm242_4 rxm242_6; omega⟩
theorem rxg242_4_2 {X : (Nat → Int → Int) → Prop} {S0 : Nat → Int → Int} {ws : List Int} (hP : rxP242 S0 ws) : bx_obC rxL X S0 rxC242.2.2.1 (rxI242 S0 ws) (rxm242 S0 ws) 4 rxz242_4 rxo242_4_2 := by
  intro S S_p r r_p hinv hX hin hsm_ hseg
  obtain ⟨I0, I1, h0_, hr_, b_, f_, d_⟩ := bx_cl (evs := [(0, (0, 480), (0, 12), .inr (1, (10, 0))), (0, (0, 480), (0, 11), .inr (0, (9, 0))), (0, (0, 480), (0, 14), .inr (0, (8, 0)))]) (fvs := []) hseg (by decide +kernel) (by decide +kernel)
  have hinv : rxI242_4 S0 ws S := hinv
  obtain ⟨⟨l8, u8⟩, ⟨l9, u9⟩, ⟨l10, u10⟩, -⟩ := b_
  obtain ⟨e0, ⟨e1, ⟨e2, w_⟩⟩⟩ := d_
  subst w_
  have g := rxc242_4_2 hP hin I0 hinv l8 u8 l9 u9 l10 u10 e2 e1 e0
  refine ⟨bx_narP_ok (l := []) g.1, bx_nfP_ok h0_ (fvs := []) (by decide +kernel) g.2.1, ?_, ?_⟩
  · show rxI242_6 S0 ws S_p
    exact g.2.2.1
  · show rxm242_6 S0 ws S_p < rxm242_4 S0 ws S_p
    exact g.2.2.2
theorem rxc242_4_3 {S0 : Nat → Int → Int} {ws : List Int} {S : Nat → Int → Int} {x8 : Int} (hP : rxP242 S0 ws) (hin : bx_same rxL (bx_mdl rxC242.2.2.1) S0 S) (I0 : bx_Inv rxL S) (hinv : rxI242_4 S0 ws S) (l8 : 1 ≤ x8) (u8 : x8 ≤ 1) (f0 : x8 ≠ 0) (e0 : S 480 14 = x8) : (True) ∧ (True) ∧ rxI242_10 S0 ws S ∧ rxm242_10 S0 ws S < rxm242_4 S0 ws S := by
  have b14 := rxBox14 I0
  have b16 := rxBox16 I0
  exact ⟨trivial, trivial, hinv, by unfold rxm242_4 rxm242_10; omega⟩
theorem rxg242_4_3 {X : (Nat → Int → Int) → Prop} {S0 : Nat → Int → Int} {ws : List Int} (hP : rxP242 S0 ws) : bx_obC rxL X S0 rxC242.2.2.1 (rxI242 S0 ws) (rxm242 S0 ws) 4 rxz242_4 rxo242_4_3 := by
  intro S S_p r r_p hinv hX hin hsm_ hseg
  obtain ⟨I0, I1, h0_, hr_, b_, f_, d_⟩ := bx_cl (evs := [(0, (0, 480), (0, 14), .inr (0, (8, 0)))]) (fvs := [(3, (8, 0), (0, 0), (0, 0))]) hseg (by decide +kernel) (by decide +kernel)
  have hinv : rxI242_4 S0 ws S := hinv
  obtain ⟨⟨l8, u8⟩, -⟩ := b_
  obtain ⟨f0, -⟩ := f_
  obtain ⟨e0, w_⟩ := d_
  subst w_
  have g := rxc242_4_3 hP hin I0 hinv l8 u8 f0 e0
  refine ⟨bx_narP_ok (l := []) g.1, bx_nfP_ok h0_ (fvs := []) (by decide +kernel) g.2.1, ?_, ?_⟩
  · show rxI242_10 S0 ws S_p
    exact g.2.2.1
  · show rxm242_10 S0 ws S_p < rxm242_4 S0 ws S_p
    exact g.2.2.2
theorem rxc242_5_0 {S0 : Nat → Int → Int} {ws : List Int} {S : Nat → Int → Int} {x8 x9 : Int} (hP : rxP242 S0 ws) (hin : bx_same rxL (bx_mdl rxC242.2.2.1) S0 S) (I0 : bx_Inv rxL S) (hinv : rxI242_5 S0 ws S) (l8 : 0 ≤ x8) (u8 : x8 ≤ 0) (l9 : 0 ≤ x9) (u9 : x9 ≤ 2) (f0 : x9 ≠ 3) (e1 : S 480 14 = x8) (e0 : S 480 11 = x9) : (True) ∧ (True) ∧ rxI242_10 S0 ws S ∧ rxm242_10 S0 ws S < rxm242_5 S0 ws S := by
  have b14 := rxBox14 I0
  have b16 := rxBox16 I0
  exact ⟨trivial, trivial, hinv, by unfold rxm242_5 rxm242_10; omega⟩
theorem rxg242_5_0 {X : (Nat → Int → Int) → Prop} {S0 : Nat → Int → Int} {ws : List Int} (hP : rxP242 S0 ws) : bx_obC rxL X S0 rxC242.2.2.1 (rxI242 S0 ws) (rxm242 S0 ws) 5 rxz242_5 rxo242_5_0 := by
  intro S S_p r r_p hinv hX hin hsm_ hseg
  obtain ⟨I0, I1, h0_, hr_, b_, f_, d_⟩ := bx_cl (evs := [(0, (0, 480), (0, 11), .inr (0, (9, 0))), (0, (0, 480), (0, 14), .inr (0, (8, 0)))]) (fvs := [(3, (9, 0), (0, 3), (0, 0))]) hseg (by decide +kernel) (by decide +kernel)
  have hinv : rxI242_5 S0 ws S := hinv
  obtain ⟨⟨l8, u8⟩, ⟨l9, u9⟩, -⟩ := b_
  obtain ⟨f0, -⟩ := f_
  obtain ⟨e0, ⟨e1, w_⟩⟩ := d_
  subst w_
  have g := rxc242_5_0 hP hin I0 hinv l8 u8 l9 u9 f0 e1 e0
  refine ⟨bx_narP_ok (l := []) g.1, bx_nfP_ok h0_ (fvs := []) (by decide +kernel) g.2.1, ?_, ?_⟩
  · show rxI242_10 S0 ws S_p
    exact g.2.2.1
  · show rxm242_10 S0 ws S_p < rxm242_5 S0 ws S_p
    exact g.2.2.2
theorem rxc242_5_1 {S0 : Nat → Int → Int} {ws : List Int} {S : Nat → Int → Int} {x8 x9 x10 : Int} (hP : rxP242 S0 ws) (hin : bx_same rxL (bx_mdl rxC242.2.2.1) S0 S) (I0 : bx_Inv rxL S) (hinv : rxI242_5 S0 ws S) (l8 : 0 ≤ x8) (u8 : x8 ≤ 0) (l9 : 3 ≤ x9) (u9 : x9 ≤ 3) (l10 : (-9223372036854775808) ≤ x10) (u10 : x10 ≤ 9223372036854775807) (f0 : x10 ≠ 59) (e2 : S 480 14 = x8) (e1 : S 480 11 = x9) (e0 : S 480 12 = x10) : (True) ∧ (True) ∧ rxI242_10 S0 ws S ∧ rxm242_10 S0 ws S < rxm242_5 S0 ws S := by
  have b14 := rxBox14 I0
  have b16 := rxBox16 I0
  exact ⟨trivial, trivial, hinv, by unfold rxm242_5 rxm242_10; omega⟩
theorem rxg242_5_1 {X : (Nat → Int → Int) → Prop} {S0 : Nat → Int → Int} {ws : List Int} (hP : rxP242 S0 ws) : bx_obC rxL X S0 rxC242.2.2.1 (rxI242 S0 ws) (rxm242 S0 ws) 5 rxz242_5 rxo242_5_1 := by
  intro S S_p r r_p hinv hX hin hsm_ hseg
  obtain ⟨I0, I1, h0_, hr_, b_, f_, d_⟩ := bx_cl (evs := [(0, (0, 480), (0, 12), .inr (1, (10, 0))), (0, (0, 480), (0, 11), .inr (0, (9, 0))), (0, (0, 480), (0, 14), .inr (0, (8, 0)))]) (fvs := [(3, (10, 0), (0, 59), (0, 0))]) hseg (by decide +kernel) (by decide +kernel)
  have hinv : rxI242_5 S0 ws S := hinv
  obtain ⟨⟨l8, u8⟩, ⟨l9, u9⟩, ⟨l10, u10⟩, -⟩ := b_
  obtain ⟨f0, -⟩ := f_
  obtain ⟨e0, ⟨e1, ⟨e2, w_⟩⟩⟩ := d_
  subst w_
  have g := rxc242_5_1 hP hin I0 hinv l8 u8 l9 u9 l10 u10 f0 e2 e1 e0
  refine ⟨bx_narP_ok (l := []) g.1, bx_nfP_ok h0_ (fvs := []) (by decide +kernel) g.2.1, ?_, ?_⟩
  · show rxI242_10 S0 ws S_p
    exact g.2.2.1
  · show rxm242_10 S0 ws S_p < rxm242_5 S0 ws S_p
    exact g.2.2.2
theorem rxc242_5_2 {S0 : Nat → Int → Int} {ws : List Int} {S : Nat → Int → Int} {x8 x9 x10 : Int} (hP : rxP242 S0 ws) (hin : bx_same rxL (bx_mdl rxC242.2.2.1) S0 S) (I0 : bx_Inv rxL S) (hinv : rxI242_5 S0 ws S) (l8 : 0 ≤ x8) (u8 : x8 ≤ 0) (l9 : 3 ≤ x9) (u9 : x9 ≤ 3) (l10 : 59 ≤ x10) (u10 : x10 ≤ 59) (e2 : S 480 14 = x8) (e1 : S 480 11 = x9) (e0 : S 480 12 = x10) : (True) ∧ (True) ∧ rxI242_6 S0 ws S ∧ rxm242_6 S0 ws S < rxm242_5 S0 ws S := by
  have b14 := rxBox14 I0
  have b16 := rxBox16 I0
  obtain ⟨h1, h2, h3⟩ := hinv
  exact ⟨trivial, trivial, ⟨h1, h2, h3, by omega⟩, by unfold rxm242_5 rxm242_6; omega⟩
theorem rxg242_5_2 {X : (Nat → Int → Int) → Prop} {S0 : Nat → Int → Int} {ws : List Int} (hP : rxP242 S0 ws) : bx_obC rxL X S0 rxC242.2.2.1 (rxI242 S0 ws) (rxm242 S0 ws) 5 rxz242_5 rxo242_5_2 := by
  intro S S_p r r_p hinv hX hin hsm_ hseg
  obtain ⟨I0, I1, h0_, hr_, b_, f_, d_⟩ := bx_cl (evs := [(0, (0, 480), (0, 12), .inr (1, (10, 0))), (0, (0, 480), (0, 11), .inr (0, (9, 0))), (0, (0, 480), (0, 14), .inr (0, (8, 0)))]) (fvs := []) hseg (by decide +kernel) (by decide +kernel)
  have hinv : rxI242_5 S0 ws S := hinv
  obtain ⟨⟨l8, u8⟩, ⟨l9, u9⟩, ⟨l10, u10⟩, -⟩ := b_
  obtain ⟨e0, ⟨e1, ⟨e2, w_⟩⟩⟩ := d_
  subst w_
  have g := rxc242_5_2 hP hin I0 hinv l8 u8 l9 u9 l10 u10 e2 e1 e0
  refine ⟨bx_narP_ok (l := []) g.1, bx_nfP_ok h0_ (fvs := []) (by decide +kernel) g.2.1, ?_, ?_⟩
  · show rxI242_6 S0 ws S_p
    exact g.2.2.1
  · show rxm242_6 S0 ws S_p < rxm242_5 S0 ws S_p
    exact g.2.2.2
theorem rxc242_5_3 {S0 : Nat → Int → Int} {ws : List Int} {S : Nat → Int → Int} {x8 : Int} (hP : rxP242 S0 ws) (hin : bx_same rxL (bx_mdl rxC242.2.2.1) S0 S) (I0 : bx_Inv rxL S) (hinv : rxI242_5 S0 ws S) (l8 : 1 ≤ x8) (u8 : x8 ≤ 1) (f0 : x8 ≠ 0) (e0 : S 480 14 = x8) : (True) ∧ (True) ∧ rxI242_10 S0 ws S ∧ rxm242_10 S0 ws S < rxm242_5 S0 ws S := by
  have b14 := rxBox14 I0
  have b16 := rxBox16 I0
  exact ⟨trivial, trivial, hinv, by unfold rxm242_5 rxm242_10; omega⟩
theorem rxg242_5_3 {X : (Nat → Int → Int) → Prop} {S0 : Nat → Int → Int} {ws : List Int} (hP : rxP242 S0 ws) : bx_obC rxL X S0 rxC242.2.2.1 (rxI242 S0 ws) (rxm242 S0 ws) 5 rxz242_5 rxo242_5_3 := by
  intro S S_p r r_p hinv hX hin hsm_ hseg
  obtain ⟨I0, I1, h0_, hr_, b_, f_, d_⟩ := bx_cl (evs := [(0, (0, 480), (0, 14), .inr (0, (8, 0)))]) (fvs := [(3, (8, 0), (0, 0), (0, 0))]) hseg (by decide +kernel) (by decide +kernel)
  have hinv : rxI242_5 S0 ws S := hinv
  obtain ⟨⟨l8, u8⟩, -⟩ := b_
  obtain ⟨f0, -⟩ := f_
  obtain ⟨e0, w_⟩ := d_
  subst w_
  have g := rxc242_5_3 hP hin I0 hinv l8 u8 f0 e0
  refine ⟨bx_narP_ok (l := []) g.1, bx_nfP_ok h0_ (fvs := []) (by decide +kernel) g.2.1, ?_, ?_⟩
  · show rxI242_10 S0 ws S_p
    exact g.2.2.1
  · show rxm242_10 S0 ws S_p < rxm242_5 S0 ws S_p
    exact g.2.2.2
theorem rxc242_7_0 {S0 : Nat → Int → Int} {ws : List Int} {S : Nat → Int → Int} (hP : rxP242 S0 ws) (hin : bx_same rxL (bx_mdl rxC242.2.2.1) S0 S) (I0 : bx_Inv rxL S) (hinv : rxI242_7 S0 ws S)  : (True) ∧ (True) ∧ rxI242_8 S0 ws S ∧ rxm242_8 S0 ws S < rxm242_7 S0 ws S := by
  have b16 := rxBox16 I0
  exact ⟨trivial, trivial, hinv, by unfold rxm242_7 rxm242_8; omega⟩
theorem rxg242_7_0 {X : (Nat → Int → Int) → Prop} {S0 : Nat → Int → Int} {ws : List Int} (hP : rxP242 S0 ws) : bx_obC rxL X S0 rxC242.2.2.1 (rxI242 S0 ws) (rxm242 S0 ws) 7 rxz242_7 rxo242_7_0 := by
  intro S S_p r r_p hinv hX hin hsm_ hseg
  obtain ⟨I0, I1, h0_, hr_, b_, f_, d_⟩ := bx_cl (evs := []) (fvs := []) hseg (by decide +kernel) (by decide +kernel)
  have hinv : rxI242_7 S0 ws S := hinv
  have w_ := d_
  subst w_
  have g := rxc242_7_0 hP hin I0 hinv 
  refine ⟨bx_narP_ok (l := []) g.1, bx_nfP_ok h0_ (fvs := []) (by decide +kernel) g.2.1, ?_, ?_⟩
  · show rxI242_8 S0 ws S_p
    exact g.2.2.1
  · show rxm242_8 S0 ws S_p < rxm242_7 S0 ws S_p
    exact g.2.2.2
theorem rxc242_9_0 {S0 : Nat → Int → Int} {ws : List Int} {S : Nat → Int → Int} (hP : rxP242 S0 ws) (hin : bx_same rxL (bx_mdl rxC242.2.2.1) S0 S) (I0 : bx_Inv rxL S) (hinv : rxI242_9 S0 ws S)  : (True) ∧ (True) ∧ rxI242_5 S0 ws S ∧ rxm242_5 S0 ws S < rxm242_9 S0 ws S := by
  have b16 := rxBox16 I0
  exact ⟨trivial, trivial, hinv, by unfold rxm242_9 rxm242_5; omega⟩
theorem rxg242_9_0 {X : (Nat → Int → Int) → Prop} {S0 : Nat → Int → Int} {ws : List Int} (hP : rxP242 S0 ws) : bx_obC rxL X S0 rxC242.2.2.1 (rxI242 S0 ws) (rxm242 S0 ws) 9 rxz242_9 rxo242_9_0 := by
  intro S S_p r r_p hinv hX hin hsm_ hseg
  obtain ⟨I0, I1, h0_, hr_, b_, f_, d_⟩ := bx_cl (evs := []) (fvs := []) hseg (by decide +kernel) (by decide +kernel)
  have hinv : rxI242_9 S0 ws S := hinv
  have w_ := d_
  subst w_
  have g := rxc242_9_0 hP hin I0 hinv 
  refine ⟨bx_narP_ok (l := []) g.1, bx_nfP_ok h0_ (fvs := []) (by decide +kernel) g.2.1, ?_, ?_⟩
  · show rxI242_5 S0 ws S_p
    exact g.2.2.1
  · show rxm242_5 S0 ws S_p < rxm242_9 S0 ws S_p
    exact g.2.2.2
theorem rxc242_11_0 {S0 : Nat → Int → Int} {ws : List Int} {S : Nat → Int → Int} {x8 x9 : Int} (hP : rxP242 S0 ws) (hin : bx_same rxL (bx_mdl rxC242.2.2.1) S0 S) (I0 : bx_Inv rxL S) (hinv : rxI242_11 S0 ws S) (l8 : 0 ≤ x8) (u8 : x8 ≤ 0) (l9 : 0 ≤ x9) (u9 : x9 ≤ 6) (e1 : S 480 14 = x8) (e0 : S 482 3 = x9) : ((0 ≤ x9 ∧ x9 ≤ 5) ∧ True) ∧ (True) ∧ rxI242_12 S0 ws S x9 ∧ rxm242_12 S0 ws S x9 < rxm242_11 S0 ws S := by
  obtain ⟨h1, h2, h3⟩ := hinv
  have g := h1.1 3 (by omega) (by omega)
  have g2 := h1.2
  exact ⟨⟨by omega, trivial⟩, trivial, ⟨by omega, h1, h2, h3 (by omega)⟩, by unfold rxm242_11 rxm242_12; omega⟩
theorem rxg242_11_0 {X : (Nat → Int → Int) → Prop} {S0 : Nat → Int → Int} {ws : List Int} (hP : rxP242 S0 ws) : bx_obC rxL X S0 rxC242.2.2.1 (rxI242 S0 ws) (rxm242 S0 ws) 11 rxz242_11 rxo242_11_0 := by
  intro S S_p r r_p hinv hX hin hsm_ hseg
  obtain ⟨I0, I1, h0_, hr_, b_, f_, d_⟩ := bx_cl (evs := [(0, (0, 482), (0, 3), .inr (0, (9, 0))), (0, (0, 480), (0, 14), .inr (0, (8, 0)))]) (fvs := []) hseg (by decide +kernel) (by decide +kernel)
  have hinv : rxI242_11 S0 ws S := hinv
  obtain ⟨⟨l8, u8⟩, ⟨l9, u9⟩, -⟩ := b_
  obtain ⟨e0, ⟨e1, w_⟩⟩ := d_
  subst w_
  have g := rxc242_11_0 hP hin I0 hinv l8 u8 l9 u9 e1 e0
  refine ⟨bx_narP_ok (l := [(9, 0, 5)]) g.1, bx_nfP_ok h0_ (fvs := []) (by decide +kernel) g.2.1, ?_, ?_⟩
  · show rxI242_12 S0 ws S_p (bx_val [(0, 0), (0, 0), (0, 0), (0, 0), (0, 0), (0, 0), (0, 0), (0, 0), (9, 0)] r_p 8)
    rw [bx_val_x (n := 8) (e := (9, 0)) h0_ rfl]
    exact g.2.2.1
  · show rxm242_12 S0 ws S_p (bx_val [(0, 0), (0, 0), (0, 0), (0, 0), (0, 0), (0, 0), (0, 0), (0, 0), (9, 0)] r_p 8) < rxm242_11 S0 ws S_p
    rw [bx_val_x (n := 8) (e := (9, 0)) h0_ rfl]
    exact g.2.2.2
theorem rxd242_11_0 {S0 : Nat → Int → Int} {ws : List Int} {S : Nat → Int → Int} {x8 x9 x10 : Int} (hP : rxP242 S0 ws) (hin : bx_same rxL (bx_mdl rxC242.2.2.1) S0 S) (hin2 : bx_same rxL (bx_mdl rxC242.2.2.1) S (bx_up (bx_up S 480 1 ((-6))) 481 6 x10)) (I0 : bx_Inv rxL S) (I1 : bx_Inv rxL (bx_up (bx_up S 480 1 ((-6))) 481 6 x10)) (hinv : rxI242_11 S0 ws S) (l8 : 1 ≤ x8) (u8 : x8 ≤ 1) (l9 : (-2147483648) ≤ x9) (u9 : x9 ≤ 2147483647) (l10 : (-2147483648) ≤ x10) (u10 : x10 ≤ 2147483647) (f0 : x8 ≠ 0) (e3 : S 480 14 = x8) (e1 : (bx_up S 480 1 ((-6))) 481 6 = x9) : (True) ∧ rxPS242 S0 ws (bx_up (bx_up S 480 1 ((-6))) 481 6 x10) (some ((-6))) := by
  obtain ⟨h1, h2, h3⟩ := hinv
  have himg : ∀ i : Int, 0 ≤ i → i < 12360 → S 483 i = S0 483 i := fun i i0 i1 => rx_sameR hin (p := 483) (tc := 0) (n := 12360) (g := 64) rfl (by omega) (by decide +kernel) (by decide +kernel) i0 (by omega)
  have r482 : ∀ x : Int, (bx_up (bx_up S 480 1 ((-6))) 481 6 x10) 482 x = S 482 x := fun x => by simp [bx_up]
  have r483 : ∀ x : Int, (bx_up (bx_up S 480 1 ((-6))) 481 6 x10) 483 x = S 483 x := fun x => by simp [bx_up]
  have f15 : (bx_up (bx_up S 480 1 ((-6))) 481 6 x10) 480 15 = S 480 15 := by simp [bx_up]
  refine ⟨trivial, rxX_img hP (fun i i0 i1 => (r483 i).trans (himg i i0 i1)) ?_ (f15.trans h2)⟩
  exact rxTq_cg hP.1 fun i i0 i1 => (r482 i).trans (h1.1 i (by omega) i1)
theorem rxf242_11_0 {X : (Nat → Int → Int) → Prop} {S0 : Nat → Int → Int} {ws : List Int} (hP : rxP242 S0 ws) : bx_obE rxL X S0 rxC242.2.2.1 (rxI242 S0 ws) (rxPS242 S0 ws) 11 rxz242_11 rxe242_11_0 := by
  intro S S_p r r_p hinv hX hin hsm_ hseg
  obtain ⟨I0, I1, h0_, hr_, b_, f_, d_⟩ := bx_cl (evs := [(1, (0, 481), (0, 6), .inr (0, (10, 0))), (0, (0, 481), (0, 6), .inr (0, (9, 0))), (1, (0, 480), (0, 1), .inr (0, (0, (-6)))), (0, (0, 480), (0, 14), .inr (0, (8, 0)))]) (fvs := [(3, (8, 0), (0, 0), (0, 0))]) hseg (by decide +kernel) (by decide +kernel)
  have hinv : rxI242_11 S0 ws S := hinv
  obtain ⟨⟨l8, u8⟩, ⟨l9, u9⟩, ⟨l10, u10⟩, -⟩ := b_
  obtain ⟨f0, -⟩ := f_
  obtain ⟨T0, ⟨e1, ⟨T2, ⟨e3, w_⟩, w2⟩⟩, w0⟩ := d_
  subst w0
  subst w2
  subst w_
  have g := rxd242_11_0 hP hin hsm_ I0 I1 hinv l8 u8 l9 u9 l10 u10 f0 e3 e1
  refine ⟨bx_narP_ok (l := []) g.1, ?_⟩
  show rxPS242 S0 ws (bx_up (bx_up T2 480 (1) ((-6))) 481 (6) (r_p 10)) (some (bx_num r_p (.inr (0, (0, (-6))))))
  rw [bx_xv_ok h0_]
  exact g.2
theorem rxc242_12_0 {S0 : Nat → Int → Int} {ws : List Int} {S : Nat → Int → Int} {n3 x9 x10 : Int} (hP : rxP242 S0 ws) (hin : bx_same rxL (bx_mdl rxC242.2.2.1) S0 S) (I0 : bx_Inv rxL S) (hinv : rxI242_12 S0 ws S n3) (l8 : 0 ≤ n3) (u8 : n3 ≤ 5) (l9 : 0 ≤ x9) (u9 : x9 ≤ 4500) (l10 : 0 ≤ x10) (u10 : x10 ≤ 12) (f0 : x9 = 900 * (n3)) (e0 : S 480 16 = x10) : (True) ∧ (True) ∧ rxI242_13 S0 ws S (x9 + 780) (x9 + 781) x10 ∧ rxm242_13 S0 ws S (x9 + 780) (x9 + 781) x10 < rxm242_12 S0 ws S n3 := by
  obtain ⟨h1, h2, h3, h4⟩ := hinv
  have b16 := rxBox16 I0
  exact ⟨trivial, trivial, ⟨by omega, by omega, by omega, h2, h3, h4⟩, by unfold rxm242_12 rxm242_13; omega⟩
theorem rxg242_12_0 {X : (Nat → Int → Int) → Prop} {S0 : Nat → Int → Int} {ws : List Int} (hP : rxP242 S0 ws) : bx_obC rxL X S0 rxC242.2.2.1 (rxI242 S0 ws) (rxm242 S0 ws) 12 rxz242_12 rxo242_12_0 := by
  intro S S_p r r_p hinv hX hin hsm_ hseg
  obtain ⟨I0, I1, h0_, hr_, b_, f_, d_⟩ := bx_cl (evs := [(0, (0, 480), (0, 16), .inr (0, (10, 0)))]) (fvs := [(4, (9, 0), (8, 0), (0, 900))]) hseg (by decide +kernel) (by decide +kernel)
  have hinv : rxI242_12 S0 ws S (r 8) := hinv
  rw [← hr_ 8 (by decide)] at hinv
  obtain ⟨⟨l8, u8⟩, ⟨l9, u9⟩, ⟨l10, u10⟩, -⟩ := b_
  obtain ⟨f0, -⟩ := f_
  obtain ⟨e0, w_⟩ := d_
  subst w_
  have g := rxc242_12_0 hP hin I0 hinv l8 u8 l9 u9 l10 u10 f0 e0
  refine ⟨bx_narP_ok (l := []) g.1, bx_nfP_ok h0_ (fvs := []) (by decide +kernel) g.2.1, ?_, ?_⟩
  · show rxI242_13 S0 ws S_p (bx_val [(0, 0), (0, 0), (0, 0), (0, 0), (0, 0), (0, 0), (0, 0), (0, 0), (9, 780), (9, 781), (10, 0)] r_p 8) (bx_val [(0, 0), (0, 0), (0, 0), (0, 0), (0, 0), (0, 0), (0, 0), (0, 0), (9, 780), (9, 781), (10, 0)] r_p 9) (bx_val [(0, 0), (0, 0), (0, 0), (0, 0), (0, 0), (0, 0), (0, 0), (0, 0), (9, 780), (9, 781), (10, 0)] r_p 10)
    rw [bx_val_x (n := 8) (e := (9, 780)) h0_ rfl, bx_val_x (n := 9) (e := (9, 781)) h0_ rfl, bx_val_x (n := 10) (e := (10, 0)) h0_ rfl]
    exact g.2.2.1
  · show rxm242_13 S0 ws S_p (bx_val [(0, 0), (0, 0), (0, 0), (0, 0), (0, 0), (0, 0), (0, 0), (0, 0), (9, 780), (9, 781), (10, 0)] r_p 8) (bx_val [(0, 0), (0, 0), (0, 0), (0, 0), (0, 0), (0, 0), (0, 0), (0, 0), (9, 780), (9, 781), (10, 0)] r_p 9) (bx_val [(0, 0), (0, 0), (0, 0), (0, 0), (0, 0), (0, 0), (0, 0), (0, 0), (9, 780), (9, 781), (10, 0)] r_p 10) < rxm242_12 S0 ws S_p (r 8)
    rw [bx_val_x (n := 8) (e := (9, 780)) h0_ rfl, bx_val_x (n := 9) (e := (9, 781)) h0_ rfl, bx_val_x (n := 10) (e := (10, 0)) h0_ rfl, ← hr_ 8 (by decide)]
    exact g.2.2.2
theorem rxc242_14_0 {S0 : Nat → Int → Int} {ws : List Int} {S : Nat → Int → Int} {base a v : Int} (hP : rxP242 S0 ws) (hin : bx_same rxL (bx_mdl rxC242.2.2.1) S0 S) (I0 : bx_Inv rxL S) (hinv : rxI242_14 S0 ws S base a v) (l8 : 780 ≤ base) (u8 : base ≤ 5280) (l9 : 781 ≤ a) (u9 : a ≤ 5281) (l10 : 0 ≤ v) (u10 : v ≤ 12) : (True) ∧ (True) ∧ rxI242_15 S0 ws S base 0 ∧ rxm242_15 S0 ws S base 0 < rxm242_14 S0 ws S base a v := by
  have h : rxRx S0 S base := hinv
  have b16 := rxBox16 I0
  exact ⟨trivial, trivial, ⟨h, by omega, fun j j0 j1 => by omega⟩, by unfold rxm242_14 rxm242_15; omega⟩
theorem rxg242_14_0 {X : (Nat → Int → Int) → Prop} {S0 : Nat → Int → Int} {ws : List Int} (hP : rxP242 S0 ws) : bx_obC rxL X S0 rxC242.2.2.1 (rxI242 S0 ws) (rxm242 S0 ws) 14 rxz242_14 rxo242_14_0 := by
  intro S S_p r r_p hinv hX hin hsm_ hseg
  obtain ⟨I0, I1, h0_, hr_, b_, f_, d_⟩ := bx_cl (evs := []) (fvs := []) hseg (by decide +kernel) (by decide +kernel)
  have hinv : rxI242_14 S0 ws S (r 8) (r 9) (r 10) := hinv
  rw [← hr_ 8 (by decide), ← hr_ 9 (by decide), ← hr_ 10 (by decide)] at hinv
  obtain ⟨⟨l8, u8⟩, ⟨l9, u9⟩, ⟨l10, u10⟩, -⟩ := b_
  have w_ := d_
  subst w_
  have g := rxc242_14_0 hP hin I0 hinv l8 u8 l9 u9 l10 u10
  refine ⟨bx_narP_ok (l := []) g.1, bx_nfP_ok h0_ (fvs := []) (by decide +kernel) g.2.1, ?_, ?_⟩
  · show rxI242_15 S0 ws S_p (bx_val [(0, 0), (0, 0), (0, 0), (0, 0), (0, 0), (0, 0), (0, 0), (0, 0), (8, 0), (0, 0)] r_p 8) (bx_val [(0, 0), (0, 0), (0, 0), (0, 0), (0, 0), (0, 0), (0, 0), (0, 0), (8, 0), (0, 0)] r_p 9)
    rw [bx_val_x (n := 8) (e := (8, 0)) h0_ rfl, bx_val_x (n := 9) (e := (0, 0)) h0_ rfl]
    exact g.2.2.1
  · show rxm242_15 S0 ws S_p (bx_val [(0, 0), (0, 0), (0, 0), (0, 0), (0, 0), (0, 0), (0, 0), (0, 0), (8, 0), (0, 0)] r_p 8) (bx_val [(0, 0), (0, 0), (0, 0), (0, 0), (0, 0), (0, 0), (0, 0), (0, 0), (8, 0), (0, 0)] r_p 9) < rxm242_14 S0 ws S_p (r 8) (r 9) (r 10)
    rw [bx_val_x (n := 8) (e := (8, 0)) h0_ rfl, bx_val_x (n := 9) (e := (0, 0)) h0_ rfl, ← hr_ 8 (by decide), ← hr_ 9 (by decide), ← hr_ 10 (by decide)]
    exact g.2.2.2
theorem rxc242_15_0 {S0 : Nat → Int → Int} {ws : List Int} {S : Nat → Int → Int} {base i x10 x11 x12 x13 : Int} (hP : rxP242 S0 ws) (hin : bx_same rxL (bx_mdl rxC242.2.2.1) S0 S) (I0 : bx_Inv rxL S) (hinv : rxI242_15 S0 ws S base i) (l8 : 780 ≤ base) (u8 : base ≤ 5280) (l9 : 0 ≤ i) (u9 : i ≤ 95) (l10 : 0 ≤ x10) (u10 : x10 ≤ 12) (l11 : 1 ≤ x11) (u11 : x11 ≤ 96) (l12 : 782 ≤ x12) (u12 : x12 ≤ 5377) (l13 : 0 ≤ x13) (u13 : x13 ≤ 400) (f0 : x12 = base + 2 + i) (f1 : i < x11) (f2 : x11 = 8 * (x10)) (e1 : S 480 16 = x10) (e0 : S 486 i = x13) : (True) ∧ (True) ∧ rxI242_16 S0 ws S base i x12 x13 ∧ rxm242_16 S0 ws S base i x12 x13 < rxm242_15 S0 ws S base i := by
  obtain ⟨h1, h2, h3⟩ := hinv
  have b16 := rxBox16 I0
  exact ⟨trivial, trivial, ⟨by omega, by omega, by omega, h1, h3⟩, by unfold rxm242_15 rxm242_16; omega⟩
theorem rxg242_15_0 {X : (Nat → Int → Int) → Prop} {S0 : Nat → Int → Int} {ws : List Int} (hP : rxP242 S0 ws) : bx_obC rxL X S0 rxC242.2.2.1 (rxI242 S0 ws) (rxm242 S0 ws) 15 rxz242_15 rxo242_15_0 := by
  intro S S_p r r_p hinv hX hin hsm_ hseg
  obtain ⟨I0, I1, h0_, hr_, b_, f_, d_⟩ := bx_cl (evs := [(0, (0, 486), (9, 0), .inr (0, (13, 0))), (0, (0, 480), (0, 16), .inr (0, (10, 0)))]) (fvs := [(5, (12, 0), (8, 2), (9, 0)), (0, (9, 0), (11, 0), (0, 0)), (4, (11, 0), (10, 0), (0, 8))]) hseg (by decide +kernel) (by decide +kernel)
  have hinv : rxI242_15 S0 ws S (r 8) (r 9) := hinv
  rw [← hr_ 8 (by decide), ← hr_ 9 (by decide)] at hinv
  obtain ⟨⟨l8, u8⟩, ⟨l9, u9⟩, ⟨l10, u10⟩, ⟨l11, u11⟩, ⟨l12, u12⟩, ⟨l13, u13⟩, -⟩ := b_
  obtain ⟨f0, f1, f2, -⟩ := f_
  obtain ⟨e0, ⟨e1, w_⟩⟩ := d_
  subst w_
  have g := rxc242_15_0 hP hin I0 hinv l8 u8 l9 u9 l10 u10 l11 u11 l12 u12 l13 u13 f0 f1 f2 e1 e0
  refine ⟨bx_narP_ok (l := []) g.1, bx_nfP_ok h0_ (fvs := []) (by decide +kernel) g.2.1, ?_, ?_⟩
  · show rxI242_16 S0 ws S_p (bx_val [(0, 0), (0, 0), (0, 0), (0, 0), (0, 0), (0, 0), (0, 0), (0, 0), (8, 0), (9, 0), (12, 0), (13, 0)] r_p 8) (bx_val [(0, 0), (0, 0), (0, 0), (0, 0), (0, 0), (0, 0), (0, 0), (0, 0), (8, 0), (9, 0), (12, 0), (13, 0)] r_p 9) (bx_val [(0, 0), (0, 0), (0, 0), (0, 0), (0, 0), (0, 0), (0, 0), (0, 0), (8, 0), (9, 0), (12, 0), (13, 0)] r_p 10) (bx_val [(0, 0), (0, 0), (0, 0), (0, 0), (0, 0), (0, 0), (0, 0), (0, 0), (8, 0), (9, 0), (12, 0), (13, 0)] r_p 11)
    rw [bx_val_x (n := 8) (e := (8, 0)) h0_ rfl, bx_val_x (n := 9) (e := (9, 0)) h0_ rfl, bx_val_x (n := 10) (e := (12, 0)) h0_ rfl, bx_val_x (n := 11) (e := (13, 0)) h0_ rfl]
    exact g.2.2.1
  · show rxm242_16 S0 ws S_p (bx_val [(0, 0), (0, 0), (0, 0), (0, 0), (0, 0), (0, 0), (0, 0), (0, 0), (8, 0), (9, 0), (12, 0), (13, 0)] r_p 8) (bx_val [(0, 0), (0, 0), (0, 0), (0, 0), (0, 0), (0, 0), (0, 0), (0, 0), (8, 0), (9, 0), (12, 0), (13, 0)] r_p 9) (bx_val [(0, 0), (0, 0), (0, 0), (0, 0), (0, 0), (0, 0), (0, 0), (0, 0), (8, 0), (9, 0), (12, 0), (13, 0)] r_p 10) (bx_val [(0, 0), (0, 0), (0, 0), (0, 0), (0, 0), (0, 0), (0, 0), (0, 0), (8, 0), (9, 0), (12, 0), (13, 0)] r_p 11) < rxm242_15 S0 ws S_p (r 8) (r 9)
    rw [bx_val_x (n := 8) (e := (8, 0)) h0_ rfl, bx_val_x (n := 9) (e := (9, 0)) h0_ rfl, bx_val_x (n := 10) (e := (12, 0)) h0_ rfl, bx_val_x (n := 11) (e := (13, 0)) h0_ rfl, ← hr_ 8 (by decide), ← hr_ 9 (by decide)]
    exact g.2.2.2
theorem rxc242_15_1 {S0 : Nat → Int → Int} {ws : List Int} {S : Nat → Int → Int} {base i x10 x11 : Int} (hP : rxP242 S0 ws) (hin : bx_same rxL (bx_mdl rxC242.2.2.1) S0 S) (I0 : bx_Inv rxL S) (hinv : rxI242_15 S0 ws S base i) (l8 : 780 ≤ base) (u8 : base ≤ 5280) (l9 : 0 ≤ i) (u9 : i ≤ 96) (l10 : 0 ≤ x10) (u10 : x10 ≤ 12) (l11 : 0 ≤ x11) (u11 : x11 ≤ 96) (f0 : x11 ≤ i) (f1 : x11 = 8 * (x10)) (e0 : S 480 16 = x10) : (True) ∧ (True) ∧ rxI242_18 S0 ws S base 0 ∧ rxm242_18 S0 ws S base 0 < rxm242_15 S0 ws S base i := by
  obtain ⟨h1, h2, h3⟩ := hinv
  have b16 := rxBox16 I0
  have b18 := rxBox18 I0
  exact ⟨trivial, trivial, ⟨by omega, h1, fun j j0 j1 => h3 j j0 (by omega), fun j j0 j1 => by omega⟩, by unfold rxm242_15 rxm242_18; omega⟩
theorem rxg242_15_1 {X : (Nat → Int → Int) → Prop} {S0 : Nat → Int → Int} {ws : List Int} (hP : rxP242 S0 ws) : bx_obC rxL X S0 rxC242.2.2.1 (rxI242 S0 ws) (rxm242 S0 ws) 15 rxz242_15 rxo242_15_1 := by
  intro S S_p r r_p hinv hX hin hsm_ hseg
  obtain ⟨I0, I1, h0_, hr_, b_, f_, d_⟩ := bx_cl (evs := [(0, (0, 480), (0, 16), .inr (0, (10, 0)))]) (fvs := [(1, (11, 0), (9, 0), (0, 0)), (4, (11, 0), (10, 0), (0, 8))]) hseg (by decide +kernel) (by decide +kernel)
  have hinv : rxI242_15 S0 ws S (r 8) (r 9) := hinv
  rw [← hr_ 8 (by decide), ← hr_ 9 (by decide)] at hinv
  obtain ⟨⟨l8, u8⟩, ⟨l9, u9⟩, ⟨l10, u10⟩, ⟨l11, u11⟩, -⟩ := b_
  obtain ⟨f0, f1, -⟩ := f_
  obtain ⟨e0, w_⟩ := d_
  subst w_
  have g := rxc242_15_1 hP hin I0 hinv l8 u8 l9 u9 l10 u10 l11 u11 f0 f1 e0
  refine ⟨bx_narP_ok (l := []) g.1, bx_nfP_ok h0_ (fvs := []) (by decide +kernel) g.2.1, ?_, ?_⟩
  · show rxI242_18 S0 ws S_p (bx_val [(0, 0), (0, 0), (0, 0), (0, 0), (0, 0), (0, 0), (0, 0), (0, 0), (8, 0), (0, 0)] r_p 8) (bx_val [(0, 0), (0, 0), (0, 0), (0, 0), (0, 0), (0, 0), (0, 0), (0, 0), (8, 0), (0, 0)] r_p 9)
    rw [bx_val_x (n := 8) (e := (8, 0)) h0_ rfl, bx_val_x (n := 9) (e := (0, 0)) h0_ rfl]
    exact g.2.2.1
  · show rxm242_18 S0 ws S_p (bx_val [(0, 0), (0, 0), (0, 0), (0, 0), (0, 0), (0, 0), (0, 0), (0, 0), (8, 0), (0, 0)] r_p 8) (bx_val [(0, 0), (0, 0), (0, 0), (0, 0), (0, 0), (0, 0), (0, 0), (0, 0), (8, 0), (0, 0)] r_p 9) < rxm242_15 S0 ws S_p (r 8) (r 9)
    rw [bx_val_x (n := 8) (e := (8, 0)) h0_ rfl, bx_val_x (n := 9) (e := (0, 0)) h0_ rfl, ← hr_ 8 (by decide), ← hr_ 9 (by decide)]
    exact g.2.2.2
theorem rxc242_17_0 {S0 : Nat → Int → Int} {ws : List Int} {S : Nat → Int → Int} {base i a v : Int} (hP : rxP242 S0 ws) (hin : bx_same rxL (bx_mdl rxC242.2.2.1) S0 S) (I0 : bx_Inv rxL S) (hinv : rxI242_17 S0 ws S base i a v) (l8 : 780 ≤ base) (u8 : base ≤ 5280) (l9 : 0 ≤ i) (u9 : i ≤ 95) (l10 : 782 ≤ a) (u10 : a ≤ 5377) (l11 : 0 ≤ v) (u11 : v ≤ 400) : (True) ∧ (True) ∧ rxI242_15 S0 ws S base (i + 1) ∧ rxm242_15 S0 ws S base (i + 1) < rxm242_17 S0 ws S base i a v := by
  obtain ⟨h1, h2, h3⟩ := hinv
  have b16 := rxBox16 I0
  exact ⟨trivial, trivial, ⟨h2, by omega, h3⟩, by unfold rxm242_17 rxm242_15; omega⟩
theorem rxg242_17_0 {X : (Nat → Int → Int) → Prop} {S0 : Nat → Int → Int} {ws : List Int} (hP : rxP242 S0 ws) : bx_obC rxL X S0 rxC242.2.2.1 (rxI242 S0 ws) (rxm242 S0 ws) 17 rxz242_17 rxo242_17_0 := by
  intro S S_p r r_p hinv hX hin hsm_ hseg
  obtain ⟨I0, I1, h0_, hr_, b_, f_, d_⟩ := bx_cl (evs := []) (fvs := []) hseg (by decide +kernel) (by decide +kernel)
  have hinv : rxI242_17 S0 ws S (r 8) (r 9) (r 10) (r 11) := hinv
  rw [← hr_ 8 (by decide), ← hr_ 9 (by decide), ← hr_ 10 (by decide), ← hr_ 11 (by decide)] at hinv
  obtain ⟨⟨l8, u8⟩, ⟨l9, u9⟩, ⟨l10, u10⟩, ⟨l11, u11⟩, -⟩ := b_
  have w_ := d_
  subst w_
  have g := rxc242_17_0 hP hin I0 hinv l8 u8 l9 u9 l10 u10 l11 u11
  refine ⟨bx_narP_ok (l := []) g.1, bx_nfP_ok h0_ (fvs := []) (by decide +kernel) g.2.1, ?_, ?_⟩
  · show rxI242_15 S0 ws S_p (bx_val [(0, 0), (0, 0), (0, 0), (0, 0), (0, 0), (0, 0), (0, 0), (0, 0), (8, 0), (9, 1)] r_p 8) (bx_val [(0, 0), (0, 0), (0, 0), (0, 0), (0, 0), (0, 0), (0, 0), (0, 0), (8, 0), (9, 1)] r_p 9)
    rw [bx_val_x (n := 8) (e := (8, 0)) h0_ rfl, bx_val_x (n := 9) (e := (9, 1)) h0_ rfl]
    exact g.2.2.1
  · show rxm242_15 S0 ws S_p (bx_val [(0, 0), (0, 0), (0, 0), (0, 0), (0, 0), (0, 0), (0, 0), (0, 0), (8, 0), (9, 1)] r_p 8) (bx_val [(0, 0), (0, 0), (0, 0), (0, 0), (0, 0), (0, 0), (0, 0), (0, 0), (8, 0), (9, 1)] r_p 9) < rxm242_17 S0 ws S_p (r 8) (r 9) (r 10) (r 11)
    rw [bx_val_x (n := 8) (e := (8, 0)) h0_ rfl, bx_val_x (n := 9) (e := (9, 1)) h0_ rfl, ← hr_ 8 (by decide), ← hr_ 9 (by decide), ← hr_ 10 (by decide), ← hr_ 11 (by decide)]
    exact g.2.2.2
theorem rxc242_18_0 {S0 : Nat → Int → Int} {ws : List Int} {S : Nat → Int → Int} {base i x10 x11 x12 x13 : Int} (hP : rxP242 S0 ws) (hin : bx_same rxL (bx_mdl rxC242.2.2.1) S0 S) (I0 : bx_Inv rxL S) (hinv : rxI242_18 S0 ws S base i) (l8 : 780 ≤ base) (u8 : base ≤ 5280) (l9 : 0 ≤ i) (u9 : i ≤ 399) (l10 : 1 ≤ x10) (u10 : x10 ≤ 400) (l11 : 0 ≤ x11) (u11 : x11 ≤ 798) (l12 : 878 ≤ x12) (u12 : x12 ≤ 6176) (l13 : 0 ≤ x13) (u13 : x13 ≤ 30) (f0 : x12 = base + 98 + x11) (f1 : x11 = 2 * (i)) (f2 : i < x10) (e1 : S 480 18 = x10) (e0 : S 487 i = x13) : (True) ∧ (True) ∧ rxI242_19 S0 ws S base i x12 x13 ∧ rxm242_19 S0 ws S base i x12 x13 < rxm242_18 S0 ws S base i := by
  obtain ⟨h1, h2, h3, h4⟩ := hinv
  have b18 := rxBox18 I0
  exact ⟨trivial, trivial, ⟨by omega, by omega, by omega, h2, h3, h4⟩, by unfold rxm242_18 rxm242_19; omega⟩
theorem rxg242_18_0 {X : (Nat → Int → Int) → Prop} {S0 : Nat → Int → Int} {ws : List Int} (hP : rxP242 S0 ws) : bx_obC rxL X S0 rxC242.2.2.1 (rxI242 S0 ws) (rxm242 S0 ws) 18 rxz242_18 rxo242_18_0 := by
  intro S S_p r r_p hinv hX hin hsm_ hseg
  obtain ⟨I0, I1, h0_, hr_, b_, f_, d_⟩ := bx_cl (evs := [(0, (0, 487), (9, 0), .inr (0, (13, 0))), (0, (0, 480), (0, 18), .inr (0, (10, 0)))]) (fvs := [(5, (12, 0), (8, 98), (11, 0)), (4, (11, 0), (9, 0), (0, 2)), (0, (9, 0), (10, 0), (0, 0))]) hseg (by decide +kernel) (by decide +kernel)
  have hinv : rxI242_18 S0 ws S (r 8) (r 9) := hinv
  rw [← hr_ 8 (by decide), ← hr_ 9 (by decide)] at hinv
  obtain ⟨⟨l8, u8⟩, ⟨l9, u9⟩, ⟨l10, u10⟩, ⟨l11, u11⟩, ⟨l12, u12⟩, ⟨l13, u13⟩, -⟩ := b_
  obtain ⟨f0, f1, f2, -⟩ := f_
  obtain ⟨e0, ⟨e1, w_⟩⟩ := d_
  subst w_
  have g := rxc242_18_0 hP hin I0 hinv l8 u8 l9 u9 l10 u10 l11 u11 l12 u12 l13 u13 f0 f1 f2 e1 e0
  refine ⟨bx_narP_ok (l := []) g.1, bx_nfP_ok h0_ (fvs := []) (by decide +kernel) g.2.1, ?_, ?_⟩
  · show rxI242_19 S0 ws S_p (bx_val [(0, 0), (0, 0), (0, 0), (0, 0), (0, 0), (0, 0), (0, 0), (0, 0), (8, 0), (9, 0), (12, 0), (13, 0)] r_p 8) (bx_val [(0, 0), (0, 0), (0, 0), (0, 0), (0, 0), (0, 0), (0, 0), (0, 0), (8, 0), (9, 0), (12, 0), (13, 0)] r_p 9) (bx_val [(0, 0), (0, 0), (0, 0), (0, 0), (0, 0), (0, 0), (0, 0), (0, 0), (8, 0), (9, 0), (12, 0), (13, 0)] r_p 10) (bx_val [(0, 0), (0, 0), (0, 0), (0, 0), (0, 0), (0, 0), (0, 0), (0, 0), (8, 0), (9, 0), (12, 0), (13, 0)] r_p 11)
    rw [bx_val_x (n := 8) (e := (8, 0)) h0_ rfl, bx_val_x (n := 9) (e := (9, 0)) h0_ rfl, bx_val_x (n := 10) (e := (12, 0)) h0_ rfl, bx_val_x (n := 11) (e := (13, 0)) h0_ rfl]
    exact g.2.2.1
  · show rxm242_19 S0 ws S_p (bx_val [(0, 0), (0, 0), (0, 0), (0, 0), (0, 0), (0, 0), (0, 0), (0, 0), (8, 0), (9, 0), (12, 0), (13, 0)] r_p 8) (bx_val [(0, 0), (0, 0), (0, 0), (0, 0), (0, 0), (0, 0), (0, 0), (0, 0), (8, 0), (9, 0), (12, 0), (13, 0)] r_p 9) (bx_val [(0, 0), (0, 0), (0, 0), (0, 0), (0, 0), (0, 0), (0, 0), (0, 0), (8, 0), (9, 0), (12, 0), (13, 0)] r_p 10) (bx_val [(0, 0), (0, 0), (0, 0), (0, 0), (0, 0), (0, 0), (0, 0), (0, 0), (8, 0), (9, 0), (12, 0), (13, 0)] r_p 11) < rxm242_18 S0 ws S_p (r 8) (r 9)
    rw [bx_val_x (n := 8) (e := (8, 0)) h0_ rfl, bx_val_x (n := 9) (e := (9, 0)) h0_ rfl, bx_val_x (n := 10) (e := (12, 0)) h0_ rfl, bx_val_x (n := 11) (e := (13, 0)) h0_ rfl, ← hr_ 8 (by decide), ← hr_ 9 (by decide)]
    exact g.2.2.2
theorem rxc242_18_1 {S0 : Nat → Int → Int} {ws : List Int} {S : Nat → Int → Int} {base i x10 x11 : Int} (hP : rxP242 S0 ws) (hin : bx_same rxL (bx_mdl rxC242.2.2.1) S0 S) (I0 : bx_Inv rxL S) (hinv : rxI242_18 S0 ws S base i) (l8 : 780 ≤ base) (u8 : base ≤ 5280) (l9 : 0 ≤ i) (u9 : i ≤ 400) (l10 : 0 ≤ x10) (u10 : x10 ≤ 400) (l11 : 0 ≤ x11) (u11 : x11 ≤ 6) (f0 : x10 ≤ i) (e1 : S 480 18 = x10) (e0 : S 482 3 = x11) : ((0 ≤ x11 ∧ x11 ≤ 5) ∧ True) ∧ (True) ∧ rxI242_23 S0 ws S x11 ∧ rxm242_23 S0 ws S x11 < rxm242_18 S0 ws S base i := by
  have himg : ∀ i : Int, 0 ≤ i → i < 12360 → S 483 i = S0 483 i := fun i i0 i1 => rx_sameR hin (p := 483) (tc := 0) (n := 12360) (g := 64) rfl (by omega) (by decide +kernel) (by decide +kernel) i0 (by omega)
  obtain ⟨h1, h2, h3, h4⟩ := hinv
  have b18 := rxBox18 I0
  have b16 := rxBox16 I0
  have hb := h2.2.2.2.2
  have g := h2.1 3 (by omega) (by omega) (by omega)
  exact ⟨⟨by omega, trivial⟩, trivial, rxX_img hP himg (rxTq_row hP.1 h2 h3 (fun j j0 j1 => h4 j j0 (by omega)) b18.2) h2.2.2.2.1, by unfold rxm242_18 rxm242_23; omega⟩
theorem rxg242_18_1 {X : (Nat → Int → Int) → Prop} {S0 : Nat → Int → Int} {ws : List Int} (hP : rxP242 S0 ws) : bx_obC rxL X S0 rxC242.2.2.1 (rxI242 S0 ws) (rxm242 S0 ws) 18 rxz242_18 rxo242_18_1 := by
  intro S S_p r r_p hinv hX hin hsm_ hseg
  obtain ⟨I0, I1, h0_, hr_, b_, f_, d_⟩ := bx_cl (evs := [(0, (0, 482), (0, 3), .inr (0, (11, 0))), (0, (0, 480), (0, 18), .inr (0, (10, 0)))]) (fvs := [(1, (10, 0), (9, 0), (0, 0))]) hseg (by decide +kernel) (by decide +kernel)
  have hinv : rxI242_18 S0 ws S (r 8) (r 9) := hinv
  rw [← hr_ 8 (by decide), ← hr_ 9 (by decide)] at hinv
  obtain ⟨⟨l8, u8⟩, ⟨l9, u9⟩, ⟨l10, u10⟩, ⟨l11, u11⟩, -⟩ := b_
  obtain ⟨f0, -⟩ := f_
  obtain ⟨e0, ⟨e1, w_⟩⟩ := d_
  subst w_
  have g := rxc242_18_1 hP hin I0 hinv l8 u8 l9 u9 l10 u10 l11 u11 f0 e1 e0
  refine ⟨bx_narP_ok (l := [(11, 0, 5)]) g.1, bx_nfP_ok h0_ (fvs := []) (by decide +kernel) g.2.1, ?_, ?_⟩
  · show rxI242_23 S0 ws S_p (bx_val [(0, 0), (0, 0), (0, 0), (0, 0), (0, 0), (0, 0), (0, 0), (0, 0), (11, 0)] r_p 8)
    rw [bx_val_x (n := 8) (e := (11, 0)) h0_ rfl]
    exact g.2.2.1
  · show rxm242_23 S0 ws S_p (bx_val [(0, 0), (0, 0), (0, 0), (0, 0), (0, 0), (0, 0), (0, 0), (0, 0), (11, 0)] r_p 8) < rxm242_18 S0 ws S_p (r 8) (r 9)
    rw [bx_val_x (n := 8) (e := (11, 0)) h0_ rfl, ← hr_ 8 (by decide), ← hr_ 9 (by decide)]
    exact g.2.2.2
theorem rxc242_20_0 {S0 : Nat → Int → Int} {ws : List Int} {S : Nat → Int → Int} {base i a v x12 x13 x14 : Int} (hP : rxP242 S0 ws) (hin : bx_same rxL (bx_mdl rxC242.2.2.1) S0 S) (I0 : bx_Inv rxL S) (hinv : rxI242_20 S0 ws S base i a v) (l8 : 780 ≤ base) (u8 : base ≤ 5280) (l9 : 0 ≤ i) (u9 : i ≤ 399) (l10 : 878 ≤ a) (u10 : a ≤ 6176) (l11 : 0 ≤ v) (u11 : v ≤ 30) (l12 : 0 ≤ x12) (u12 : x12 ≤ 798) (l13 : 878 ≤ x13) (u13 : x13 ≤ 6176) (l14 : 0 ≤ x14) (u14 : x14 ≤ 1000) (f0 : x13 = base + 98 + x12) (f1 : x12 = 2 * (i)) (e0 : S 488 i = x14) : (True) ∧ (True) ∧ rxI242_21 S0 ws S base i (x13 + 1) x14 ∧ rxm242_21 S0 ws S base i (x13 + 1) x14 < rxm242_20 S0 ws S base i a v := by
  obtain ⟨h0, h1, h2, h3, h4⟩ := hinv
  have b18 := rxBox18 I0
  exact ⟨trivial, trivial, ⟨by omega, by omega, h0, h1, h2, h3, h4⟩, by unfold rxm242_20 rxm242_21; omega⟩
theorem rxg242_20_0 {X : (Nat → Int → Int) → Prop} {S0 : Nat → Int → Int} {ws : List Int} (hP : rxP242 S0 ws) : bx_obC rxL X S0 rxC242.2.2.1 (rxI242 S0 ws) (rxm242 S0 ws) 20 rxz242_20 rxo242_20_0 := by
  intro S S_p r r_p hinv hX hin hsm_ hseg
  obtain ⟨I0, I1, h0_, hr_, b_, f_, d_⟩ := bx_cl (evs := [(0, (0, 488), (9, 0), .inr (0, (14, 0)))]) (fvs := [(5, (13, 0), (8, 98), (12, 0)), (4, (12, 0), (9, 0), (0, 2))]) hseg (by decide +kernel) (by decide +kernel)
  have hinv : rxI242_20 S0 ws S (r 8) (r 9) (r 10) (r 11) := hinv
  rw [← hr_ 8 (by decide), ← hr_ 9 (by decide), ← hr_ 10 (by decide), ← hr_ 11 (by decide)] at hinv
  obtain ⟨⟨l8, u8⟩, ⟨l9, u9⟩, ⟨l10, u10⟩, ⟨l11, u11⟩, ⟨l12, u12⟩, ⟨l13, u13⟩, ⟨l14, u14⟩, -⟩ := b_
  obtain ⟨f0, f1, -⟩ := f_
  obtain ⟨e0, w_⟩ := d_
  subst w_
  have g := rxc242_20_0 hP hin I0 hinv l8 u8 l9 u9 l10 u10 l11 u11 l12 u12 l13 u13 l14 u14 f0 f1 e0
  refine ⟨bx_narP_ok (l := []) g.1, bx_nfP_ok h0_ (fvs := []) (by decide +kernel) g.2.1, ?_, ?_⟩
  · show rxI242_21 S0 ws S_p (bx_val [(0, 0), (0, 0), (0, 0), (0, 0), (0, 0), (0, 0), (0, 0), (0, 0), (8, 0), (9, 0), (13, 1), (14, 0)] r_p 8) (bx_val [(0, 0), (0, 0), (0, 0), (0, 0), (0, 0), (0, 0), (0, 0), (0, 0), (8, 0), (9, 0), (13, 1), (14, 0)] r_p 9) (bx_val [(0, 0), (0, 0), (0, 0), (0, 0), (0, 0), (0, 0), (0, 0), (0, 0), (8, 0), (9, 0), (13, 1), (14, 0)] r_p 10) (bx_val [(0, 0), (0, 0), (0, 0), (0, 0), (0, 0), (0, 0), (0, 0), (0, 0), (8, 0), (9, 0), (13, 1), (14, 0)] r_p 11)
    rw [bx_val_x (n := 8) (e := (8, 0)) h0_ rfl, bx_val_x (n := 9) (e := (9, 0)) h0_ rfl, bx_val_x (n := 10) (e := (13, 1)) h0_ rfl, bx_val_x (n := 11) (e := (14, 0)) h0_ rfl]
    exact g.2.2.1
  · show rxm242_21 S0 ws S_p (bx_val [(0, 0), (0, 0), (0, 0), (0, 0), (0, 0), (0, 0), (0, 0), (0, 0), (8, 0), (9, 0), (13, 1), (14, 0)] r_p 8) (bx_val [(0, 0), (0, 0), (0, 0), (0, 0), (0, 0), (0, 0), (0, 0), (0, 0), (8, 0), (9, 0), (13, 1), (14, 0)] r_p 9) (bx_val [(0, 0), (0, 0), (0, 0), (0, 0), (0, 0), (0, 0), (0, 0), (0, 0), (8, 0), (9, 0), (13, 1), (14, 0)] r_p 10) (bx_val [(0, 0), (0, 0), (0, 0), (0, 0), (0, 0), (0, 0), (0, 0), (0, 0), (8, 0), (9, 0), (13, 1), (14, 0)] r_p 11) < rxm242_20 S0 ws S_p (r 8) (r 9) (r 10) (r 11)
    rw [bx_val_x (n := 8) (e := (8, 0)) h0_ rfl, bx_val_x (n := 9) (e := (9, 0)) h0_ rfl, bx_val_x (n := 10) (e := (13, 1)) h0_ rfl, bx_val_x (n := 11) (e := (14, 0)) h0_ rfl, ← hr_ 8 (by decide), ← hr_ 9 (by decide), ← hr_ 10 (by decide), ← hr_ 11 (by decide)]
    exact g.2.2.2
theorem rxc242_22_0 {S0 : Nat → Int → Int} {ws : List Int} {S : Nat → Int → Int} {base i a v : Int} (hP : rxP242 S0 ws) (hin : bx_same rxL (bx_mdl rxC242.2.2.1) S0 S) (I0 : bx_Inv rxL S) (hinv : rxI242_22 S0 ws S base i a v) (l8 : 780 ≤ base) (u8 : base ≤ 5280) (l9 : 0 ≤ i) (u9 : i ≤ 399) (l10 : 879 ≤ a) (u10 : a ≤ 6177) (l11 : 0 ≤ v) (u11 : v ≤ 1000) : (True) ∧ (True) ∧ rxI242_18 S0 ws S base (i + 1) ∧ rxm242_18 S0 ws S base (i + 1) < rxm242_22 S0 ws S base i a v := by
  obtain ⟨h1, h2, h3, h4⟩ := hinv
  exact ⟨trivial, trivial, ⟨by omega, h2, h3, h4⟩, by unfold rxm242_22 rxm242_18; omega⟩
theorem rxg242_22_0 {X : (Nat → Int → Int) → Prop} {S0 : Nat → Int → Int} {ws : List Int} (hP : rxP242 S0 ws) : bx_obC rxL X S0 rxC242.2.2.1 (rxI242 S0 ws) (rxm242 S0 ws) 22 rxz242_22 rxo242_22_0 := by
  intro S S_p r r_p hinv hX hin hsm_ hseg
  obtain ⟨I0, I1, h0_, hr_, b_, f_, d_⟩ := bx_cl (evs := []) (fvs := []) hseg (by decide +kernel) (by decide +kernel)
  have hinv : rxI242_22 S0 ws S (r 8) (r 9) (r 10) (r 11) := hinv
  rw [← hr_ 8 (by decide), ← hr_ 9 (by decide), ← hr_ 10 (by decide), ← hr_ 11 (by decide)] at hinv
  obtain ⟨⟨l8, u8⟩, ⟨l9, u9⟩, ⟨l10, u10⟩, ⟨l11, u11⟩, -⟩ := b_
  have w_ := d_
  subst w_
  have g := rxc242_22_0 hP hin I0 hinv l8 u8 l9 u9 l10 u10 l11 u11
  refine ⟨bx_narP_ok (l := []) g.1, bx_nfP_ok h0_ (fvs := []) (by decide +kernel) g.2.1, ?_, ?_⟩
  · show rxI242_18 S0 ws S_p (bx_val [(0, 0), (0, 0), (0, 0), (0, 0), (0, 0), (0, 0), (0, 0), (0, 0), (8, 0), (9, 1)] r_p 8) (bx_val [(0, 0), (0, 0), (0, 0), (0, 0), (0, 0), (0, 0), (0, 0), (0, 0), (8, 0), (9, 1)] r_p 9)
    rw [bx_val_x (n := 8) (e := (8, 0)) h0_ rfl, bx_val_x (n := 9) (e := (9, 1)) h0_ rfl]
    exact g.2.2.1
  · show rxm242_18 S0 ws S_p (bx_val [(0, 0), (0, 0), (0, 0), (0, 0), (0, 0), (0, 0), (0, 0), (0, 0), (8, 0), (9, 1)] r_p 8) (bx_val [(0, 0), (0, 0), (0, 0), (0, 0), (0, 0), (0, 0), (0, 0), (0, 0), (8, 0), (9, 1)] r_p 9) < rxm242_22 S0 ws S_p (r 8) (r 9) (r 10) (r 11)
    rw [bx_val_x (n := 8) (e := (8, 0)) h0_ rfl, bx_val_x (n := 9) (e := (9, 1)) h0_ rfl, ← hr_ 8 (by decide), ← hr_ 9 (by decide), ← hr_ 10 (by decide), ← hr_ 11 (by decide)]
    exact g.2.2.2
theorem rxd242_23_0 {S0 : Nat → Int → Int} {ws : List Int} {S : Nat → Int → Int} {n3 : Int} (hP : rxP242 S0 ws) (hin : bx_same rxL (bx_mdl rxC242.2.2.1) S0 S) (hin2 : bx_same rxL (bx_mdl rxC242.2.2.1) S (bx_up (bx_up S 482 3 (n3 + 1)) 480 1 0)) (I0 : bx_Inv rxL S) (I1 : bx_Inv rxL (bx_up (bx_up S 482 3 (n3 + 1)) 480 1 0)) (hinv : rxI242_23 S0 ws S n3) (l8 : 0 ≤ n3) (u8 : n3 ≤ 5) : (True) ∧ rxPS242 S0 ws (bx_up (bx_up S 482 3 (n3 + 1)) 480 1 0) (some n3) := by
  have hx : rxX S := hinv
  have r483 : ∀ x : Int, (bx_up (bx_up S 482 3 (n3 + 1)) 480 1 0) 483 x = S 483 x := fun x => by simp [bx_up]
  have f15 : (bx_up (bx_up S 482 3 (n3 + 1)) 480 1 0) 480 15 = S 480 15 := by simp [bx_up]
  refine ⟨trivial, rxX_img hx (fun i _ _ => r483 i) ?_ (f15.trans hx.2.2.2)⟩
  refine rxTq_cg hx.1 fun i i0 i1 => ?_
  have n3 : i ≠ 3 := by omega
  simp [bx_up, n3]
theorem rxf242_23_0 {X : (Nat → Int → Int) → Prop} {S0 : Nat → Int → Int} {ws : List Int} (hP : rxP242 S0 ws) : bx_obE rxL X S0 rxC242.2.2.1 (rxI242 S0 ws) (rxPS242 S0 ws) 23 rxz242_23 rxe242_23_0 := by
  intro S S_p r r_p hinv hX hin hsm_ hseg
  obtain ⟨I0, I1, h0_, hr_, b_, f_, d_⟩ := bx_cl (evs := [(1, (0, 480), (0, 1), .inr (0, (0, 0))), (1, (0, 482), (0, 3), .inr (0, (8, 1)))]) (fvs := []) hseg (by decide +kernel) (by decide +kernel)
  have hinv : rxI242_23 S0 ws S (r 8) := hinv
  rw [← hr_ 8 (by decide)] at hinv
  obtain ⟨⟨l8, u8⟩, -⟩ := b_
  obtain ⟨T0, ⟨T1, w_, w1⟩, w0⟩ := d_
  subst w0
  subst w1
  subst w_
  have g := rxd242_23_0 hP hin hsm_ I0 I1 hinv l8 u8
  refine ⟨bx_narP_ok (l := []) g.1, ?_⟩
  show rxPS242 S0 ws (bx_up (bx_up T1 482 (3) (r_p 8 + 1)) 480 (1) (0)) (some (bx_num r_p (.inr (0, (8, 0)))))
  rw [bx_xv_ok h0_]
  exact g.2
theorem rxgC242 {X : (Nat → Int → Int) → Prop} {S0 : Nat → Int → Int} {ws : List Int} (hP : rxP242 S0 ws) : bx_allI (fun i q => rxU242 q = true ∨ bx_allP (fun o => bx_obC rxL X S0 rxC242.2.2.1 (rxI242 S0 ws) (rxm242 S0 ws) i q.1 o) q.2.1) 0 rxY242 := ⟨Or.inr ⟨rxg242_0_0 hP, trivial⟩, Or.inl rfl, Or.inr ⟨rxg242_2_0 hP, trivial⟩, Or.inl rfl, Or.inr ⟨rxg242_4_0 hP, rxg242_4_1 hP, rxg242_4_2 hP, rxg242_4_3 hP, trivial⟩, Or.inr ⟨rxg242_5_0 hP, rxg242_5_1 hP, rxg242_5_2 hP, rxg242_5_3 hP, trivial⟩, Or.inl rfl, Or.inr ⟨rxg242_7_0 hP, trivial⟩, Or.inl rfl, Or.inr ⟨rxg242_9_0 hP, trivial⟩, Or.inl rfl, Or.inr ⟨rxg242_11_0 hP, trivial⟩, Or.inr ⟨rxg242_12_0 hP, trivial⟩, Or.inl rfl, Or.inr ⟨rxg242_14_0 hP, trivial⟩, Or.inr ⟨rxg242_15_0 hP, rxg242_15_1 hP, trivial⟩, Or.inl rfl, Or.inr ⟨rxg242_17_0 hP, trivial⟩, Or.inr ⟨rxg242_18_0 hP, rxg242_18_1 hP, trivial⟩, Or.inl rfl, Or.inr ⟨rxg242_20_0 hP, trivial⟩, Or.inl rfl, Or.inr ⟨rxg242_22_0 hP, trivial⟩, Or.inr trivial, trivial⟩
theorem rxgE242 {X : (Nat → Int → Int) → Prop} {S0 : Nat → Int → Int} {ws : List Int} (hP : rxP242 S0 ws) : bx_allI (fun i q => rxU242 q = true ∨ bx_allP (fun E => bx_obE rxL X S0 rxC242.2.2.1 (rxI242 S0 ws) (rxPS242 S0 ws) i q.1 E) q.2.2) 0 rxY242 := ⟨Or.inr ⟨rxf242_0_0 hP, trivial⟩, Or.inl rfl, Or.inr trivial, Or.inl rfl, Or.inr trivial, Or.inr trivial, Or.inl rfl, Or.inr trivial, Or.inl rfl, Or.inr trivial, Or.inl rfl, Or.inr ⟨rxf242_11_0 hP, trivial⟩, Or.inr trivial, Or.inl rfl, Or.inr trivial, Or.inr trivial, Or.inl rfl, Or.inr trivial, Or.inr trivial, Or.inl rfl, Or.inr trivial, Or.inl rfl, Or.inr trivial, Or.inr ⟨rxf242_23_0 hP, trivial⟩, trivial⟩
theorem rxu242 {PX : State → Prop} {Dg : va_G} {A : Nat → Prop} {ad xa : Nat → Nat} {l : Launch} {X : (Nat → Int → Int) → Prop} (hPX : rx_PXOK rxNW A PX) (hX : ∀ S S1 : Nat → Int → Int, X S → bx_same rxL (bx_mdl rxC242.2.2.1) S S1 → X S1) (hQBX : bx_ConP rxG rxNW rxAO PX Dg rxL X vwCl A ad l rxM283 rxCBX rxPBX rxPSBX) (hQRL : bx_ConP rxG rxNW rxAO PX Dg rxL X vwCl A ad l rxM284 rxCRL rxPRL rxPSRL) (hQNX : bx_ConP rxG rxNW rxAO PX Dg rxL X vwCl A ad l rxM264 rxCNX rxPNX rxPSNX) (hQET : bx_ConP rxG rxNW rxAO PX Dg rxL X vwCl A ad l rxM285 rxCET rxPET rxPSET) {S0 : Nat → Int → Int} {ws : List Int} (hP : rxP242 S0 ws) : ∀ (i : Nat) (q : bx_HE), rxY242[i]? = some q → rxU242 q = true → ∀ {p : Program} {e : Env} {R : Room} {s : State} {m : MethodId} {args : Array Value} {below : List Frame} {meth : Method} {c : Code} {Q : State → Prop} {H0 : Heap}, rx_Fr rxG rxNW rxAO PX p s m args meth c rxM242 → (∀ q, H0.size ≤ q → A q) → H0 = s.heap → rxM242.2.2.2.2.2.2.1 ≤ R.cells → rxM242.2.2.2.2.2.2.2 ≤ R.slots → rxC242.2.2.2.1 ≤ R.frames → rxC242.2.2.2.1 * 40 ≤ R.locals → bx_Step p l e R s m args below meth c Q Dg rxL X vwCl A xa H0 ad rxM242 rxY242 (rxI242 S0 ws) (rxm242 S0 ws) S0 rxC242.2.2.1 i q := by
  intro i q hq hus p e R s m args below meth c Q H0 hF hA hH0 hmc hms hd hdl
  match i, hq with
  | 0, hq =>
    cases hq
    exact absurd (show false = true from hus) Bool.false_ne_true
  | 1, hq =>
    cases hq
    exact rx_stepC (ins := .invokevirtual 388) (len := 3) (i_p := 2) (M_p := rxM283) (d := rxC242.2.2.2.1) (as := [.inr (3, (0, 480)), .inr (0, (0, 0))]) (t := []) (ct := rxCBX) hPX hF rfl hA hH0 hmc hms hd hdl (by decide +kernel) rfl rfl (by decide +kernel) (by decide +kernel) hQBX (by decide +kernel) rfl (Or.inl ⟨rfl, rfl, rfl⟩) (rxs242_1 hP)
  | 2, hq =>
    cases hq
    exact absurd (show false = true from hus) Bool.false_ne_true
  | 3, hq =>
    cases hq
    exact rx_stepC (ins := .invokevirtual 391) (len := 3) (i_p := 4) (M_p := rxM284) (d := rxC242.2.2.2.1) (as := [.inr (3, (0, 480))]) (t := []) (ct := rxCRL) hPX hF rfl hA hH0 hmc hms hd hdl (by decide +kernel) rfl rfl (by decide +kernel) (by decide +kernel) hQRL (by decide +kernel) rfl (Or.inl ⟨rfl, rfl, rfl⟩) (rxs242_3 hP)
  | 4, hq =>
    cases hq
    exact absurd (show false = true from hus) Bool.false_ne_true
  | 5, hq =>
    cases hq
    exact absurd (show false = true from hus) Bool.false_ne_true
  | 6, hq =>
    cases hq
    exact rx_stepC (ins := .invokevirtual 253) (len := 3) (i_p := 7) (M_p := rxM264) (d := rxC242.2.2.2.1) (as := [.inr (3, (0, 480))]) (t := []) (ct := rxCNX) hPX hF rfl hA hH0 hmc hms hd hdl (by decide +kernel) rfl rfl (by decide +kernel) (by decide +kernel) hQNX (by decide +kernel) rfl (Or.inl ⟨rfl, rfl, rfl⟩) (rxs242_6 hP)
  | 7, hq =>
    cases hq
    exact absurd (show false = true from hus) Bool.false_ne_true
  | 8, hq =>
    cases hq
    exact rx_stepC (ins := .invokevirtual 391) (len := 3) (i_p := 9) (M_p := rxM284) (d := rxC242.2.2.2.1) (as := [.inr (3, (0, 480))]) (t := []) (ct := rxCRL) hPX hF rfl hA hH0 hmc hms hd hdl (by decide +kernel) rfl rfl (by decide +kernel) (by decide +kernel) hQRL (by decide +kernel) rfl (Or.inl ⟨rfl, rfl, rfl⟩) (rxs242_8 hP)
  | 9, hq =>
    cases hq
    exact absurd (show false = true from hus) Bool.false_ne_true
  | 10, hq =>
    cases hq
    exact rx_stepC (ins := .invokevirtual 394) (len := 3) (i_p := 11) (M_p := rxM285) (d := rxC242.2.2.2.1) (as := [.inr (3, (0, 480))]) (t := []) (ct := rxCET) hPX hF rfl hA hH0 hmc hms hd hdl (by decide +kernel) rfl rfl (by decide +kernel) (by decide +kernel) hQET (by decide +kernel) rfl (Or.inl ⟨rfl, rfl, rfl⟩) (rxs242_10 hP)
  | 11, hq =>
    cases hq
    exact absurd (show false = true from hus) Bool.false_ne_true
  | 12, hq =>
    cases hq
    exact absurd (show false = true from hus) Bool.false_ne_true
  | 13, hq =>
    cases hq
    exact rx_stepS (i_p := 14) (pl := 482) (a := 9) (b := 10) (n := 6180) (g := 63) (lo := 781) (hi := 5281) (ty := (0, 0, 12)) (t := []) hF (by decide +kernel) rfl rfl rfl rfl (by omega) (by omega) (by decide +kernel) rfl rfl (rxs242_13 hP hX)
  | 14, hq =>
    cases hq
    exact absurd (show false = true from hus) Bool.false_ne_true
  | 15, hq =>
    cases hq
    exact absurd (show false = true from hus) Bool.false_ne_true
  | 16, hq =>
    cases hq
    exact rx_stepS (i_p := 17) (pl := 482) (a := 10) (b := 11) (n := 6180) (g := 63) (lo := 782) (hi := 5377) (ty := (0, 0, 400)) (t := []) hF (by decide +kernel) rfl rfl rfl rfl (by omega) (by omega) (by decide +kernel) rfl rfl (rxs242_16 hP hX)
  | 17, hq =>
    cases hq
    exact absurd (show false = true from hus) Bool.false_ne_true
  | 18, hq =>
    cases hq
    exact absurd (show false = true from hus) Bool.false_ne_true
  | 19, hq =>
    cases hq
    exact rx_stepS (i_p := 20) (pl := 482) (a := 10) (b := 11) (n := 6180) (g := 63) (lo := 878) (hi := 6176) (ty := (0, 0, 30)) (t := []) hF (by decide +kernel) rfl rfl rfl rfl (by omega) (by omega) (by decide +kernel) rfl rfl (rxs242_19 hP hX)
  | 20, hq =>
    cases hq
    exact absurd (show false = true from hus) Bool.false_ne_true
  | 21, hq =>
    cases hq
    exact rx_stepS (i_p := 22) (pl := 482) (a := 10) (b := 11) (n := 6180) (g := 63) (lo := 879) (hi := 6177) (ty := (0, 0, 1000)) (t := []) hF (by decide +kernel) rfl rfl rfl rfl (by omega) (by omega) (by decide +kernel) rfl rfl (rxs242_21 hP hX)
  | 22, hq =>
    cases hq
    exact absurd (show false = true from hus) Bool.false_ne_true
  | 23, hq =>
    cases hq
    exact absurd (show false = true from hus) Bool.false_ne_true
  | n + 24, hq => cases hq
theorem rxQ242 {PX : State → Prop} {Dg : va_G} {A : Nat → Prop} {ad xa : Nat → Nat} {l : Launch} {X : (Nat → Int → Int) → Prop} (hPX : rx_PXOK rxNW A PX) (hsl : ∀ s : State, PX s → ∀ o idx n : Nat, rxSl o idx = some n → ∃ tx : String, vk_R (rxNm o) idx tx (ad n) s)
    (hX : ∀ S S_p : Nat → Int → Int, X S → bx_same rxL (bx_mdl rxC242.2.2.1) S S_p → X S_p)
    (ih : ∀ (j2 : Nat) (ct2 : bx_Ct) (M2 : rx_Mt), ct2 ∈ rxCnE j2 → ct2.2.2.2.1 + 1 ≤ rxC242.2.2.2.1 → rxT.2.2.2.2.2 j2 = some M2 → bx_Con rxG rxNW rxAO PX Dg rxL X vwCl A ad l M2 ct2) (hQBX : bx_ConP rxG rxNW rxAO PX Dg rxL X vwCl A ad l rxM283 rxCBX rxPBX rxPSBX) (hQRL : bx_ConP rxG rxNW rxAO PX Dg rxL X vwCl A ad l rxM284 rxCRL rxPRL rxPSRL) (hQNX : bx_ConP rxG rxNW rxAO PX Dg rxL X vwCl A ad l rxM264 rxCNX rxPNX rxPSNX) (hQET : bx_ConP rxG rxNW rxAO PX Dg rxL X vwCl A ad l rxM285 rxCET rxPET rxPSET) : bx_ConP rxG rxNW rxAO PX Dg rxL X vwCl A ad l rxM242 rxC242 rxP242 rxPS242 :=
  rxQof (xa := xa) (Cn := rxCnE) (f := 30000) (j := 242) (tab := rxY242) (us := rxU242) hPX hsl hX ih rfl rxYc242 rxI242 rxm242
    (fun S0 ws r I0 I ht0 ht as he he1 hX0 hI0 hP hs ha => by
      have e := he.symm.trans (show bx_ent0 rxNP rxC242.1 bx_I0 [] = some ([(0, 0), (0, 0), (0, 0), (0, 0), (0, 0), (0, 0), (0, 0), (0, 0)], [], [.inr (3, (0, 480))]) from rfl)
      cases e
      subst ha
      have h0 : r 0 = 0 := hs.1
      show rxI242_0 S0 _ S0
      refine ⟨rfl, ?_⟩
      simp only [List.map_cons, List.map_nil, bx_xv_ok h0]
      rfl)
    (fun S0 ws hP => rxu242 (xa := xa) hPX hX hQBX hQRL hQNX hQET hP) (fun S0 ws hP => rxgC242 hP) (fun S0 ws hP => rxgE242 hP)
