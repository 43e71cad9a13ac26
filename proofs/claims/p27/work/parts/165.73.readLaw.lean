theorem rxSeg_nil {op arg : Int → Int} {a : Int} : rxSeg op arg a a := ⟨fun _ => 0, rfl, fun k k0 k1 => ⟨Int.le_refl _, by show (0 : Int) ≤ k - a; omega⟩, fun k k0 k1 => by omega⟩
noncomputable def rxCq (S : Nat → Int → Int) (a b : Int) : Prop := 0 ≤ a ∧ b ≤ S 480 18 ∧ rxSeg (S 487) (S 488) a b
theorem rxCq_kp {S0 S : Nat → Int → Int} {a b : Int} (h : rxCq S0 a b) (hk : rxKp S0 S (S0 480 18)) (hn : S0 480 18 ≤ S 480 18) : rxCq S a b :=
  ⟨h.1, by have := h.2.1; omega, rxSeg_cg h.2.2 fun k k0 k1 => hk k (by have := h.1; omega) (by have := h.2.1; omega)⟩
noncomputable def rxLi (S : Nat → Int → Int) : Prop := rxTk S ∧ (S 480 14 = 0 → S 480 18 ≤ S 480 9 ∧ ∀ k : Int, 0 ≤ k → k < S 480 16 → rxCq S (S 486 (8 * k + 3)) (S 486 (8 * k + 4)) ∧ rxCq S (S 486 (8 * k + 5)) (S 486 (8 * k + 6)))
noncomputable def rxLz (S0 S : Nat → Int → Int) (base : Int) : Prop := rxTk S ∧ S 480 16 = S0 480 16 + 1 ∧ base = 8 * S0 480 16 ∧ 0 ≤ S0 480 16 ∧ S0 480 16 ≤ 11 ∧ (∀ j : Int, 0 ≤ j → j < base → S 486 j = S0 486 j) ∧ S 486 (base + 3) = S0 480 18 ∧
  (S 480 14 = 0 → S0 480 18 ≤ S 480 18 ∧ S 480 18 ≤ S 480 9 ∧ rxKp S0 S (S0 480 18) ∧ rxSeg (S 487) (S 488) (S0 480 18) (S 480 18))
noncomputable def rxLy (S0 S : Nat → Int → Int) (base m : Int) : Prop := rxTk S ∧ S 480 16 = S0 480 16 + 1 ∧ base = 8 * S0 480 16 ∧ 0 ≤ S0 480 16 ∧ S0 480 16 ≤ 11 ∧ (∀ j : Int, 0 ≤ j → j < base → S 486 j = S0 486 j) ∧ S 486 (base + 3) = S0 480 18 ∧ S 486 (base + 4) = m ∧ S 486 (base + 5) = m ∧
  (S 480 14 = 0 → S0 480 18 ≤ m ∧ m ≤ S 480 18 ∧ S 480 18 ≤ S 480 9 ∧ rxKp S0 S (S0 480 18) ∧ rxSeg (S 487) (S 488) (S0 480 18) m ∧ rxSeg (S 487) (S 488) m (S 480 18))
theorem rxKp_tr {S0 S1 S : Nat → Int → Int} {a b : Int} (h : rxKp S0 S1 a) (h2 : rxKp S1 S b) (hb : a ≤ b) : rxKp S0 S a := fun k k0 k1 => ⟨(h2 k k0 (by omega)).1.trans (h k k0 k1).1, (h2 k k0 (by omega)).2.trans (h k k0 k1).2⟩
theorem rxKp_sm {S S_p : Nat → Int → Int} {a : Int} (h : rxSm S S_p) (ha : a ≤ 400) : rxKp S S_p a := fun k k0 k1 => ⟨(h.2.2.2 k k0 (by omega)).1, (h.2.2.2 k k0 (by omega)).2.1⟩
theorem rxT486 (j : Int) : rxL.2.2.1 486 j = bx_dT rxPl486 j := rfl
theorem rxW486 : bx_wd (rxL.1 486) = 96 := rfl
theorem rxDc0 : [3, 4, 5, 6].all (fun c => decide (bx_dW rxPl486 c (88 + c) 8 = some (0, 0, 400))) = true := by decide +kernel
theorem rxDc {k c v : Int} (k0 : 0 ≤ k) (k1 : k ≤ 11) (hc : c ∈ [3, 4, 5, 6]) (v0 : 0 ≤ v) (v1 : v ≤ 400) : bx_okT rxL (rxL.2.2.1 486 (8 * k + c)) v := by
  have h := of_decide_eq_true (List.all_eq_true.mp rxDc0 c hc)
  rw [rxT486, bx_dW_ok h (by omega) (by omega) (by rw [show 8 * k + c - c = 8 * k by omega]; omega)]
  exact ⟨v0, v1⟩
theorem rxBox16 {S : Nat → Int → Int} (h : bx_Inv rxL S) : 0 ≤ S 480 16 ∧ S 480 16 ≤ 12 := h 480 16 (by decide) (by decide)
theorem rxDc2 : bx_dW rxPl486 0 88 8 = some (0, 0, 2) := by decide +kernel
theorem rxDc3 : (bx_ssOf rxPl486).all (fun s => decide (s.2.2.2.1 = 0) && (decide (s.2.2.2.2.1 ≤ 0) && decide (0 ≤ s.2.2.2.2.2))) = true := by decide +kernel
theorem rxD0 {S : Nat → Int → Int} (h : bx_Inv rxL S) {j : Int} (j0 : 0 ≤ j) (j1 : j < 96) : bx_okT rxL (rxL.2.2.1 486 j) 0 := by
  have h1 := rx_inv h (p := 486) (j := j) (by omega) rxW486 j0 (by omega) (rxT486 j)
  rw [rxT486]
  have h1 : bx_okT rxL (bx_sg (bx_ssOf rxPl486) j) (S 486 j) := h1
  show bx_okT rxL (bx_sg (bx_ssOf rxPl486) j) 0
  rcases rx_sg_mem (l := bx_ssOf rxPl486) (j := j) with h3 | ⟨s, h3, h4, h5, h6, h7⟩
  · rw [h3] at h1
    have h1 : (1 : Int) ≤ S 486 j ∧ S 486 j ≤ 0 := h1
    omega
  · rw [h7]
    have h8 := List.all_eq_true.mp rxDc3 s h3
    rw [Bool.and_eq_true, Bool.and_eq_true, decide_eq_true_eq, decide_eq_true_eq, decide_eq_true_eq] at h8
    unfold bx_okT
    rw [h8.1]
    exact h8.2
noncomputable def rxMq (S0 S : Nat → Int → Int) (base : Int) : Prop := rxTk S ∧ rxSm S0 S ∧ S 480 14 = 0 ∧ S0 480 9 ≤ S 480 9 ∧ S 480 16 = S0 480 16 ∧ base = 8 * S0 480 16 ∧ S0 480 16 ≤ 11 ∧ ∀ j : Int, 0 ≤ j → j < base → S 486 j = S0 486 j
theorem rxMq_st {S0 S : Nat → Int → Int} {base a v : Int} (h : rxMq S0 S base) (ha : base ≤ a) : rxMq S0 (bx_up S 486 a v) base := by
  obtain ⟨h1, h2, h3, h4, h5, h6, h7, h8⟩ := h
  have e : ∀ i : Int, bx_up S 486 a v 480 i = S 480 i := fun i => by rw [bx_up_row (by omega)]
  refine ⟨?_, ⟨(e _).trans h2.1, (e _).trans h2.2.1, (e _).trans h2.2.2.1, fun i i0 i1 => ?_⟩, (e _).trans h3, by rw [e]; exact h4, (e _).trans h5, h6, h7, fun j j0 j1 => ?_⟩
  · unfold rxTk at h1 ⊢
    simp only [e]
    exact h1
  · obtain ⟨g1, g2, g3, g4⟩ := h2.2.2.2 i i0 i1
    exact ⟨by rw [bx_up_row (by omega)]; exact g1, by rw [bx_up_row (by omega)]; exact g2, by rw [bx_up_row (by omega)]; exact g3, by rw [bx_up_row (by omega)]; exact g4⟩
  · rw [bx_up_ne (by omega)]
    exact h8 j j0 j1
theorem rxLi_end {S0 S : Nat → Int → Int} {base m : Int} (h : rxLi S0) (h0 : S0 480 14 = 0) (hy : rxLy S0 S base m) (h6 : S 486 (base + 6) = S 480 18) (hn : 0 ≤ S0 480 18) : rxLi S := by
  obtain ⟨y1, y2, y3, y4, y5, y6, y7, y8, y9, y10⟩ := hy
  obtain ⟨a1, a2⟩ := h.2 h0
  refine ⟨y1, fun q => ?_⟩
  obtain ⟨z1, z2, z3, z4, z5, z6⟩ := y10 q
  refine ⟨z3, fun k k0 k1 => ?_⟩
  by_cases hk : k = S0 480 16
  · subst hk
    rw [← y3, y7, y8, y9, h6]
    exact ⟨⟨hn, z2, z5⟩, by omega, Int.le_refl _, z6⟩
  · obtain ⟨b1, b2⟩ := a2 k k0 (by omega)
    rw [y6 (8 * k + 3) (by omega) (by omega), y6 (8 * k + 4) (by omega) (by omega), y6 (8 * k + 5) (by omega) (by omega), y6 (8 * k + 6) (by omega) (by omega)]
    exact ⟨rxCq_kp b1 z4 (by omega), rxCq_kp b2 z4 (by omega)⟩
noncomputable def rxCRL : bx_Ct := ([(3, (1, 480, 0))], none, [(12, 9), (12, 10), (12, 11), (12, 12), (12, 13), (12, 14), (12, 16), (12, 18), (12, 21), (12, 24), (12, 25), (1067, 0), (1068, 0), (1069, 0), (1070, 0), (1071, 0)], 7, [])
noncomputable def rxIRL_0 (S0 : Nat → Int → Int) (ws : List Int) (S : Nat → Int → Int) : Prop := S = S0 ∧ ws = [480]
noncomputable def rxmRL_0 (S0 : Nat → Int → Int) (ws : List Int) (S : Nat → Int → Int) : Nat := 10000
noncomputable def rxzRL_0 : rx_Z := ([(0, 0), (0, 0), (0, 0), (0, 0), (0, 0), (0, 0), (0, 0), (0, 0)], [], [], 0, 0, 0, [(0, .inr (3, (0, 480)))], [])
noncomputable def rxIRL_1 (S0 : Nat → Int → Int) (ws : List Int) (S : Nat → Int → Int) (which : Int) : Prop := S = S0
noncomputable def rxmRL_1 (S0 : Nat → Int → Int) (ws : List Int) (S : Nat → Int → Int) (which : Int) : Nat := 9990
noncomputable def rxzRL_1 : rx_Z := ([(0, 0), (0, 0), (0, 0), (0, 0), (0, 0), (0, 0), (0, 0), (0, 0), ((-1), 2)], [], [], 0, 0, 44, [(0, .inr (3, (0, 480))), (1, .inr (0, (8, 0)))], [])
noncomputable def rxIRL_2 (S0 : Nat → Int → Int) (ws : List Int) (S : Nat → Int → Int) (which is : Int) : Prop := S = S0 ∧ (is = 1 → 0 ≤ which ∧ S 480 16 < 12)
noncomputable def rxmRL_2 (S0 : Nat → Int → Int) (ws : List Int) (S : Nat → Int → Int) (which is : Int) : Nat := 9980
noncomputable def rxzRL_2 : rx_Z := ([(0, 0), (0, 0), (0, 0), (0, 0), (0, 0), (0, 0), (0, 0), (0, 0), ((-1), 2), (0, 1)], [], [], 0, 0, 64, [(0, .inr (3, (0, 480))), (1, .inr (0, (8, 0)))], [.inr (0, (9, 0)), .inr (3, (0, 480))])
noncomputable def rxIRL_3 (S0 : Nat → Int → Int) (ws : List Int) (S : Nat → Int → Int) (which is : Int) : Prop := rxTk S ∧ rxSm S0 S ∧ S0 480 9 ≤ S 480 9 ∧ S 480 16 = S0 480 16 ∧ (∀ j : Int, 0 ≤ j → j < 96 → S 486 j = S0 486 j) ∧ (S 480 14 = 0 → 0 ≤ which ∧ S 480 16 < 12)
noncomputable def rxmRL_3 (S0 : Nat → Int → Int) (ws : List Int) (S : Nat → Int → Int) (which is : Int) : Nat := 9970
noncomputable def rxzRL_3 : rx_Z := ([(0, 0), (0, 0), (0, 0), (0, 0), (0, 0), (0, 0), (0, 0), (0, 0), ((-1), 2), (0, 1)], [], [], 0, 0, 67, [(0, .inr (3, (0, 480))), (1, .inr (0, (8, 0)))], [])
noncomputable def rxIRL_4 (S0 : Nat → Int → Int) (ws : List Int) (S : Nat → Int → Int) (which nc : Int) : Prop := nc = S 480 16 ∧ S 480 14 = 0 ∧ rxTk S ∧ rxSm S0 S ∧ S0 480 9 ≤ S 480 9 ∧ S 480 16 = S0 480 16 ∧ (∀ j : Int, 0 ≤ j → j < 96 → S 486 j = S0 486 j)
noncomputable def rxmRL_4 (S0 : Nat → Int → Int) (ws : List Int) (S : Nat → Int → Int) (which nc : Int) : Nat := 9960
noncomputable def rxzRL_4 : rx_Z := ([(0, 0), (0, 0), (0, 0), (0, 0), (0, 0), (0, 0), (0, 0), (0, 0), (0, 2), (0, 11)], [], [], 0, 0, 81, [(0, .inr (3, (0, 480))), (1, .inr (0, (8, 0)))], [.inr (0, (9, 0)), .inr (0, (0, 8))])
noncomputable def rxIRL_5 (S0 : Nat → Int → Int) (ws : List Int) (S : Nat → Int → Int) (which base i : Int) : Prop := rxMq S0 S base
noncomputable def rxmRL_5 (S0 : Nat → Int → Int) (ws : List Int) (S : Nat → Int → Int) (which base i : Int) : Nat := 900 + 10 * (20 - i).toNat + 2
noncomputable def rxzRL_5 : rx_Z := ([(0, 0), (0, 0), (0, 0), (0, 0), (0, 0), (0, 0), (0, 0), (0, 0), (0, 2), (0, 88), (0, 8)], [], [], 0, 0, 85, [(0, .inr (3, (0, 480))), (1, .inr (0, (8, 0))), (2, .inr (0, (9, 0))), (3, .inr (0, (10, 0)))], [])
noncomputable def rxIRL_6 (S0 : Nat → Int → Int) (ws : List Int) (S : Nat → Int → Int) (which base i a zz : Int) : Prop := rxMq S0 S base ∧ a = base + i
noncomputable def rxmRL_6 (S0 : Nat → Int → Int) (ws : List Int) (S : Nat → Int → Int) (which base i a zz : Int) : Nat := 900 + 10 * (20 - i).toNat + 1
noncomputable def rxzRL_6 : rx_Z := ([(0, 0), (0, 0), (0, 0), (0, 0), (0, 0), (0, 0), (0, 0), (0, 0), (0, 2), (0, 88), (0, 7), (0, 95), (0, 0)], [], [], 0, 0, 99, [(0, .inr (3, (0, 480))), (1, .inr (0, (8, 0))), (2, .inr (0, (9, 0))), (3, .inr (0, (10, 0)))], [.inr (0, (12, 0)), .inr (0, (11, 0)), .inr (3, (0, 486))])
noncomputable def rxIRL_7 (S0 : Nat → Int → Int) (ws : List Int) (S : Nat → Int → Int) (which base i a zz : Int) : Prop := rxMq S0 S base
noncomputable def rxmRL_7 (S0 : Nat → Int → Int) (ws : List Int) (S : Nat → Int → Int) (which base i a zz : Int) : Nat := 900 + 10 * (20 - i).toNat
noncomputable def rxzRL_7 : rx_Z := ([(0, 0), (0, 0), (0, 0), (0, 0), (0, 0), (0, 0), (0, 0), (0, 0), (0, 2), (0, 88), (0, 7), (0, 95), (0, 0)], [], [], 0, 0, 100, [(0, .inr (3, (0, 480))), (1, .inr (0, (8, 0))), (2, .inr (0, (9, 0))), (3, .inr (0, (10, 0)))], [])
noncomputable def rxIRL_8 (S0 : Nat → Int → Int) (ws : List Int) (S : Nat → Int → Int) (which base a v : Int) : Prop := rxMq S0 S base ∧ a = base
noncomputable def rxmRL_8 (S0 : Nat → Int → Int) (ws : List Int) (S : Nat → Int → Int) (which base a v : Int) : Nat := 896
noncomputable def rxzRL_8 : rx_Z := ([(0, 0), (0, 0), (0, 0), (0, 0), (0, 0), (0, 0), (0, 0), (0, 0), (0, 2), (0, 88), (0, 88), (0, 2)], [], [], 0, 0, 112, [(0, .inr (3, (0, 480))), (1, .inr (0, (8, 0))), (2, .inr (0, (9, 0)))], [.inr (0, (11, 0)), .inr (0, (10, 0)), .inr (3, (0, 486))])
noncomputable def rxIRL_9 (S0 : Nat → Int → Int) (ws : List Int) (S : Nat → Int → Int) (which base a v : Int) : Prop := rxMq S0 S base
noncomputable def rxmRL_9 (S0 : Nat → Int → Int) (ws : List Int) (S : Nat → Int → Int) (which base a v : Int) : Nat := 895
noncomputable def rxzRL_9 : rx_Z := ([(0, 0), (0, 0), (0, 0), (0, 0), (0, 0), (0, 0), (0, 0), (0, 0), (0, 2), (0, 88), (0, 88), (0, 2)], [], [], 0, 0, 113, [(0, .inr (3, (0, 480))), (1, .inr (0, (8, 0))), (2, .inr (0, (9, 0)))], [])
noncomputable def rxIRL_10 (S0 : Nat → Int → Int) (ws : List Int) (S : Nat → Int → Int) (which base nc : Int) : Prop := rxMq S0 S base ∧ nc = S 480 16
noncomputable def rxmRL_10 (S0 : Nat → Int → Int) (ws : List Int) (S : Nat → Int → Int) (which base nc : Int) : Nat := 894
noncomputable def rxzRL_10 : rx_Z := ([(0, 0), (0, 0), (0, 0), (0, 0), (0, 0), (0, 0), (0, 0), (0, 0), (0, 2), (0, 88), (0, 11)], [], [], 0, 0, 118, [(0, .inr (3, (0, 480))), (1, .inr (0, (8, 0))), (2, .inr (0, (9, 0)))], [.inr (0, (10, 0)), .inr (3, (0, 480))])
noncomputable def rxIRL_11 (S0 : Nat → Int → Int) (ws : List Int) (S : Nat → Int → Int) (which base a v : Int) : Prop := a = base + 3 ∧ v = S0 480 18 ∧ ∃ S1 : Nat → Int → Int, rxMq S0 S1 base ∧ S = bx_up S1 480 16 (S1 480 16 + 1)
noncomputable def rxmRL_11 (S0 : Nat → Int → Int) (ws : List Int) (S : Nat → Int → Int) (which base a v : Int) : Nat := 892
noncomputable def rxzRL_11 : rx_Z := ([(0, 0), (0, 0), (0, 0), (0, 0), (0, 0), (0, 0), (0, 0), (0, 0), (0, 2), (0, 88), (3, 91), (0, 400)], [], [], 0, 0, 134, [(0, .inr (3, (0, 480))), (1, .inr (0, (8, 0))), (2, .inr (0, (9, 0)))], [.inr (0, (11, 0)), .inr (0, (10, 0)), .inr (3, (0, 486))])
noncomputable def rxIRL_12 (S0 : Nat → Int → Int) (ws : List Int) (S : Nat → Int → Int) (which base a v : Int) : Prop := rxLz S0 S base ∧ S 480 18 = S0 480 18 ∧ S 480 14 = 0
noncomputable def rxmRL_12 (S0 : Nat → Int → Int) (ws : List Int) (S : Nat → Int → Int) (which base a v : Int) : Nat := 891
noncomputable def rxzRL_12 : rx_Z := ([(0, 0), (0, 0), (0, 0), (0, 0), (0, 0), (0, 0), (0, 0), (0, 0), (0, 2), (0, 88), (3, 91), (0, 400)], [], [], 0, 0, 135, [(0, .inr (3, (0, 480))), (1, .inr (0, (8, 0))), (2, .inr (0, (9, 0)))], [])
noncomputable def rxIRL_13 (S0 : Nat → Int → Int) (ws : List Int) (S : Nat → Int → Int) (base : Int) : Prop := rxLz S0 S base ∧ S 480 18 = S0 480 18 ∧ S 480 14 = 0
noncomputable def rxmRL_13 (S0 : Nat → Int → Int) (ws : List Int) (S : Nat → Int → Int) (base : Int) : Nat := 880
noncomputable def rxzRL_13 : rx_Z := ([(0, 0), (0, 0), (0, 0), (0, 0), (0, 0), (0, 0), (0, 0), (0, 0), (0, 88)], [], [], 0, 0, 142, [(0, .inr (3, (0, 480))), (2, .inr (0, (8, 0)))], [.inr (0, (0, 0)), .inr (3, (0, 480))])
noncomputable def rxIRL_14 (S0 : Nat → Int → Int) (ws : List Int) (S : Nat → Int → Int) (base : Int) : Prop := rxLz S0 S base
noncomputable def rxmRL_14 (S0 : Nat → Int → Int) (ws : List Int) (S : Nat → Int → Int) (base : Int) : Nat := 870
noncomputable def rxzRL_14 : rx_Z := ([(0, 0), (0, 0), (0, 0), (0, 0), (0, 0), (0, 0), (0, 0), (0, 0), (0, 88)], [], [], 0, 0, 145, [(0, .inr (3, (0, 480))), (2, .inr (0, (8, 0)))], [])
noncomputable def rxIRL_15 (S0 : Nat → Int → Int) (ws : List Int) (S : Nat → Int → Int) (base a v : Int) : Prop := rxLz S0 S base ∧ a = base + 4 ∧ v = S 480 18
noncomputable def rxmRL_15 (S0 : Nat → Int → Int) (ws : List Int) (S : Nat → Int → Int) (base a v : Int) : Nat := 860
noncomputable def rxzRL_15 : rx_Z := ([(0, 0), (0, 0), (0, 0), (0, 0), (0, 0), (0, 0), (0, 0), (0, 0), (0, 88), (4, 92), (0, 400)], [], [], 0, 0, 156, [(0, .inr (3, (0, 480))), (2, .inr (0, (8, 0)))], [.inr (0, (10, 0)), .inr (0, (9, 0)), .inr (3, (0, 486))])
noncomputable def rxIRL_16 (S0 : Nat → Int → Int) (ws : List Int) (S : Nat → Int → Int) (base a v : Int) : Prop := rxLz S0 S base ∧ S 486 (base + 4) = S 480 18
noncomputable def rxmRL_16 (S0 : Nat → Int → Int) (ws : List Int) (S : Nat → Int → Int) (base a v : Int) : Nat := 850
noncomputable def rxzRL_16 : rx_Z := ([(0, 0), (0, 0), (0, 0), (0, 0), (0, 0), (0, 0), (0, 0), (0, 0), (0, 88), (4, 92), (0, 400)], [], [], 0, 0, 157, [(0, .inr (3, (0, 480))), (2, .inr (0, (8, 0)))], [])
noncomputable def rxIRL_17 (S0 : Nat → Int → Int) (ws : List Int) (S : Nat → Int → Int) (base a v : Int) : Prop := rxLz S0 S base ∧ S 486 (base + 4) = S 480 18 ∧ a = base + 5 ∧ v = S 480 18
noncomputable def rxmRL_17 (S0 : Nat → Int → Int) (ws : List Int) (S : Nat → Int → Int) (base a v : Int) : Nat := 840
noncomputable def rxzRL_17 : rx_Z := ([(0, 0), (0, 0), (0, 0), (0, 0), (0, 0), (0, 0), (0, 0), (0, 0), (0, 88), (5, 93), (0, 400)], [], [], 0, 0, 168, [(0, .inr (3, (0, 480))), (2, .inr (0, (8, 0)))], [.inr (0, (10, 0)), .inr (0, (9, 0)), .inr (3, (0, 486))])
noncomputable def rxIRL_18 (S0 : Nat → Int → Int) (ws : List Int) (S : Nat → Int → Int) (base a v : Int) : Prop := ∃ m : Int, rxLy S0 S base m ∧ m = S 480 18
noncomputable def rxmRL_18 (S0 : Nat → Int → Int) (ws : List Int) (S : Nat → Int → Int) (base a v : Int) : Nat := 830
noncomputable def rxzRL_18 : rx_Z := ([(0, 0), (0, 0), (0, 0), (0, 0), (0, 0), (0, 0), (0, 0), (0, 0), (0, 88), (5, 93), (0, 400)], [], [], 0, 0, 169, [(0, .inr (3, (0, 480))), (2, .inr (0, (8, 0)))], [])
noncomputable def rxIRL_19 (S0 : Nat → Int → Int) (ws : List Int) (S : Nat → Int → Int) (base : Int) : Prop := S 480 14 = 0 ∧ ∃ m : Int, rxLy S0 S base m ∧ m = S 480 18
noncomputable def rxmRL_19 (S0 : Nat → Int → Int) (ws : List Int) (S : Nat → Int → Int) (base : Int) : Nat := 820
noncomputable def rxzRL_19 : rx_Z := ([(0, 0), (0, 0), (0, 0), (0, 0), (0, 0), (0, 0), (0, 0), (0, 0), (0, 88)], [], [], 0, 0, 187, [(0, .inr (3, (0, 480))), (2, .inr (0, (8, 0)))], [.inr (3, (0, 480))])
noncomputable def rxIRL_20 (S0 : Nat → Int → Int) (ws : List Int) (S : Nat → Int → Int) (base : Int) : Prop := S 480 14 = 0 ∧ ∃ m : Int, rxLy S0 S base m ∧ m = S 480 18
noncomputable def rxmRL_20 (S0 : Nat → Int → Int) (ws : List Int) (S : Nat → Int → Int) (base : Int) : Nat := 810
noncomputable def rxzRL_20 : rx_Z := ([(0, 0), (0, 0), (0, 0), (0, 0), (0, 0), (0, 0), (0, 0), (0, 0), (0, 88)], [], [], 0, 0, 190, [(0, .inr (3, (0, 480))), (2, .inr (0, (8, 0)))], [])
noncomputable def rxIRL_21 (S0 : Nat → Int → Int) (ws : List Int) (S : Nat → Int → Int) (base : Int) : Prop := S 480 14 = 0 ∧ ∃ m : Int, rxLy S0 S base m ∧ m = S 480 18
noncomputable def rxmRL_21 (S0 : Nat → Int → Int) (ws : List Int) (S : Nat → Int → Int) (base : Int) : Nat := 800
noncomputable def rxzRL_21 : rx_Z := ([(0, 0), (0, 0), (0, 0), (0, 0), (0, 0), (0, 0), (0, 0), (0, 0), (0, 88)], [], [], 0, 0, 192, [(0, .inr (3, (0, 480))), (2, .inr (0, (8, 0)))], [.inr (0, (0, 1)), .inr (3, (0, 480))])
noncomputable def rxIRL_22 (S0 : Nat → Int → Int) (ws : List Int) (S : Nat → Int → Int) (base : Int) : Prop := ∃ m : Int, rxLy S0 S base m
noncomputable def rxmRL_22 (S0 : Nat → Int → Int) (ws : List Int) (S : Nat → Int → Int) (base : Int) : Nat := 790
noncomputable def rxzRL_22 : rx_Z := ([(0, 0), (0, 0), (0, 0), (0, 0), (0, 0), (0, 0), (0, 0), (0, 0), (0, 88)], [], [], 0, 0, 195, [(0, .inr (3, (0, 480))), (2, .inr (0, (8, 0)))], [])
noncomputable def rxIRL_23 (S0 : Nat → Int → Int) (ws : List Int) (S : Nat → Int → Int) (base a v : Int) : Prop := a = base + 6 ∧ v = S 480 18 ∧ ∃ m : Int, rxLy S0 S base m
noncomputable def rxmRL_23 (S0 : Nat → Int → Int) (ws : List Int) (S : Nat → Int → Int) (base a v : Int) : Nat := 780
noncomputable def rxzRL_23 : rx_Z := ([(0, 0), (0, 0), (0, 0), (0, 0), (0, 0), (0, 0), (0, 0), (0, 0), (0, 88), (6, 94), (0, 400)], [], [], 0, 0, 207, [(0, .inr (3, (0, 480))), (2, .inr (0, (8, 0)))], [.inr (0, (10, 0)), .inr (0, (9, 0)), .inr (3, (0, 486))])
noncomputable def rxIRL_24 (S0 : Nat → Int → Int) (ws : List Int) (S : Nat → Int → Int) (base a v : Int) : Prop := rxLi S ∧ S 480 16 = S0 480 16 + 1
noncomputable def rxmRL_24 (S0 : Nat → Int → Int) (ws : List Int) (S : Nat → Int → Int) (base a v : Int) : Nat := 770
noncomputable def rxzRL_24 : rx_Z := ([(0, 0), (0, 0), (0, 0), (0, 0), (0, 0), (0, 0), (0, 0), (0, 0), (0, 88), (6, 94), (0, 400)], [], [], 0, 0, 208, [(0, .inr (3, (0, 480))), (2, .inr (0, (8, 0)))], [])
noncomputable def rxoRL_0_0 : bx_HO := (([(0, 0), (0, 0), (0, 0), (0, 0), (0, 0), (0, 0), (0, 0), (0, 0), (0, 3)], [(3, (8, 0), (0, 1)), (3, (8, 0), (0, 1)), (3, (8, 0), (0, 1))], [(((0, 0), 1851192626986356799632114105031551009123054124018230966928539648000000), .inr (0, (8, 0))), (((0, 480), 11), .inr (0, (8, 0)))], 0, 0, 44, [(1, .inr (0, (0, (-1)))), (0, .inr (3, (0, 480)))], []), [], [], [(0, 0), (0, 0), (0, 0), (0, 0), (0, 0), (0, 0), (0, 0), (0, 0), (0, (-1))], 1)
noncomputable def rxoRL_0_1 : bx_HO := (([(0, 0), (0, 0), (0, 0), (0, 0), (0, 0), (0, 0), (0, 0), (0, 0), (1, 1), ((-9223372036854775808), 9223372036854775807)], [(3, (9, 0), (0, 67155)), (3, (9, 0), (0, 8902227)), (3, (9, 0), (0, 20325907))], [(((0, 0), 1851192626986356799832820811818326617396875588472066220482363392000000), .inr (1, (9, 0))), (((0, 480), 12), .inr (1, (9, 0))), (((0, 0), 1851192626986356799632114105031551009123054124018230966928539648000000), .inr (0, (8, 0))), (((0, 480), 11), .inr (0, (8, 0)))], 0, 0, 44, [(1, .inr (0, (0, (-1)))), (0, .inr (3, (0, 480)))], []), [], [], [(0, 0), (0, 0), (0, 0), (0, 0), (0, 0), (0, 0), (0, 0), (0, 0), (0, (-1))], 1)
noncomputable def rxoRL_0_2 : bx_HO := (([(0, 0), (0, 0), (0, 0), (0, 0), (0, 0), (0, 0), (0, 0), (0, 0), (1, 1), (67155, 67155)], [(3, (9, 0), (0, 8902227)), (3, (9, 0), (0, 20325907))], [(((0, 0), 1851192626986356799832820811818326617396875588472066220482363392000000), .inr (1, (9, 0))), (((0, 480), 12), .inr (1, (9, 0))), (((0, 0), 1851192626986356799632114105031551009123054124018230966928539648000000), .inr (0, (8, 0))), (((0, 480), 11), .inr (0, (8, 0)))], 0, 0, 44, [(1, .inr (0, (0, 2))), (0, .inr (3, (0, 480)))], []), [], [], [(0, 0), (0, 0), (0, 0), (0, 0), (0, 0), (0, 0), (0, 0), (0, 0), (0, 2)], 1)
noncomputable def rxoRL_0_3 : bx_HO := (([(0, 0), (0, 0), (0, 0), (0, 0), (0, 0), (0, 0), (0, 0), (0, 0), (1, 1), (8902227, 8902227)], [(3, (9, 0), (0, 20325907))], [(((0, 0), 1851192626986356799832820811818326617396875588472066220482363392000000), .inr (1, (9, 0))), (((0, 480), 12), .inr (1, (9, 0))), (((0, 0), 1851192626986356799632114105031551009123054124018230966928539648000000), .inr (0, (8, 0))), (((0, 480), 11), .inr (0, (8, 0)))], 0, 0, 44, [(1, .inr (0, (0, 1))), (0, .inr (3, (0, 480)))], []), [], [], [(0, 0), (0, 0), (0, 0), (0, 0), (0, 0), (0, 0), (0, 0), (0, 0), (0, 1)], 1)
noncomputable def rxoRL_0_4 : bx_HO := (([(0, 0), (0, 0), (0, 0), (0, 0), (0, 0), (0, 0), (0, 0), (0, 0), (1, 1), (20325907, 20325907)], [], [(((0, 0), 1851192626986356799832820811818326617396875588472066220482363392000000), .inr (1, (9, 0))), (((0, 480), 12), .inr (1, (9, 0))), (((0, 0), 1851192626986356799632114105031551009123054124018230966928539648000000), .inr (0, (8, 0))), (((0, 480), 11), .inr (0, (8, 0)))], 0, 0, 44, [(1, .inr (0, (0, 0))), (0, .inr (3, (0, 480)))], []), [], [], [(0, 0), (0, 0), (0, 0), (0, 0), (0, 0), (0, 0), (0, 0), (0, 0), (0, 0)], 1)
noncomputable def rxoRL_1_0 : bx_HO := (([(0, 0), (0, 0), (0, 0), (0, 0), (0, 0), (0, 0), (0, 0), (0, 0), (0, 2), (0, 11)], [(3, (8, 0), (0, (-1)))], [(((0, 0), 1851192626986356800635647638965429050492161446287407234697658368000000), .inr (0, (9, 0))), (((0, 480), 16), .inr (0, (9, 0)))], 0, 0, 64, [(0, .inr (3, (0, 480))), (1, .inr (0, (8, 0)))], [.inr (0, (0, 1)), .inr (3, (0, 480))]), [], [], [(0, 0), (0, 0), (0, 0), (0, 0), (0, 0), (0, 0), (0, 0), (0, 0), (8, 0), (0, 1)], 2)
noncomputable def rxoRL_1_1 : bx_HO := (([(0, 0), (0, 0), (0, 0), (0, 0), (0, 0), (0, 0), (0, 0), (0, 0), (0, 2), (12, 12)], [(3, (8, 0), (0, (-1)))], [(((0, 0), 1851192626986356800635647638965429050492161446287407234697658368000000), .inr (0, (9, 0))), (((0, 480), 16), .inr (0, (9, 0)))], 0, 0, 64, [(0, .inr (3, (0, 480))), (1, .inr (0, (8, 0)))], [.inr (0, (0, 0)), .inr (3, (0, 480))]), [], [], [(0, 0), (0, 0), (0, 0), (0, 0), (0, 0), (0, 0), (0, 0), (0, 0), (8, 0), (0, 0)], 2)
noncomputable def rxoRL_1_2 : bx_HO := (([(0, 0), (0, 0), (0, 0), (0, 0), (0, 0), (0, 0), (0, 0), (0, 0), ((-1), (-1))], [], [], 0, 0, 64, [(0, .inr (3, (0, 480))), (1, .inr (0, (8, 0)))], [.inr (0, (0, 0)), .inr (3, (0, 480))]), [], [], [(0, 0), (0, 0), (0, 0), (0, 0), (0, 0), (0, 0), (0, 0), (0, 0), (8, 0), (0, 0)], 2)
noncomputable def rxoRL_3_0 : bx_HO := (([(0, 0), (0, 0), (0, 0), (0, 0), (0, 0), (0, 0), (0, 0), (0, 0), ((-1), 2), (0, 1), (0, 0), (0, 12)], [], [(((0, 0), 1851192626986356800635647638965429050492161446287407234697658368000000), .inr (0, (11, 0))), (((0, 480), 16), .inr (0, (11, 0))), (((0, 0), 1851192626986356800234234225391877833944518517379736727590010880000000), .inr (0, (10, 0))), (((0, 480), 14), .inr (0, (10, 0)))], 0, 0, 81, [(0, .inr (3, (0, 480))), (1, .inr (0, (8, 0)))], [.inr (0, (11, 0)), .inr (0, (0, 8))]), [(8, 0, 2), (11, 0, 11)], [], [(0, 0), (0, 0), (0, 0), (0, 0), (0, 0), (0, 0), (0, 0), (0, 0), (8, 0), (11, 0)], 4)
noncomputable def rxeRL_3_0 : rx_End × List (Nat × Int × Int) := (([(0, 0), (0, 0), (0, 0), (0, 0), (0, 0), (0, 0), (0, 0), (0, 0), ((-1), 2), (0, 1), (1, 1)], [(3, (10, 0), (0, 0))], [(((0, 0), 1851192626986356800234234225391877833944518517379736727590010880000000), .inr (0, (10, 0))), (((0, 480), 14), .inr (0, (10, 0)))], none), [])
noncomputable def rxoRL_4_0 : bx_HO := (([(0, 0), (0, 0), (0, 0), (0, 0), (0, 0), (0, 0), (0, 0), (0, 0), (0, 2), (0, 11), (0, 88)], [(12, (10, 0), (9, 0))], [], 0, 0, 85, [(3, .inr (0, (0, 0))), (2, .inr (0, (10, 0))), (0, .inr (3, (0, 480))), (1, .inr (0, (8, 0)))], []), [], [], [(0, 0), (0, 0), (0, 0), (0, 0), (0, 0), (0, 0), (0, 0), (0, 0), (8, 0), (10, 0), (0, 0)], 5)
noncomputable def rxoRL_5_0 : bx_HO := (([(0, 0), (0, 0), (0, 0), (0, 0), (0, 0), (0, 0), (0, 0), (0, 0), (0, 2), (0, 88), (0, 7), (0, 95)], [(604462909807314587353098000000, (11, 0), (9, 0))], [(((0, 480), 17), .inr (3, (0, 486)))], 0, 0, 99, [(0, .inr (3, (0, 480))), (1, .inr (0, (8, 0))), (2, .inr (0, (9, 0))), (3, .inr (0, (10, 0)))], [.inr (0, (0, 0)), .inr (0, (11, 0)), .inr (3, (0, 486))]), [], [], [(0, 0), (0, 0), (0, 0), (0, 0), (0, 0), (0, 0), (0, 0), (0, 0), (8, 0), (9, 0), (10, 0), (11, 0), (0, 0)], 6)
noncomputable def rxoRL_5_1 : bx_HO := (([(0, 0), (0, 0), (0, 0), (0, 0), (0, 0), (0, 0), (0, 0), (0, 0), (0, 2), (0, 88), (8, 8)], [], [(((0, 480), 17), .inr (3, (0, 486)))], 0, 0, 112, [(0, .inr (3, (0, 480))), (1, .inr (0, (8, 0))), (2, .inr (0, (9, 0))), (3, .inr (0, (10, 0)))], [.inr (0, (8, 0)), .inr (0, (9, 0)), .inr (3, (0, 486))]), [], [], [(0, 0), (0, 0), (0, 0), (0, 0), (0, 0), (0, 0), (0, 0), (0, 0), (8, 0), (9, 0), (9, 0), (8, 0)], 8)
noncomputable def rxoRL_7_0 : bx_HO := (([(0, 0), (0, 0), (0, 0), (0, 0), (0, 0), (0, 0), (0, 0), (0, 0), (0, 2), (0, 88), (0, 7), (0, 95), (0, 0)], [], [], 0, 0, 85, [(3, .inr (0, (10, 1))), (0, .inr (3, (0, 480))), (1, .inr (0, (8, 0))), (2, .inr (0, (9, 0)))], []), [], [], [(0, 0), (0, 0), (0, 0), (0, 0), (0, 0), (0, 0), (0, 0), (0, 0), (8, 0), (9, 0), (10, 1)], 5)
noncomputable def rxoRL_9_0 : bx_HO := (([(0, 0), (0, 0), (0, 0), (0, 0), (0, 0), (0, 0), (0, 0), (0, 0), (0, 2), (0, 88), (0, 88), (0, 2), (0, 12)], [], [(((0, 0), 1851192626986356800635647638965429050492161446287407234697658368000000), .inr (0, (12, 0))), (((0, 480), 16), .inr (0, (12, 0)))], 0, 0, 118, [(0, .inr (3, (0, 480))), (1, .inr (0, (8, 0))), (2, .inr (0, (9, 0)))], [.inr (0, (12, 0)), .inr (3, (0, 480))]), [(12, 0, 11)], [], [(0, 0), (0, 0), (0, 0), (0, 0), (0, 0), (0, 0), (0, 0), (0, 0), (8, 0), (9, 0), (12, 0)], 10)
noncomputable def rxoRL_10_0 : bx_HO := (([(0, 0), (0, 0), (0, 0), (0, 0), (0, 0), (0, 0), (0, 0), (0, 0), (0, 2), (0, 88), (0, 11), (0, 400)], [], [(((0, 0), 1851192626986356801037061052538980267039804375195077741805305856000000), .inr (0, (11, 0))), (((0, 480), 18), .inr (0, (11, 0))), (((0, 480), 17), .inr (3, (0, 486))), (((0, 0), 1851192626986356800635647638965429050492161446287407234697658371000000), .inr (0, (10, 1))), (((0, 480), 16), .inr (0, (10, 1)))], 0, 0, 134, [(0, .inr (3, (0, 480))), (1, .inr (0, (8, 0))), (2, .inr (0, (9, 0)))], [.inr (0, (11, 0)), .inr (0, (9, 3)), .inr (3, (0, 486))]), [], [], [(0, 0), (0, 0), (0, 0), (0, 0), (0, 0), (0, 0), (0, 0), (0, 0), (8, 0), (9, 0), (9, 3), (11, 0)], 11)
noncomputable def rxoRL_12_0 : bx_HO := (([(0, 0), (0, 0), (0, 0), (0, 0), (0, 0), (0, 0), (0, 0), (0, 0), (0, 1), (0, 88), (3, 91), (0, 400)], [(3, (8, 0), (0, 2))], [], 0, 0, 142, [(0, .inr (3, (0, 480))), (1, .inr (0, (8, 0))), (2, .inr (0, (9, 0)))], [.inr (0, (0, 0)), .inr (3, (0, 480))]), [], [], [(0, 0), (0, 0), (0, 0), (0, 0), (0, 0), (0, 0), (0, 0), (0, 0), (9, 0)], 13)
noncomputable def rxoRL_12_1 : bx_HO := (([(0, 0), (0, 0), (0, 0), (0, 0), (0, 0), (0, 0), (0, 0), (0, 0), (2, 2), (0, 88), (3, 91), (0, 400), (0, 400)], [], [(((0, 0), 1851192626986356801037061052538980267039804375195077741805305856000000), .inr (0, (12, 0))), (((0, 480), 18), .inr (0, (12, 0))), (((0, 480), 17), .inr (3, (0, 486)))], 0, 0, 156, [(0, .inr (3, (0, 480))), (1, .inr (0, (8, 0))), (2, .inr (0, (9, 0)))], [.inr (0, (12, 0)), .inr (0, (9, 4)), .inr (3, (0, 486))]), [], [], [(0, 0), (0, 0), (0, 0), (0, 0), (0, 0), (0, 0), (0, 0), (0, 0), (9, 0), (9, 4), (12, 0)], 15)
noncomputable def rxoRL_14_0 : bx_HO := (([(0, 0), (0, 0), (0, 0), (0, 0), (0, 0), (0, 0), (0, 0), (0, 0), (0, 88), (0, 400)], [], [(((0, 0), 1851192626986356801037061052538980267039804375195077741805305856000000), .inr (0, (9, 0))), (((0, 480), 18), .inr (0, (9, 0))), (((0, 480), 17), .inr (3, (0, 486)))], 0, 0, 156, [(0, .inr (3, (0, 480))), (2, .inr (0, (8, 0)))], [.inr (0, (9, 0)), .inr (0, (8, 4)), .inr (3, (0, 486))]), [], [], [(0, 0), (0, 0), (0, 0), (0, 0), (0, 0), (0, 0), (0, 0), (0, 0), (8, 0), (8, 4), (9, 0)], 15)
noncomputable def rxoRL_16_0 : bx_HO := (([(0, 0), (0, 0), (0, 0), (0, 0), (0, 0), (0, 0), (0, 0), (0, 0), (0, 88), (4, 92), (0, 400), (0, 400)], [], [(((0, 0), 1851192626986356801037061052538980267039804375195077741805305856000000), .inr (0, (11, 0))), (((0, 480), 18), .inr (0, (11, 0))), (((0, 480), 17), .inr (3, (0, 486)))], 0, 0, 168, [(0, .inr (3, (0, 480))), (2, .inr (0, (8, 0)))], [.inr (0, (11, 0)), .inr (0, (8, 5)), .inr (3, (0, 486))]), [], [], [(0, 0), (0, 0), (0, 0), (0, 0), (0, 0), (0, 0), (0, 0), (0, 0), (8, 0), (8, 5), (11, 0)], 17)
noncomputable def rxoRL_18_0 : bx_HO := (([(0, 0), (0, 0), (0, 0), (0, 0), (0, 0), (0, 0), (0, 0), (0, 0), (0, 88), (5, 93), (0, 400), (0, 0), (0, 3), (0, 400)], [(3, (12, 0), (0, 1))], [(((0, 0), 1851192626986356801037061052538980267039804375195077741805305856000000), .inr (0, (13, 0))), (((0, 480), 18), .inr (0, (13, 0))), (((0, 480), 17), .inr (3, (0, 486))), (((0, 0), 1851192626986356799632114105031551009123054124018230966928539648000000), .inr (0, (12, 0))), (((0, 480), 11), .inr (0, (12, 0))), (((0, 0), 1851192626986356800234234225391877833944518517379736727590010880000000), .inr (0, (11, 0))), (((0, 480), 14), .inr (0, (11, 0)))], 0, 0, 207, [(0, .inr (3, (0, 480))), (2, .inr (0, (8, 0)))], [.inr (0, (13, 0)), .inr (0, (8, 6)), .inr (3, (0, 486))]), [], [], [(0, 0), (0, 0), (0, 0), (0, 0), (0, 0), (0, 0), (0, 0), (0, 0), (8, 0), (8, 6), (13, 0)], 23)
noncomputable def rxoRL_18_1 : bx_HO := (([(0, 0), (0, 0), (0, 0), (0, 0), (0, 0), (0, 0), (0, 0), (0, 0), (0, 88), (5, 93), (0, 400), (0, 0), (1, 1), ((-9223372036854775808), 9223372036854775807), (0, 400)], [(3, (13, 0), (0, 294))], [(((0, 0), 1851192626986356801037061052538980267039804375195077741805305856000000), .inr (0, (14, 0))), (((0, 480), 18), .inr (0, (14, 0))), (((0, 480), 17), .inr (3, (0, 486))), (((0, 0), 1851192626986356799832820811818326617396875588472066220482363392000000), .inr (1, (13, 0))), (((0, 480), 12), .inr (1, (13, 0))), (((0, 0), 1851192626986356799632114105031551009123054124018230966928539648000000), .inr (0, (12, 0))), (((0, 480), 11), .inr (0, (12, 0))), (((0, 0), 1851192626986356800234234225391877833944518517379736727590010880000000), .inr (0, (11, 0))), (((0, 480), 14), .inr (0, (11, 0)))], 0, 0, 207, [(0, .inr (3, (0, 480))), (2, .inr (0, (8, 0)))], [.inr (0, (14, 0)), .inr (0, (8, 6)), .inr (3, (0, 486))]), [], [], [(0, 0), (0, 0), (0, 0), (0, 0), (0, 0), (0, 0), (0, 0), (0, 0), (8, 0), (8, 6), (14, 0)], 23)
noncomputable def rxoRL_18_2 : bx_HO := (([(0, 0), (0, 0), (0, 0), (0, 0), (0, 0), (0, 0), (0, 0), (0, 0), (0, 88), (5, 93), (0, 400), (0, 0), (1, 1), (294, 294)], [], [(((0, 0), 1851192626986356799832820811818326617396875588472066220482363392000000), .inr (1, (13, 0))), (((0, 480), 12), .inr (1, (13, 0))), (((0, 0), 1851192626986356799632114105031551009123054124018230966928539648000000), .inr (0, (12, 0))), (((0, 480), 11), .inr (0, (12, 0))), (((0, 0), 1851192626986356800234234225391877833944518517379736727590010880000000), .inr (0, (11, 0))), (((0, 480), 14), .inr (0, (11, 0)))], 0, 0, 187, [(0, .inr (3, (0, 480))), (2, .inr (0, (8, 0)))], [.inr (3, (0, 480))]), [], [], [(0, 0), (0, 0), (0, 0), (0, 0), (0, 0), (0, 0), (0, 0), (0, 0), (8, 0)], 19)
noncomputable def rxoRL_18_3 : bx_HO := (([(0, 0), (0, 0), (0, 0), (0, 0), (0, 0), (0, 0), (0, 0), (0, 0), (0, 88), (5, 93), (0, 400), (1, 1), (0, 400)], [(3, (11, 0), (0, 0))], [(((0, 0), 1851192626986356801037061052538980267039804375195077741805305856000000), .inr (0, (12, 0))), (((0, 480), 18), .inr (0, (12, 0))), (((0, 480), 17), .inr (3, (0, 486))), (((0, 0), 1851192626986356800234234225391877833944518517379736727590010880000000), .inr (0, (11, 0))), (((0, 480), 14), .inr (0, (11, 0)))], 0, 0, 207, [(0, .inr (3, (0, 480))), (2, .inr (0, (8, 0)))], [.inr (0, (12, 0)), .inr (0, (8, 6)), .inr (3, (0, 486))]), [], [], [(0, 0), (0, 0), (0, 0), (0, 0), (0, 0), (0, 0), (0, 0), (0, 0), (8, 0), (8, 6), (12, 0)], 23)
noncomputable def rxoRL_20_0 : bx_HO := (([(0, 0), (0, 0), (0, 0), (0, 0), (0, 0), (0, 0), (0, 0), (0, 0), (0, 88)], [], [], 0, 0, 192, [(0, .inr (3, (0, 480))), (2, .inr (0, (8, 0)))], [.inr (0, (0, 1)), .inr (3, (0, 480))]), [], [], [(0, 0), (0, 0), (0, 0), (0, 0), (0, 0), (0, 0), (0, 0), (0, 0), (8, 0)], 21)
noncomputable def rxoRL_22_0 : bx_HO := (([(0, 0), (0, 0), (0, 0), (0, 0), (0, 0), (0, 0), (0, 0), (0, 0), (0, 88), (0, 400)], [], [(((0, 0), 1851192626986356801037061052538980267039804375195077741805305856000000), .inr (0, (9, 0))), (((0, 480), 18), .inr (0, (9, 0))), (((0, 480), 17), .inr (3, (0, 486)))], 0, 0, 207, [(0, .inr (3, (0, 480))), (2, .inr (0, (8, 0)))], [.inr (0, (9, 0)), .inr (0, (8, 6)), .inr (3, (0, 486))]), [], [], [(0, 0), (0, 0), (0, 0), (0, 0), (0, 0), (0, 0), (0, 0), (0, 0), (8, 0), (8, 6), (9, 0)], 23)
noncomputable def rxeRL_24_0 : rx_End × List (Nat × Int × Int) := (([(0, 0), (0, 0), (0, 0), (0, 0), (0, 0), (0, 0), (0, 0), (0, 0), (0, 88), (6, 94), (0, 400)], [], [], none), [])
noncomputable def rxYRL : List bx_HE := [(rxzRL_0, [rxoRL_0_0, rxoRL_0_1, rxoRL_0_2, rxoRL_0_3, rxoRL_0_4], []), (rxzRL_1, [rxoRL_1_0, rxoRL_1_1, rxoRL_1_2], []), (rxzRL_2, [], []), (rxzRL_3, [rxoRL_3_0], [rxeRL_3_0]), (rxzRL_4, [rxoRL_4_0], []), (rxzRL_5, [rxoRL_5_0, rxoRL_5_1], []), (rxzRL_6, [], []), (rxzRL_7, [rxoRL_7_0], []), (rxzRL_8, [], []), (rxzRL_9, [rxoRL_9_0], []), (rxzRL_10, [rxoRL_10_0], []), (rxzRL_11, [], []), (rxzRL_12, [rxoRL_12_0, rxoRL_12_1], []), (rxzRL_13, [], []), (rxzRL_14, [rxoRL_14_0], []), (rxzRL_15, [], []), (rxzRL_16, [rxoRL_16_0], []), (rxzRL_17, [], []), (rxzRL_18, [rxoRL_18_0, rxoRL_18_1, rxoRL_18_2, rxoRL_18_3], []), (rxzRL_19, [], []), (rxzRL_20, [rxoRL_20_0], []), (rxzRL_21, [], []), (rxzRL_22, [rxoRL_22_0], []), (rxzRL_23, [], []), (rxzRL_24, [], [rxeRL_24_0])]
noncomputable def rxURL (q : bx_HE) : Bool := Nat.beq (rx_zpc q.1) 64 || Nat.beq (rx_zpc q.1) 99 || Nat.beq (rx_zpc q.1) 112 || Nat.beq (rx_zpc q.1) 134 || Nat.beq (rx_zpc q.1) 142 || Nat.beq (rx_zpc q.1) 156 || Nat.beq (rx_zpc q.1) 168 || Nat.beq (rx_zpc q.1) 187 || Nat.beq (rx_zpc q.1) 192 || Nat.beq (rx_zpc q.1) 207
noncomputable def rxYBRL : bx_B := (rxV, rxNP, rxDmf, bx_mdH rxCRL.2.2.1)
set_option maxRecDepth 100000 in
theorem rxYcRL : bx_chkH rxYBRL rxM284 rxCRL rxYRL (rxURL, fun cut z => rx_ex2 (rxCT rxYBRL rxCnE) cut 30000 rxCRL.2.2.2.1 284 z) = true := by decide +kernel
noncomputable def rxIRL (S0 : Nat → Int → Int) (ws : List Int) (i : Nat) : bx_SP := fun S r => match i with | 0 => rxIRL_0 S0 ws S | 1 => rxIRL_1 S0 ws S (r 8) | 2 => rxIRL_2 S0 ws S (r 8) (r 9) | 3 => rxIRL_3 S0 ws S (r 8) (r 9) | 4 => rxIRL_4 S0 ws S (r 8) (r 9) | 5 => rxIRL_5 S0 ws S (r 8) (r 9) (r 10) | 6 => rxIRL_6 S0 ws S (r 8) (r 9) (r 10) (r 11) (r 12) | 7 => rxIRL_7 S0 ws S (r 8) (r 9) (r 10) (r 11) (r 12) | 8 => rxIRL_8 S0 ws S (r 8) (r 9) (r 10) (r 11) | 9 => rxIRL_9 S0 ws S (r 8) (r 9) (r 10) (r 11) | 10 => rxIRL_10 S0 ws S (r 8) (r 9) (r 10) | 11 => rxIRL_11 S0 ws S (r 8) (r 9) (r 10) (r 11) | 12 => rxIRL_12 S0 ws S (r 8) (r 9) (r 10) (r 11) | 13 => rxIRL_13 S0 ws S (r 8) | 14 => rxIRL_14 S0 ws S (r 8) | 15 => rxIRL_15 S0 ws S (r 8) (r 9) (r 10) | 16 => rxIRL_16 S0 ws S (r 8) (r 9) (r 10) | 17 => rxIRL_17 S0 ws S (r 8) (r 9) (r 10) | 18 => rxIRL_18 S0 ws S (r 8) (r 9) (r 10) | 19 => rxIRL_19 S0 ws S (r 8) | 20 => rxIRL_20 S0 ws S (r 8) | 21 => rxIRL_21 S0 ws S (r 8) | 22 => rxIRL_22 S0 ws S (r 8) | 23 => rxIRL_23 S0 ws S (r 8) (r 9) (r 10) | 24 => rxIRL_24 S0 ws S (r 8) (r 9) (r 10) | _ => False
noncomputable def rxmRL (S0 : Nat → Int → Int) (ws : List Int) (i : Nat) (S : Nat → Int → Int) (r : Nat → Int) : Nat := match i with | 0 => rxmRL_0 S0 ws S | 1 => rxmRL_1 S0 ws S (r 8) | 2 => rxmRL_2 S0 ws S (r 8) (r 9) | 3 => rxmRL_3 S0 ws S (r 8) (r 9) | 4 => rxmRL_4 S0 ws S (r 8) (r 9) | 5 => rxmRL_5 S0 ws S (r 8) (r 9) (r 10) | 6 => rxmRL_6 S0 ws S (r 8) (r 9) (r 10) (r 11) (r 12) | 7 => rxmRL_7 S0 ws S (r 8) (r 9) (r 10) (r 11) (r 12) | 8 => rxmRL_8 S0 ws S (r 8) (r 9) (r 10) (r 11) | 9 => rxmRL_9 S0 ws S (r 8) (r 9) (r 10) (r 11) | 10 => rxmRL_10 S0 ws S (r 8) (r 9) (r 10) | 11 => rxmRL_11 S0 ws S (r 8) (r 9) (r 10) (r 11) | 12 => rxmRL_12 S0 ws S (r 8) (r 9) (r 10) (r 11) | 13 => rxmRL_13 S0 ws S (r 8) | 14 => rxmRL_14 S0 ws S (r 8) | 15 => rxmRL_15 S0 ws S (r 8) (r 9) (r 10) | 16 => rxmRL_16 S0 ws S (r 8) (r 9) (r 10) | 17 => rxmRL_17 S0 ws S (r 8) (r 9) (r 10) | 18 => rxmRL_18 S0 ws S (r 8) (r 9) (r 10) | 19 => rxmRL_19 S0 ws S (r 8) | 20 => rxmRL_20 S0 ws S (r 8) | 21 => rxmRL_21 S0 ws S (r 8) | 22 => rxmRL_22 S0 ws S (r 8) | 23 => rxmRL_23 S0 ws S (r 8) (r 9) (r 10) | 24 => rxmRL_24 S0 ws S (r 8) (r 9) (r 10) | _ => 0
noncomputable def rxPRL (S0 : Nat → Int → Int) (ws : List Int) : Prop := rxLi S0 ∧ S0 480 14 = 0 ∧ 0 ≤ S0 480 18
noncomputable def rxPSRL (S0 : Nat → Int → Int) (ws : List Int) (S : Nat → Int → Int) (w : Option Int) : Prop := w = none ∧ rxLi S ∧ (S 480 14 = 0 → S 480 16 = S0 480 16 + 1)
theorem rxkRL_2 {S0 : Nat → Int → Int} {ws : List Int} {S : Nat → Int → Int} {which is : Int} (hP : rxPRL S0 ws) (hin : bx_same rxL (bx_mdl rxCRL.2.2.1) S0 S) (I0 : bx_Inv rxL S) (hinv : rxIRL_2 S0 ws S which is) (l8 : (-1) ≤ which) (u8 : which ≤ 2) (l9 : 0 ≤ is) (u9 : is ≤ 1) : rxPMU S [480, is] ∧ ∀ (S_p : Nat → Int → Int), rxPSMU S [480, is] S_p none → bx_Inv rxL S_p → bx_same rxL (bx_mdl rxCMU.2.2.1) S S_p → rxIRL_3 S0 ws S_p which is ∧ rxmRL_3 S0 ws S_p which is < rxmRL_2 S0 ws S which is := by
  obtain ⟨rfl, h1⟩ := hinv
  obtain ⟨p1, p2, p3⟩ := hP
  have t1 := p1.1.2.1
  refine ⟨p1.1, fun S_p hq I1 hsm => ?_⟩
  obtain ⟨-, q1, is_p, hw2, hc⟩ := hq
  have he : is = is_p := Option.some.inj (congrArg (fun l => l[1]?) hw2)
  have h16 : S_p 480 16 = S 480 16 := rx_sameO hsm (p := 480) (j := 16) rfl (by omega) (by decide +kernel) (by decide)
  have h486 : ∀ j : Int, 0 ≤ j → j < 96 → S_p 486 j = S 486 j := fun j j0 j1 => rx_sameR hsm (p := 486) (tc := 0) (n := 96) (g := 67) rfl (by omega) (by decide +kernel) (by decide +kernel) j0 (by omega)
  have b14 := rxBox14 I1
  refine ⟨⟨q1, rxSm_of hsm (by decide +kernel), by omega, h16, h486, fun q => ?_⟩, by unfold rxmRL_2 rxmRL_3; omega⟩
  have := h1 (by omega)
  omega
theorem rxsRL_2 {X : (Nat → Int → Int) → Prop} {S0 : Nat → Int → Int} {ws : List Int} (hP : rxPRL S0 ws) : rx_obK X S0 rxCRL.2.2.1 rxCMU.2.2.1 (rxIRL S0 ws) (rxmRL S0 ws) 2 3 rxzRL_2 rxzRL_3 [.inr (3, (0, 480)), .inr (0, (9, 0))] none rxPMU rxPSMU := by
  intro S r hinv hXS I0 hin hs_ hf_
  have b_ := bx_bds_sat hs_
  have f_ := bx_fcl_ok hs_.1 hf_
  obtain ⟨⟨l8, u8⟩, ⟨l9, u9⟩, -⟩ := b_
  have g := rxkRL_2 hP hin I0 hinv l8 u8 l9 u9
  have ea : List.map (bx_num r) [.inr (3, (0, 480)), .inr (0, (9, 0))] = [480, (r 9)] := by
    simp only [List.map_cons, List.map_nil, bx_xv_ok hs_.1]
    rfl
  rw [ea]
  refine ⟨g.1, fun S_p w r_p hPS hX_p I1 hsm hr hw hs_p => ?_⟩
  have hw : w = none := hPS.1
  subst hw
  have g2 := g.2 S_p hPS I1 hsm
  show rxIRL_3 S0 ws S_p (r_p 8) (r_p 9) ∧ rxmRL_3 S0 ws S_p (r_p 8) (r_p 9) < _
  rw [hr 8 (by decide), hr 9 (by decide)]
  exact g2
theorem rxtRL_6 {S0 : Nat → Int → Int} {ws : List Int} {S : Nat → Int → Int} {which base i a zz : Int} (hP : rxPRL S0 ws) (hin : bx_same rxL (bx_mdl rxCRL.2.2.1) S0 S) (I0 : bx_Inv rxL S) (hinv : rxIRL_6 S0 ws S which base i a zz) (l8 : 0 ≤ which) (u8 : which ≤ 2) (l9 : 0 ≤ base) (u9 : base ≤ 88) (l10 : 0 ≤ i) (u10 : i ≤ 7) (l11 : 0 ≤ a) (u11 : a ≤ 95) (l12 : 0 ≤ zz) (u12 : zz ≤ 0) : bx_okT rxL (rxL.2.2.1 486 a) zz ∧ rxIRL_7 S0 ws (bx_up S 486 a zz) which base i a zz ∧ rxmRL_7 S0 ws (bx_up S 486 a zz) which base i a zz < rxmRL_6 S0 ws S which base i a zz := by
  obtain ⟨h, rfl⟩ := hinv
  have hz : zz = 0 := by omega
  subst hz
  exact ⟨rxD0 I0 (by omega) (by omega), rxMq_st h (by omega), by unfold rxmRL_6 rxmRL_7; omega⟩
theorem rxsRL_6 {X : (Nat → Int → Int) → Prop} {S0 : Nat → Int → Int} {ws : List Int} (hP : rxPRL S0 ws) (hX : ∀ S S1 : Nat → Int → Int, X S → bx_same rxL (bx_mdl rxCRL.2.2.1) S S1 → X S1) : rx_obS X S0 rxCRL.2.2.1 (rxIRL S0 ws) (rxmRL S0 ws) 6 7 rxzRL_6 486 11 12 := by
  intro S r hinv hXS I0 hin hs_ hf_
  have b_ := bx_bds_sat hs_
  have f_ := bx_fcl_ok hs_.1 hf_
  obtain ⟨⟨l8, u8⟩, ⟨l9, u9⟩, ⟨l10, u10⟩, ⟨l11, u11⟩, ⟨l12, u12⟩, -⟩ := b_
  have g := rxtRL_6 hP hin I0 hinv l8 u8 l9 u9 l10 u10 l11 u11 l12 u12
  exact ⟨g.1, g.2.1, g.2.2, hX _ _ hXS (rx_same_upR (fun _ _ _ _ _ => rfl) (tc := 0) (n := 96) (g := 67) rfl (by decide +kernel) l11 u11), rx_same_upR hin (tc := 0) (n := 96) (g := 67) rfl (by decide +kernel) l11 u11⟩
theorem rxtRL_8 {S0 : Nat → Int → Int} {ws : List Int} {S : Nat → Int → Int} {which base a v : Int} (hP : rxPRL S0 ws) (hin : bx_same rxL (bx_mdl rxCRL.2.2.1) S0 S) (I0 : bx_Inv rxL S) (hinv : rxIRL_8 S0 ws S which base a v) (l8 : 0 ≤ which) (u8 : which ≤ 2) (l9 : 0 ≤ base) (u9 : base ≤ 88) (l10 : 0 ≤ a) (u10 : a ≤ 88) (l11 : 0 ≤ v) (u11 : v ≤ 2) : bx_okT rxL (rxL.2.2.1 486 a) v ∧ rxIRL_9 S0 ws (bx_up S 486 a v) which base a v ∧ rxmRL_9 S0 ws (bx_up S 486 a v) which base a v < rxmRL_8 S0 ws S which base a v := by
  obtain ⟨h, rfl⟩ := hinv
  have e := h.2.2.2.2.2.1
  have hb := rxBox16 I0
  have e2 := h.2.2.2.2.1
  refine ⟨?_, rxMq_st h (by omega), by unfold rxmRL_8 rxmRL_9; omega⟩
  rw [rxT486, bx_dW_ok rxDc2 (by omega) (by omega) (by omega)]
  exact ⟨l11, u11⟩
theorem rxsRL_8 {X : (Nat → Int → Int) → Prop} {S0 : Nat → Int → Int} {ws : List Int} (hP : rxPRL S0 ws) (hX : ∀ S S1 : Nat → Int → Int, X S → bx_same rxL (bx_mdl rxCRL.2.2.1) S S1 → X S1) : rx_obS X S0 rxCRL.2.2.1 (rxIRL S0 ws) (rxmRL S0 ws) 8 9 rxzRL_8 486 10 11 := by
  intro S r hinv hXS I0 hin hs_ hf_
  have b_ := bx_bds_sat hs_
  have f_ := bx_fcl_ok hs_.1 hf_
  obtain ⟨⟨l8, u8⟩, ⟨l9, u9⟩, ⟨l10, u10⟩, ⟨l11, u11⟩, -⟩ := b_
  have g := rxtRL_8 hP hin I0 hinv l8 u8 l9 u9 l10 u10 l11 u11
  exact ⟨g.1, g.2.1, g.2.2, hX _ _ hXS (rx_same_upR (fun _ _ _ _ _ => rfl) (tc := 0) (n := 96) (g := 67) rfl (by decide +kernel) l10 u10), rx_same_upR hin (tc := 0) (n := 96) (g := 67) rfl (by decide +kernel) l10 u10⟩
theorem rxtRL_11 {S0 : Nat → Int → Int} {ws : List Int} {S : Nat → Int → Int} {which base a v : Int} (hP : rxPRL S0 ws) (hin : bx_same rxL (bx_mdl rxCRL.2.2.1) S0 S) (I0 : bx_Inv rxL S) (hinv : rxIRL_11 S0 ws S which base a v) (l8 : 0 ≤ which) (u8 : which ≤ 2) (l9 : 0 ≤ base) (u9 : base ≤ 88) (l10 : 3 ≤ a) (u10 : a ≤ 91) (l11 : 0 ≤ v) (u11 : v ≤ 400) : bx_okT rxL (rxL.2.2.1 486 a) v ∧ rxIRL_12 S0 ws (bx_up S 486 a v) which base a v ∧ rxmRL_12 S0 ws (bx_up S 486 a v) which base a v < rxmRL_11 S0 ws S which base a v := by
  obtain ⟨rfl, rfl, S1, ⟨h1, h2, h3, h4, h5, h6, h7, h8⟩, rfl⟩ := hinv
  have b16 := rxBox16 I0
  rw [show bx_up S1 480 16 (S1 480 16 + 1) 480 16 = S1 480 16 + 1 by simp [bx_up]] at b16
  have e18 : bx_up (bx_up S1 480 16 (S1 480 16 + 1)) 486 (base + 3) (S0 480 18) 480 18 = S1 480 18 := by simp [bx_up]
  have e14 : bx_up (bx_up S1 480 16 (S1 480 16 + 1)) 486 (base + 3) (S0 480 18) 480 14 = S1 480 14 := by simp [bx_up]
  have e9 : bx_up (bx_up S1 480 16 (S1 480 16 + 1)) 486 (base + 3) (S0 480 18) 480 9 = S1 480 9 := by simp [bx_up]
  have k18 := h2.1
  have hL := (hP.1.2 hP.2.1).1
  have p0 := hP.2.2
  refine ⟨?_, ⟨⟨?_, ?_, h6, (by omega), h7, fun j j0 j1 => ?_, bx_up_at, fun q => ⟨by omega, by omega, fun k k0 k1 => ?_, ?_⟩⟩, by omega, by omega⟩, by unfold rxmRL_11 rxmRL_12; omega⟩
  · rw [h6]
    exact rxDc (by omega) h7 (by decide) l11 u11
  · unfold rxTk at h1 ⊢
    simp [bx_up]
    omega
  · simp [bx_up]
    omega
  · rw [← h8 j j0 j1, bx_up_ne (by omega), bx_up_row (by omega)]
  · have g := h2.2.2.2 k k0 (by omega)
    rw [← g.1, ← g.2.1]
    exact ⟨by simp [bx_up], by simp [bx_up]⟩
  · rw [e18, k18]
    exact rxSeg_nil
theorem rxsRL_11 {X : (Nat → Int → Int) → Prop} {S0 : Nat → Int → Int} {ws : List Int} (hP : rxPRL S0 ws) (hX : ∀ S S1 : Nat → Int → Int, X S → bx_same rxL (bx_mdl rxCRL.2.2.1) S S1 → X S1) : rx_obS X S0 rxCRL.2.2.1 (rxIRL S0 ws) (rxmRL S0 ws) 11 12 rxzRL_11 486 10 11 := by
  intro S r hinv hXS I0 hin hs_ hf_
  have b_ := bx_bds_sat hs_
  have f_ := bx_fcl_ok hs_.1 hf_
  obtain ⟨⟨l8, u8⟩, ⟨l9, u9⟩, ⟨l10, u10⟩, ⟨l11, u11⟩, -⟩ := b_
  have g := rxtRL_11 hP hin I0 hinv l8 u8 l9 u9 l10 u10 l11 u11
  exact ⟨g.1, g.2.1, g.2.2, hX _ _ hXS (rx_same_upR (fun _ _ _ _ _ => rfl) (tc := 0) (n := 96) (g := 67) rfl (by decide +kernel) l10 u10), rx_same_upR hin (tc := 0) (n := 96) (g := 67) rfl (by decide +kernel) l10 u10⟩
theorem rxkRL_13 {S0 : Nat → Int → Int} {ws : List Int} {S : Nat → Int → Int} {base : Int} (hP : rxPRL S0 ws) (hin : bx_same rxL (bx_mdl rxCRL.2.2.1) S0 S) (I0 : bx_Inv rxL S) (hinv : rxIRL_13 S0 ws S base) (l8 : 0 ≤ base) (u8 : base ≤ 88) : rxPRE S [480, 0] ∧ ∀ (S_p : Nat → Int → Int), rxPSRE S [480, 0] S_p none → bx_Inv rxL S_p → bx_same rxL (bx_mdl rxCRE.2.2.1) S S_p → rxIRL_14 S0 ws S_p base ∧ rxmRL_14 S0 ws S_p base < rxmRL_13 S0 ws S base := by
  obtain ⟨⟨y1, y2, y3, y4, y5, y6, y7, y10⟩, h18, h14⟩ := hinv
  obtain ⟨z1, z2, z3, z4⟩ := y10 h14
  have b18 := rxBox18 I0
  refine ⟨⟨y1, z2, h14, b18.1⟩, fun S_p hq I1 hsm => ?_⟩
  obtain ⟨-, q1, q2⟩ := hq
  have h16 : S_p 480 16 = S 480 16 := rx_sameO hsm (p := 480) (j := 16) rfl (by omega) (by decide +kernel) (by decide)
  have h486 : ∀ j : Int, 0 ≤ j → j < 96 → S_p 486 j = S 486 j := fun j j0 j1 => rx_sameR hsm (p := 486) (tc := 0) (n := 96) (g := 67) rfl (by omega) (by decide +kernel) (by decide +kernel) j0 (by omega)
  refine ⟨⟨q1, by omega, y3, y4, y5, fun j j0 j1 => (h486 j j0 (by omega)).trans (y6 j j0 j1), (h486 _ (by omega) (by omega)).trans y7, fun q => ?_⟩, by unfold rxmRL_13 rxmRL_14; omega⟩
  obtain ⟨r1, r2, r3, r4⟩ := q2 q
  rw [h18] at r1 r2 r3
  exact ⟨r3, r4, rxKp_tr z3 r2 (Int.le_refl _), r1⟩
theorem rxsRL_13 {X : (Nat → Int → Int) → Prop} {S0 : Nat → Int → Int} {ws : List Int} (hP : rxPRL S0 ws) : rx_obK X S0 rxCRL.2.2.1 rxCRE.2.2.1 (rxIRL S0 ws) (rxmRL S0 ws) 13 14 rxzRL_13 rxzRL_14 [.inr (3, (0, 480)), .inr (0, (0, 0))] none rxPRE rxPSRE := by
  intro S r hinv hXS I0 hin hs_ hf_
  have b_ := bx_bds_sat hs_
  have f_ := bx_fcl_ok hs_.1 hf_
  obtain ⟨⟨l8, u8⟩, -⟩ := b_
  have g := rxkRL_13 hP hin I0 hinv l8 u8
  have ea : List.map (bx_num r) [.inr (3, (0, 480)), .inr (0, (0, 0))] = [480, 0] := by
    simp only [List.map_cons, List.map_nil, bx_xv_ok hs_.1]
    rfl
  rw [ea]
  refine ⟨g.1, fun S_p w r_p hPS hX_p I1 hsm hr hw hs_p => ?_⟩
  have hw : w = none := hPS.1
  subst hw
  have g2 := g.2 S_p hPS I1 hsm
  show rxIRL_14 S0 ws S_p (r_p 8) ∧ rxmRL_14 S0 ws S_p (r_p 8) < _
  rw [hr 8 (by decide)]
  exact g2
theorem rxtRL_15 {S0 : Nat → Int → Int} {ws : List Int} {S : Nat → Int → Int} {base a v : Int} (hP : rxPRL S0 ws) (hin : bx_same rxL (bx_mdl rxCRL.2.2.1) S0 S) (I0 : bx_Inv rxL S) (hinv : rxIRL_15 S0 ws S base a v) (l8 : 0 ≤ base) (u8 : base ≤ 88) (l9 : 4 ≤ a) (u9 : a ≤ 92) (l10 : 0 ≤ v) (u10 : v ≤ 400) : bx_okT rxL (rxL.2.2.1 486 a) v ∧ rxIRL_16 S0 ws (bx_up S 486 a v) base a v ∧ rxmRL_16 S0 ws (bx_up S 486 a v) base a v < rxmRL_15 S0 ws S base a v := by
  obtain ⟨⟨y1, y2, y3, y4, y5, y6, y7, y10⟩, rfl, rfl⟩ := hinv
  refine ⟨?_, ⟨⟨?_, by rw [bx_up_row (by omega)]; exact y2, y3, y4, y5, fun j j0 j1 => by rw [bx_up_ne (by omega)]; exact y6 j j0 j1, by rw [bx_up_ne (by omega)]; exact y7, ?_⟩, ?_⟩, by unfold rxmRL_15 rxmRL_16; omega⟩
  · rw [y3]
    exact rxDc y4 y5 (by decide) l10 u10
  · unfold rxTk at y1 ⊢
    simp [bx_up]
    omega
  · intro q
    rw [bx_up_row (by omega)] at q
    obtain ⟨z1, z2, z3, z4⟩ := y10 q
    refine ⟨by rw [bx_up_row (by omega)]; exact z1, by rw [bx_up_row (by omega)]; exact z2, fun k k0 k1 => by rw [bx_up_row (by omega), bx_up_row (by omega)]; exact z3 k k0 k1, ?_⟩
    rw [bx_up_row (p_p := 480) (by omega)]
    exact rxSeg_cg z4 fun k k0 k1 => ⟨by rw [bx_up_row (by omega)], by rw [bx_up_row (by omega)]⟩
  · rw [bx_up_at, bx_up_row (by omega)]
theorem rxsRL_15 {X : (Nat → Int → Int) → Prop} {S0 : Nat → Int → Int} {ws : List Int} (hP : rxPRL S0 ws) (hX : ∀ S S1 : Nat → Int → Int, X S → bx_same rxL (bx_mdl rxCRL.2.2.1) S S1 → X S1) : rx_obS X S0 rxCRL.2.2.1 (rxIRL S0 ws) (rxmRL S0 ws) 15 16 rxzRL_15 486 9 10 := by
  intro S r hinv hXS I0 hin hs_ hf_
  have b_ := bx_bds_sat hs_
  have f_ := bx_fcl_ok hs_.1 hf_
  obtain ⟨⟨l8, u8⟩, ⟨l9, u9⟩, ⟨l10, u10⟩, -⟩ := b_
  have g := rxtRL_15 hP hin I0 hinv l8 u8 l9 u9 l10 u10
  exact ⟨g.1, g.2.1, g.2.2, hX _ _ hXS (rx_same_upR (fun _ _ _ _ _ => rfl) (tc := 0) (n := 96) (g := 67) rfl (by decide +kernel) l9 u9), rx_same_upR hin (tc := 0) (n := 96) (g := 67) rfl (by decide +kernel) l9 u9⟩
theorem rxtRL_17 {S0 : Nat → Int → Int} {ws : List Int} {S : Nat → Int → Int} {base a v : Int} (hP : rxPRL S0 ws) (hin : bx_same rxL (bx_mdl rxCRL.2.2.1) S0 S) (I0 : bx_Inv rxL S) (hinv : rxIRL_17 S0 ws S base a v) (l8 : 0 ≤ base) (u8 : base ≤ 88) (l9 : 5 ≤ a) (u9 : a ≤ 93) (l10 : 0 ≤ v) (u10 : v ≤ 400) : bx_okT rxL (rxL.2.2.1 486 a) v ∧ rxIRL_18 S0 ws (bx_up S 486 a v) base a v ∧ rxmRL_18 S0 ws (bx_up S 486 a v) base a v < rxmRL_17 S0 ws S base a v := by
  obtain ⟨⟨y1, y2, y3, y4, y5, y6, y7, y10⟩, y8, rfl, rfl⟩ := hinv
  refine ⟨?_, ⟨S 480 18, ⟨?_, by rw [bx_up_row (by omega)]; exact y2, y3, y4, y5, fun j j0 j1 => by rw [bx_up_ne (by omega)]; exact y6 j j0 j1, by rw [bx_up_ne (by omega)]; exact y7, by rw [bx_up_ne (by omega)]; exact y8, bx_up_at, ?_⟩, ?_⟩, by unfold rxmRL_17 rxmRL_18; omega⟩
  · rw [y3]
    exact rxDc y4 y5 (by decide) l10 u10
  · unfold rxTk at y1 ⊢
    simp [bx_up]
    omega
  · intro q
    rw [bx_up_row (by omega)] at q
    obtain ⟨z1, z2, z3, z4⟩ := y10 q
    have e18 : bx_up S 486 (base + 5) (S 480 18) 480 18 = S 480 18 := by rw [bx_up_row (by omega)]
    have e9 : bx_up S 486 (base + 5) (S 480 18) 480 9 = S 480 9 := by rw [bx_up_row (by omega)]
    rw [e18, e9]
    exact ⟨z1, Int.le_refl _, z2, fun k k0 k1 => by rw [bx_up_row (by omega), bx_up_row (by omega)]; exact z3 k k0 k1, rxSeg_cg z4 fun k k0 k1 => ⟨by rw [bx_up_row (by omega)], by rw [bx_up_row (by omega)]⟩, rxSeg_nil⟩
  · rw [bx_up_row (by omega)]
theorem rxsRL_17 {X : (Nat → Int → Int) → Prop} {S0 : Nat → Int → Int} {ws : List Int} (hP : rxPRL S0 ws) (hX : ∀ S S1 : Nat → Int → Int, X S → bx_same rxL (bx_mdl rxCRL.2.2.1) S S1 → X S1) : rx_obS X S0 rxCRL.2.2.1 (rxIRL S0 ws) (rxmRL S0 ws) 17 18 rxzRL_17 486 9 10 := by
  intro S r hinv hXS I0 hin hs_ hf_
  have b_ := bx_bds_sat hs_
  have f_ := bx_fcl_ok hs_.1 hf_
  obtain ⟨⟨l8, u8⟩, ⟨l9, u9⟩, ⟨l10, u10⟩, -⟩ := b_
  have g := rxtRL_17 hP hin I0 hinv l8 u8 l9 u9 l10 u10
  exact ⟨g.1, g.2.1, g.2.2, hX _ _ hXS (rx_same_upR (fun _ _ _ _ _ => rfl) (tc := 0) (n := 96) (g := 67) rfl (by decide +kernel) l9 u9), rx_same_upR hin (tc := 0) (n := 96) (g := 67) rfl (by decide +kernel) l9 u9⟩
theorem rxkRL_19 {S0 : Nat → Int → Int} {ws : List Int} {S : Nat → Int → Int} {base : Int} (hP : rxPRL S0 ws) (hin : bx_same rxL (bx_mdl rxCRL.2.2.1) S0 S) (I0 : bx_Inv rxL S) (hinv : rxIRL_19 S0 ws S base) (l8 : 0 ≤ base) (u8 : base ≤ 88) : rxPNX S [480] ∧ ∀ (S_p : Nat → Int → Int), rxPSNX S [480] S_p none → bx_Inv rxL S_p → bx_same rxL (bx_mdl rxCNX.2.2.1) S S_p → rxIRL_20 S0 ws S_p base ∧ rxmRL_20 S0 ws S_p base < rxmRL_19 S0 ws S base := by
  obtain ⟨h14, m, ⟨y1, y2, y3, y4, y5, y6, y7, y8, y9, y10⟩, hm⟩ := hinv
  have b18 := rxBox18 I0
  have t1 := y1.2.1
  refine ⟨y1.2.2.1, fun S_p hq I1 hsm => ?_⟩
  obtain ⟨-, q1, q2⟩ := hq
  have h16 : S_p 480 16 = S 480 16 := rx_sameO hsm (p := 480) (j := 16) rfl (by omega) (by decide +kernel) (by decide)
  have h14_p : S_p 480 14 = S 480 14 := rx_sameO hsm (p := 480) (j := 14) rfl (by omega) (by decide +kernel) (by decide)
  have h486 : ∀ j : Int, 0 ≤ j → j < 96 → S_p 486 j = S 486 j := fun j j0 j1 => rx_sameR hsm (p := 486) (tc := 0) (n := 96) (g := 67) rfl (by omega) (by decide +kernel) (by decide +kernel) j0 (by omega)
  have hs := rxSm_of hsm (by decide +kernel)
  have k18 := hs.1
  refine ⟨⟨by omega, m, ⟨q1, by omega, y3, y4, y5, fun j j0 j1 => (h486 j j0 (by omega)).trans (y6 j j0 j1), (h486 _ (by omega) (by omega)).trans y7, (h486 _ (by omega) (by omega)).trans y8, (h486 _ (by omega) (by omega)).trans y9, fun q => ?_⟩, by omega⟩, by unfold rxmRL_19 rxmRL_20; omega⟩
  obtain ⟨z1, z2, z3, z4, z5, z6⟩ := y10 h14
  have hc : ∀ k : Int, S0 480 18 ≤ k → k < m → S_p 487 k = S 487 k ∧ S_p 488 k = S 488 k := fun k k0 k1 => ⟨(hs.2.2.2 k (by have := hP.2.2; omega) (by omega)).1, (hs.2.2.2 k (by have := hP.2.2; omega) (by omega)).2.1⟩
  refine ⟨z1, by omega, by omega, rxKp_tr z4 (rxKp_sm hs (a := S0 480 18) (by omega)) (Int.le_refl _), rxSeg_cg z5 hc, ?_⟩
  rw [k18, ← hm]
  exact rxSeg_nil
theorem rxsRL_19 {X : (Nat → Int → Int) → Prop} {S0 : Nat → Int → Int} {ws : List Int} (hP : rxPRL S0 ws) : rx_obK X S0 rxCRL.2.2.1 rxCNX.2.2.1 (rxIRL S0 ws) (rxmRL S0 ws) 19 20 rxzRL_19 rxzRL_20 [.inr (3, (0, 480))] none rxPNX rxPSNX := by
  intro S r hinv hXS I0 hin hs_ hf_
  have b_ := bx_bds_sat hs_
  have f_ := bx_fcl_ok hs_.1 hf_
  obtain ⟨⟨l8, u8⟩, -⟩ := b_
  have g := rxkRL_19 hP hin I0 hinv l8 u8
  have ea : List.map (bx_num r) [.inr (3, (0, 480))] = [480] := by
    simp only [List.map_cons, List.map_nil, bx_xv_ok hs_.1]
    rfl
  rw [ea]
  refine ⟨g.1, fun S_p w r_p hPS hX_p I1 hsm hr hw hs_p => ?_⟩
  have hw : w = none := hPS.1
  subst hw
  have g2 := g.2 S_p hPS I1 hsm
  show rxIRL_20 S0 ws S_p (r_p 8) ∧ rxmRL_20 S0 ws S_p (r_p 8) < _
  rw [hr 8 (by decide)]
  exact g2
theorem rxkRL_21 {S0 : Nat → Int → Int} {ws : List Int} {S : Nat → Int → Int} {base : Int} (hP : rxPRL S0 ws) (hin : bx_same rxL (bx_mdl rxCRL.2.2.1) S0 S) (I0 : bx_Inv rxL S) (hinv : rxIRL_21 S0 ws S base) (l8 : 0 ≤ base) (u8 : base ≤ 88) : rxPRE S [480, 1] ∧ ∀ (S_p : Nat → Int → Int), rxPSRE S [480, 1] S_p none → bx_Inv rxL S_p → bx_same rxL (bx_mdl rxCRE.2.2.1) S S_p → rxIRL_22 S0 ws S_p base ∧ rxmRL_22 S0 ws S_p base < rxmRL_21 S0 ws S base := by
  obtain ⟨h14, m, ⟨y1, y2, y3, y4, y5, y6, y7, y8, y9, y10⟩, hm⟩ := hinv
  have b18 := rxBox18 I0
  obtain ⟨z1, z2, z3, z4, z5, z6⟩ := y10 h14
  refine ⟨⟨y1, z3, h14, b18.1⟩, fun S_p hq I1 hsm => ?_⟩
  obtain ⟨-, q1, q2⟩ := hq
  have h16 : S_p 480 16 = S 480 16 := rx_sameO hsm (p := 480) (j := 16) rfl (by omega) (by decide +kernel) (by decide)
  have h486 : ∀ j : Int, 0 ≤ j → j < 96 → S_p 486 j = S 486 j := fun j j0 j1 => rx_sameR hsm (p := 486) (tc := 0) (n := 96) (g := 67) rfl (by omega) (by decide +kernel) (by decide +kernel) j0 (by omega)
  refine ⟨⟨m, q1, by omega, y3, y4, y5, fun j j0 j1 => (h486 j j0 (by omega)).trans (y6 j j0 j1), (h486 _ (by omega) (by omega)).trans y7, (h486 _ (by omega) (by omega)).trans y8, (h486 _ (by omega) (by omega)).trans y9, fun q => ?_⟩, by unfold rxmRL_21 rxmRL_22; omega⟩
  obtain ⟨r1, r2, r3, r4⟩ := q2 q
  rw [← hm] at r1 r2 r3
  exact ⟨z1, r3, r4, rxKp_tr z4 r2 z1, rxSeg_cg z5 fun k k0 k1 => r2 k (by have := hP.2.2; omega) k1, r1⟩
theorem rxsRL_21 {X : (Nat → Int → Int) → Prop} {S0 : Nat → Int → Int} {ws : List Int} (hP : rxPRL S0 ws) : rx_obK X S0 rxCRL.2.2.1 rxCRE.2.2.1 (rxIRL S0 ws) (rxmRL S0 ws) 21 22 rxzRL_21 rxzRL_22 [.inr (3, (0, 480)), .inr (0, (0, 1))] none rxPRE rxPSRE := by
  intro S r hinv hXS I0 hin hs_ hf_
  have b_ := bx_bds_sat hs_
  have f_ := bx_fcl_ok hs_.1 hf_
  obtain ⟨⟨l8, u8⟩, -⟩ := b_
  have g := rxkRL_21 hP hin I0 hinv l8 u8
  have ea : List.map (bx_num r) [.inr (3, (0, 480)), .inr (0, (0, 1))] = [480, 1] := by
    simp only [List.map_cons, List.map_nil, bx_xv_ok hs_.1]
    rfl
  rw [ea]
  refine ⟨g.1, fun S_p w r_p hPS hX_p I1 hsm hr hw hs_p => ?_⟩
  have hw : w = none := hPS.1
  subst hw
  have g2 := g.2 S_p hPS I1 hsm
  show rxIRL_22 S0 ws S_p (r_p 8) ∧ rxmRL_22 S0 ws S_p (r_p 8) < _
  rw [hr 8 (by decide)]
  exact g2
theorem rxtRL_23 {S0 : Nat → Int → Int} {ws : List Int} {S : Nat → Int → Int} {base a v : Int} (hP : rxPRL S0 ws) (hin : bx_same rxL (bx_mdl rxCRL.2.2.1) S0 S) (I0 : bx_Inv rxL S) (hinv : rxIRL_23 S0 ws S base a v) (l8 : 0 ≤ base) (u8 : base ≤ 88) (l9 : 6 ≤ a) (u9 : a ≤ 94) (l10 : 0 ≤ v) (u10 : v ≤ 400) : bx_okT rxL (rxL.2.2.1 486 a) v ∧ rxIRL_24 S0 ws (bx_up S 486 a v) base a v ∧ rxmRL_24 S0 ws (bx_up S 486 a v) base a v < rxmRL_23 S0 ws S base a v := by
  obtain ⟨rfl, rfl, m, hy⟩ := hinv
  have hy_p := hy
  obtain ⟨y1, y2, y3, y4, y5, y6, y7, y8, y9, y10⟩ := hy_p
  have e18 : bx_up S 486 (base + 6) (S 480 18) 480 18 = S 480 18 := by rw [bx_up_row (by omega)]
  have e9 : bx_up S 486 (base + 6) (S 480 18) 480 9 = S 480 9 := by rw [bx_up_row (by omega)]
  have e16 : bx_up S 486 (base + 6) (S 480 18) 480 16 = S 480 16 := by rw [bx_up_row (by omega)]
  have hz : rxLy S0 (bx_up S 486 (base + 6) (S 480 18)) base m := by
    refine ⟨?_, by rw [e16]; exact y2, y3, y4, y5, fun j j0 j1 => by rw [bx_up_ne (by omega)]; exact y6 j j0 j1, by rw [bx_up_ne (by omega)]; exact y7, by rw [bx_up_ne (by omega)]; exact y8, by rw [bx_up_ne (by omega)]; exact y9, fun q => ?_⟩
    · unfold rxTk at y1 ⊢
      simp [bx_up]
      omega
    · rw [bx_up_row (by omega)] at q
      obtain ⟨z1, z2, z3, z4, z5, z6⟩ := y10 q
      rw [e18, e9]
      exact ⟨z1, z2, z3, fun k k0 k1 => by rw [bx_up_row (by omega), bx_up_row (by omega)]; exact z4 k k0 k1, rxSeg_cg z5 fun k k0 k1 => ⟨by rw [bx_up_row (by omega)], by rw [bx_up_row (by omega)]⟩, rxSeg_cg z6 fun k k0 k1 => ⟨by rw [bx_up_row (by omega)], by rw [bx_up_row (by omega)]⟩⟩
  refine ⟨?_, ⟨rxLi_end hP.1 hP.2.1 hz (by rw [bx_up_at, e18]) hP.2.2, by rw [e16]; exact y2⟩, by unfold rxmRL_23 rxmRL_24; omega⟩
  rw [y3]
  exact rxDc y4 y5 (by decide) l10 u10
theorem rxsRL_23 {X : (Nat → Int → Int) → Prop} {S0 : Nat → Int → Int} {ws : List Int} (hP : rxPRL S0 ws) (hX : ∀ S S1 : Nat → Int → Int, X S → bx_same rxL (bx_mdl rxCRL.2.2.1) S S1 → X S1) : rx_obS X S0 rxCRL.2.2.1 (rxIRL S0 ws) (rxmRL S0 ws) 23 24 rxzRL_23 486 9 10 := by
  intro S r hinv hXS I0 hin hs_ hf_
  have b_ := bx_bds_sat hs_
  have f_ := bx_fcl_ok hs_.1 hf_
  obtain ⟨⟨l8, u8⟩, ⟨l9, u9⟩, ⟨l10, u10⟩, -⟩ := b_
  have g := rxtRL_23 hP hin I0 hinv l8 u8 l9 u9 l10 u10
  exact ⟨g.1, g.2.1, g.2.2, hX _ _ hXS (rx_same_upR (fun _ _ _ _ _ => rfl) (tc := 0) (n := 96) (g := 67) rfl (by decide +kernel) l9 u9), rx_same_upR hin (tc := 0) (n := 96) (g := 67) rfl (by decide +kernel) l9 u9⟩
theorem rxcRL_0_0 {S0 : Nat → Int → Int} {ws : List Int} {S : Nat → Int → Int} {x8 : Int} (hP : rxPRL S0 ws) (hin : bx_same rxL (bx_mdl rxCRL.2.2.1) S0 S) (I0 : bx_Inv rxL S) (hinv : rxIRL_0 S0 ws S) (l8 : 0 ≤ x8) (u8 : x8 ≤ 3) (f0 : x8 ≠ 1) (f1 : x8 ≠ 1) (f2 : x8 ≠ 1) (e0 : S 480 11 = x8) : (True) ∧ (True) ∧ rxIRL_1 S0 ws S ((-1)) ∧ rxmRL_1 S0 ws S ((-1)) < rxmRL_0 S0 ws S := by
  exact ⟨trivial, trivial, hinv.1, by unfold rxmRL_0 rxmRL_1; omega⟩
theorem rxgRL_0_0 {X : (Nat → Int → Int) → Prop} {S0 : Nat → Int → Int} {ws : List Int} (hP : rxPRL S0 ws) : bx_obC rxL X S0 rxCRL.2.2.1 (rxIRL S0 ws) (rxmRL S0 ws) 0 rxzRL_0 rxoRL_0_0 := by
  intro S S_p r r_p hinv hX hin hsm_ hseg
  obtain ⟨I0, I1, h0_, hr_, b_, f_, d_⟩ := bx_cl (evs := [(0, (0, 480), (0, 11), .inr (0, (8, 0)))]) (fvs := [(3, (8, 0), (0, 1), (0, 0)), (3, (8, 0), (0, 1), (0, 0)), (3, (8, 0), (0, 1), (0, 0))]) hseg (by decide +kernel) (by decide +kernel)
  have hinv : rxIRL_0 S0 ws S := hinv
  obtain ⟨⟨l8, u8⟩, -⟩ := b_
  obtain ⟨f0, f1, f2, -⟩ := f_
  obtain ⟨e0, w_⟩ := d_
  subst w_
  have g := rxcRL_0_0 hP hin I0 hinv l8 u8 f0 f1 f2 e0
  refine ⟨bx_narP_ok (l := []) g.1, bx_nfP_ok h0_ (fvs := []) (by decide +kernel) g.2.1, ?_, ?_⟩
  · show rxIRL_1 S0 ws S_p (bx_val [(0, 0), (0, 0), (0, 0), (0, 0), (0, 0), (0, 0), (0, 0), (0, 0), (0, (-1))] r_p 8)
    rw [bx_val_x (n := 8) (e := (0, (-1))) h0_ rfl]
    exact g.2.2.1
  · show rxmRL_1 S0 ws S_p (bx_val [(0, 0), (0, 0), (0, 0), (0, 0), (0, 0), (0, 0), (0, 0), (0, 0), (0, (-1))] r_p 8) < rxmRL_0 S0 ws S_p
    rw [bx_val_x (n := 8) (e := (0, (-1))) h0_ rfl]
    exact g.2.2.2
theorem rxcRL_0_1 {S0 : Nat → Int → Int} {ws : List Int} {S : Nat → Int → Int} {x8 x9 : Int} (hP : rxPRL S0 ws) (hin : bx_same rxL (bx_mdl rxCRL.2.2.1) S0 S) (I0 : bx_Inv rxL S) (hinv : rxIRL_0 S0 ws S) (l8 : 1 ≤ x8) (u8 : x8 ≤ 1) (l9 : (-9223372036854775808) ≤ x9) (u9 : x9 ≤ 9223372036854775807) (f0 : x9 ≠ 67155) (f1 : x9 ≠ 8902227) (f2 : x9 ≠ 20325907) (e1 : S 480 11 = x8) (e0 : S 480 12 = x9) : (True) ∧ (True) ∧ rxIRL_1 S0 ws S ((-1)) ∧ rxmRL_1 S0 ws S ((-1)) < rxmRL_0 S0 ws S := by
  exact ⟨trivial, trivial, hinv.1, by unfold rxmRL_0 rxmRL_1; omega⟩
theorem rxgRL_0_1 {X : (Nat → Int → Int) → Prop} {S0 : Nat → Int → Int} {ws : List Int} (hP : rxPRL S0 ws) : bx_obC rxL X S0 rxCRL.2.2.1 (rxIRL S0 ws) (rxmRL S0 ws) 0 rxzRL_0 rxoRL_0_1 := by
  intro S S_p r r_p hinv hX hin hsm_ hseg
  obtain ⟨I0, I1, h0_, hr_, b_, f_, d_⟩ := bx_cl (evs := [(0, (0, 480), (0, 12), .inr (1, (9, 0))), (0, (0, 480), (0, 11), .inr (0, (8, 0)))]) (fvs := [(3, (9, 0), (0, 67155), (0, 0)), (3, (9, 0), (0, 8902227), (0, 0)), (3, (9, 0), (0, 20325907), (0, 0))]) hseg (by decide +kernel) (by decide +kernel)
  have hinv : rxIRL_0 S0 ws S := hinv
  obtain ⟨⟨l8, u8⟩, ⟨l9, u9⟩, -⟩ := b_
  obtain ⟨f0, f1, f2, -⟩ := f_
  obtain ⟨e0, ⟨e1, w_⟩⟩ := d_
  subst w_
  have g := rxcRL_0_1 hP hin I0 hinv l8 u8 l9 u9 f0 f1 f2 e1 e0
  refine ⟨bx_narP_ok (l := []) g.1, bx_nfP_ok h0_ (fvs := []) (by decide +kernel) g.2.1, ?_, ?_⟩
  · show rxIRL_1 S0 ws S_p (bx_val [(0, 0), (0, 0), (0, 0), (0, 0), (0, 0), (0, 0), (0, 0), (0, 0), (0, (-1))] r_p 8)
    rw [bx_val_x (n := 8) (e := (0, (-1))) h0_ rfl]
    exact g.2.2.1
  · show rxmRL_1 S0 ws S_p (bx_val [(0, 0), (0, 0), (0, 0), (0, 0), (0, 0), (0, 0), (0, 0), (0, 0), (0, (-1))] r_p 8) < rxmRL_0 S0 ws S_p
    rw [bx_val_x (n := 8) (e := (0, (-1))) h0_ rfl]
    exact g.2.2.2
theorem rxcRL_0_2 {S0 : Nat → Int → Int} {ws : List Int} {S : Nat → Int → Int} {x8 x9 : Int} (hP : rxPRL S0 ws) (hin : bx_same rxL (bx_mdl rxCRL.2.2.1) S0 S) (I0 : bx_Inv rxL S) (hinv : rxIRL_0 S0 ws S) (l8 : 1 ≤ x8) (u8 : x8 ≤ 1) (l9 : 67155 ≤ x9) (u9 : x9 ≤ 67155) (f0 : x9 ≠ 8902227) (f1 : x9 ≠ 20325907) (e1 : S 480 11 = x8) (e0 : S 480 12 = x9) : (True) ∧ (True) ∧ rxIRL_1 S0 ws S 2 ∧ rxmRL_1 S0 ws S 2 < rxmRL_0 S0 ws S := by
  exact ⟨trivial, trivial, hinv.1, by unfold rxmRL_0 rxmRL_1; omega⟩
theorem rxgRL_0_2 {X : (Nat → Int → Int) → Prop} {S0 : Nat → Int → Int} {ws : List Int} (hP : rxPRL S0 ws) : bx_obC rxL X S0 rxCRL.2.2.1 (rxIRL S0 ws) (rxmRL S0 ws) 0 rxzRL_0 rxoRL_0_2 := by
  intro S S_p r r_p hinv hX hin hsm_ hseg
  obtain ⟨I0, I1, h0_, hr_, b_, f_, d_⟩ := bx_cl (evs := [(0, (0, 480), (0, 12), .inr (1, (9, 0))), (0, (0, 480), (0, 11), .inr (0, (8, 0)))]) (fvs := [(3, (9, 0), (0, 8902227), (0, 0)), (3, (9, 0), (0, 20325907), (0, 0))]) hseg (by decide +kernel) (by decide +kernel)
  have hinv : rxIRL_0 S0 ws S := hinv
  obtain ⟨⟨l8, u8⟩, ⟨l9, u9⟩, -⟩ := b_
  obtain ⟨f0, f1, -⟩ := f_
  obtain ⟨e0, ⟨e1, w_⟩⟩ := d_
  subst w_
  have g := rxcRL_0_2 hP hin I0 hinv l8 u8 l9 u9 f0 f1 e1 e0
  refine ⟨bx_narP_ok (l := []) g.1, bx_nfP_ok h0_ (fvs := []) (by decide +kernel) g.2.1, ?_, ?_⟩
  · show rxIRL_1 S0 ws S_p (bx_val [(0, 0), (0, 0), (0, 0), (0, 0), (0, 0), (0, 0), (0, 0), (0, 0), (0, 2)] r_p 8)
    rw [bx_val_x (n := 8) (e := (0, 2)) h0_ rfl]
    exact g.2.2.1
  · show rxmRL_1 S0 ws S_p (bx_val [(0, 0), (0, 0), (0, 0), (0, 0), (0, 0), (0, 0), (0, 0), (0, 0), (0, 2)] r_p 8) < rxmRL_0 S0 ws S_p
    rw [bx_val_x (n := 8) (e := (0, 2)) h0_ rfl]
    exact g.2.2.2
theorem rxcRL_0_3 {S0 : Nat → Int → Int} {ws : List Int} {S : Nat → Int → Int} {x8 x9 : Int} (hP : rxPRL S0 ws) (hin : bx_same rxL (bx_mdl rxCRL.2.2.1) S0 S) (I0 : bx_Inv rxL S) (hinv : rxIRL_0 S0 ws S) (l8 : 1 ≤ x8) (u8 : x8 ≤ 1) (l9 : 8902227 ≤ x9) (u9 : x9 ≤ 8902227) (f0 : x9 ≠ 20325907) (e1 : S 480 11 = x8) (e0 : S 480 12 = x9) : (True) ∧ (True) ∧ rxIRL_1 S0 ws S 1 ∧ rxmRL_1 S0 ws S 1 < rxmRL_0 S0 ws S := by
  exact ⟨trivial, trivial, hinv.1, by unfold rxmRL_0 rxmRL_1; omega⟩
theorem rxgRL_0_3 {X : (Nat → Int → Int) → Prop} {S0 : Nat → Int → Int} {ws : List Int} (hP : rxPRL S0 ws) : bx_obC rxL X S0 rxCRL.2.2.1 (rxIRL S0 ws) (rxmRL S0 ws) 0 rxzRL_0 rxoRL_0_3 := by
  intro S S_p r r_p hinv hX hin hsm_ hseg
  obtain ⟨I0, I1, h0_, hr_, b_, f_, d_⟩ := bx_cl (evs := [(0, (0, 480), (0, 12), .inr (1, (9, 0))), (0, (0, 480), (0, 11), .inr (0, (8, 0)))]) (fvs := [(3, (9, 0), (0, 20325907), (0, 0))]) hseg (by decide +kernel) (by decide +kernel)
  have hinv : rxIRL_0 S0 ws S := hinv
  obtain ⟨⟨l8, u8⟩, ⟨l9, u9⟩, -⟩ := b_
  obtain ⟨f0, -⟩ := f_
  obtain ⟨e0, ⟨e1, w_⟩⟩ := d_
  subst w_
  have g := rxcRL_0_3 hP hin I0 hinv l8 u8 l9 u9 f0 e1 e0
  refine ⟨bx_narP_ok (l := []) g.1, bx_nfP_ok h0_ (fvs := []) (by decide +kernel) g.2.1, ?_, ?_⟩
  · show rxIRL_1 S0 ws S_p (bx_val [(0, 0), (0, 0), (0, 0), (0, 0), (0, 0), (0, 0), (0, 0), (0, 0), (0, 1)] r_p 8)
    rw [bx_val_x (n := 8) (e := (0, 1)) h0_ rfl]
    exact g.2.2.1
  · show rxmRL_1 S0 ws S_p (bx_val [(0, 0), (0, 0), (0, 0), (0, 0), (0, 0), (0, 0), (0, 0), (0, 0), (0, 1)] r_p 8) < rxmRL_0 S0 ws S_p
    rw [bx_val_x (n := 8) (e := (0, 1)) h0_ rfl]
    exact g.2.2.2
theorem rxcRL_0_4 {S0 : Nat → Int → Int} {ws : List Int} {S : Nat → Int → Int} {x8 x9 : Int} (hP : rxPRL S0 ws) (hin : bx_same rxL (bx_mdl rxCRL.2.2.1) S0 S) (I0 : bx_Inv rxL S) (hinv : rxIRL_0 S0 ws S) (l8 : 1 ≤ x8) (u8 : x8 ≤ 1) (l9 : 20325907 ≤ x9) (u9 : x9 ≤ 20325907) (e1 : S 480 11 = x8) (e0 : S 480 12 = x9) : (True) ∧ (True) ∧ rxIRL_1 S0 ws S 0 ∧ rxmRL_1 S0 ws S 0 < rxmRL_0 S0 ws S := by
  exact ⟨trivial, trivial, hinv.1, by unfold rxmRL_0 rxmRL_1; omega⟩
theorem rxgRL_0_4 {X : (Nat → Int → Int) → Prop} {S0 : Nat → Int → Int} {ws : List Int} (hP : rxPRL S0 ws) : bx_obC rxL X S0 rxCRL.2.2.1 (rxIRL S0 ws) (rxmRL S0 ws) 0 rxzRL_0 rxoRL_0_4 := by
  intro S S_p r r_p hinv hX hin hsm_ hseg
  obtain ⟨I0, I1, h0_, hr_, b_, f_, d_⟩ := bx_cl (evs := [(0, (0, 480), (0, 12), .inr (1, (9, 0))), (0, (0, 480), (0, 11), .inr (0, (8, 0)))]) (fvs := []) hseg (by decide +kernel) (by decide +kernel)
  have hinv : rxIRL_0 S0 ws S := hinv
  obtain ⟨⟨l8, u8⟩, ⟨l9, u9⟩, -⟩ := b_
  obtain ⟨e0, ⟨e1, w_⟩⟩ := d_
  subst w_
  have g := rxcRL_0_4 hP hin I0 hinv l8 u8 l9 u9 e1 e0
  refine ⟨bx_narP_ok (l := []) g.1, bx_nfP_ok h0_ (fvs := []) (by decide +kernel) g.2.1, ?_, ?_⟩
  · show rxIRL_1 S0 ws S_p (bx_val [(0, 0), (0, 0), (0, 0), (0, 0), (0, 0), (0, 0), (0, 0), (0, 0), (0, 0)] r_p 8)
    rw [bx_val_x (n := 8) (e := (0, 0)) h0_ rfl]
    exact g.2.2.1
  · show rxmRL_1 S0 ws S_p (bx_val [(0, 0), (0, 0), (0, 0), (0, 0), (0, 0), (0, 0), (0, 0), (0, 0), (0, 0)] r_p 8) < rxmRL_0 S0 ws S_p
    rw [bx_val_x (n := 8) (e := (0, 0)) h0_ rfl]
    exact g.2.2.2
theorem rxcRL_1_0 {S0 : Nat → Int → Int} {ws : List Int} {S : Nat → Int → Int} {which x9 : Int} (hP : rxPRL S0 ws) (hin : bx_same rxL (bx_mdl rxCRL.2.2.1) S0 S) (I0 : bx_Inv rxL S) (hinv : rxIRL_1 S0 ws S which) (l8 : 0 ≤ which) (u8 : which ≤ 2) (l9 : 0 ≤ x9) (u9 : x9 ≤ 11) (f0 : which ≠ (-1)) (e0 : S 480 16 = x9) : (True) ∧ (True) ∧ rxIRL_2 S0 ws S which 1 ∧ rxmRL_2 S0 ws S which 1 < rxmRL_1 S0 ws S which := by
  have hinv : S = S0 := hinv
  subst hinv
  exact ⟨trivial, trivial, ⟨rfl, fun q => by omega⟩, by unfold rxmRL_1 rxmRL_2; omega⟩
theorem rxgRL_1_0 {X : (Nat → Int → Int) → Prop} {S0 : Nat → Int → Int} {ws : List Int} (hP : rxPRL S0 ws) : bx_obC rxL X S0 rxCRL.2.2.1 (rxIRL S0 ws) (rxmRL S0 ws) 1 rxzRL_1 rxoRL_1_0 := by
  intro S S_p r r_p hinv hX hin hsm_ hseg
  obtain ⟨I0, I1, h0_, hr_, b_, f_, d_⟩ := bx_cl (evs := [(0, (0, 480), (0, 16), .inr (0, (9, 0)))]) (fvs := [(3, (8, 0), (0, (-1)), (0, 0))]) hseg (by decide +kernel) (by decide +kernel)
  have hinv : rxIRL_1 S0 ws S (r 8) := hinv
  rw [← hr_ 8 (by decide)] at hinv
  obtain ⟨⟨l8, u8⟩, ⟨l9, u9⟩, -⟩ := b_
  obtain ⟨f0, -⟩ := f_
  obtain ⟨e0, w_⟩ := d_
  subst w_
  have g := rxcRL_1_0 hP hin I0 hinv l8 u8 l9 u9 f0 e0
  refine ⟨bx_narP_ok (l := []) g.1, bx_nfP_ok h0_ (fvs := []) (by decide +kernel) g.2.1, ?_, ?_⟩
  · show rxIRL_2 S0 ws S_p (bx_val [(0, 0), (0, 0), (0, 0), (0, 0), (0, 0), (0, 0), (0, 0), (0, 0), (8, 0), (0, 1)] r_p 8) (bx_val [(0, 0), (0, 0), (0, 0), (0, 0), (0, 0), (0, 0), (0, 0), (0, 0), (8, 0), (0, 1)] r_p 9)
    rw [bx_val_x (n := 8) (e := (8, 0)) h0_ rfl, bx_val_x (n := 9) (e := (0, 1)) h0_ rfl]
    exact g.2.2.1
  · show rxmRL_2 S0 ws S_p (bx_val [(0, 0), (0, 0), (0, 0), (0, 0), (0, 0), (0, 0), (0, 0), (0, 0), (8, 0), (0, 1)] r_p 8) (bx_val [(0, 0), (0, 0), (0, 0), (0, 0), (0, 0), (0, 0), (0, 0), (0, 0), (8, 0), (0, 1)] r_p 9) < rxmRL_1 S0 ws S_p (r 8)
    rw [bx_val_x (n := 8) (e := (8, 0)) h0_ rfl, bx_val_x (n := 9) (e := (0, 1)) h0_ rfl, ← hr_ 8 (by decide)]
    exact g.2.2.2
theorem rxcRL_1_1 {S0 : Nat → Int → Int} {ws : List Int} {S : Nat → Int → Int} {which x9 : Int} (hP : rxPRL S0 ws) (hin : bx_same rxL (bx_mdl rxCRL.2.2.1) S0 S) (I0 : bx_Inv rxL S) (hinv : rxIRL_1 S0 ws S which) (l8 : 0 ≤ which) (u8 : which ≤ 2) (l9 : 12 ≤ x9) (u9 : x9 ≤ 12) (f0 : which ≠ (-1)) (e0 : S 480 16 = x9) : (True) ∧ (True) ∧ rxIRL_2 S0 ws S which 0 ∧ rxmRL_2 S0 ws S which 0 < rxmRL_1 S0 ws S which := by
  have hinv : S = S0 := hinv
  subst hinv
  exact ⟨trivial, trivial, ⟨rfl, fun q => by omega⟩, by unfold rxmRL_1 rxmRL_2; omega⟩
theorem rxgRL_1_1 {X : (Nat → Int → Int) → Prop} {S0 : Nat → Int → Int} {ws : List Int} (hP : rxPRL S0 ws) : bx_obC rxL X S0 rxCRL.2.2.1 (rxIRL S0 ws) (rxmRL S0 ws) 1 rxzRL_1 rxoRL_1_1 := by
  intro S S_p r r_p hinv hX hin hsm_ hseg
  obtain ⟨I0, I1, h0_, hr_, b_, f_, d_⟩ := bx_cl (evs := [(0, (0, 480), (0, 16), .inr (0, (9, 0)))]) (fvs := [(3, (8, 0), (0, (-1)), (0, 0))]) hseg (by decide +kernel) (by decide +kernel)
  have hinv : rxIRL_1 S0 ws S (r 8) := hinv
  rw [← hr_ 8 (by decide)] at hinv
  obtain ⟨⟨l8, u8⟩, ⟨l9, u9⟩, -⟩ := b_
  obtain ⟨f0, -⟩ := f_
  obtain ⟨e0, w_⟩ := d_
  subst w_
  have g := rxcRL_1_1 hP hin I0 hinv l8 u8 l9 u9 f0 e0
  refine ⟨bx_narP_ok (l := []) g.1, bx_nfP_ok h0_ (fvs := []) (by decide +kernel) g.2.1, ?_, ?_⟩
  · show rxIRL_2 S0 ws S_p (bx_val [(0, 0), (0, 0), (0, 0), (0, 0), (0, 0), (0, 0), (0, 0), (0, 0), (8, 0), (0, 0)] r_p 8) (bx_val [(0, 0), (0, 0), (0, 0), (0, 0), (0, 0), (0, 0), (0, 0), (0, 0), (8, 0), (0, 0)] r_p 9)
    rw [bx_val_x (n := 8) (e := (8, 0)) h0_ rfl, bx_val_x (n := 9) (e := (0, 0)) h0_ rfl]
    exact g.2.2.1
  · show rxmRL_2 S0 ws S_p (bx_val [(0, 0), (0, 0), (0, 0), (0, 0), (0, 0), (0, 0), (0, 0), (0, 0), (8, 0), (0, 0)] r_p 8) (bx_val [(0, 0), (0, 0), (0, 0), (0, 0), (0, 0), (0, 0), (0, 0), (0, 0), (8, 0), (0, 0)] r_p 9) < rxmRL_1 S0 ws S_p (r 8)
    rw [bx_val_x (n := 8) (e := (8, 0)) h0_ rfl, bx_val_x (n := 9) (e := (0, 0)) h0_ rfl, ← hr_ 8 (by decide)]
    exact g.2.2.2
theorem rxcRL_1_2 {S0 : Nat → Int → Int} {ws : List Int} {S : Nat → Int → Int} {which : Int} (hP : rxPRL S0 ws) (hin : bx_same rxL (bx_mdl rxCRL.2.2.1) S0 S) (I0 : bx_Inv rxL S) (hinv : rxIRL_1 S0 ws S which) (l8 : (-1) ≤ which) (u8 : which ≤ (-1)) : (True) ∧ (True) ∧ rxIRL_2 S0 ws S which 0 ∧ rxmRL_2 S0 ws S which 0 < rxmRL_1 S0 ws S which := by
  have hinv : S = S0 := hinv
  subst hinv
  exact ⟨trivial, trivial, ⟨rfl, fun q => by omega⟩, by unfold rxmRL_1 rxmRL_2; omega⟩
theorem rxgRL_1_2 {X : (Nat → Int → Int) → Prop} {S0 : Nat → Int → Int} {ws : List Int} (hP : rxPRL S0 ws) : bx_obC rxL X S0 rxCRL.2.2.1 (rxIRL S0 ws) (rxmRL S0 ws) 1 rxzRL_1 rxoRL_1_2 := by
  intro S S_p r r_p hinv hX hin hsm_ hseg
  obtain ⟨I0, I1, h0_, hr_, b_, f_, d_⟩ := bx_cl (evs := []) (fvs := []) hseg (by decide +kernel) (by decide +kernel)
  have hinv : rxIRL_1 S0 ws S (r 8) := hinv
  rw [← hr_ 8 (by decide)] at hinv
  obtain ⟨⟨l8, u8⟩, -⟩ := b_
  have w_ := d_
  subst w_
  have g := rxcRL_1_2 hP hin I0 hinv l8 u8
  refine ⟨bx_narP_ok (l := []) g.1, bx_nfP_ok h0_ (fvs := []) (by decide +kernel) g.2.1, ?_, ?_⟩
  · show rxIRL_2 S0 ws S_p (bx_val [(0, 0), (0, 0), (0, 0), (0, 0), (0, 0), (0, 0), (0, 0), (0, 0), (8, 0), (0, 0)] r_p 8) (bx_val [(0, 0), (0, 0), (0, 0), (0, 0), (0, 0), (0, 0), (0, 0), (0, 0), (8, 0), (0, 0)] r_p 9)
    rw [bx_val_x (n := 8) (e := (8, 0)) h0_ rfl, bx_val_x (n := 9) (e := (0, 0)) h0_ rfl]
    exact g.2.2.1
  · show rxmRL_2 S0 ws S_p (bx_val [(0, 0), (0, 0), (0, 0), (0, 0), (0, 0), (0, 0), (0, 0), (0, 0), (8, 0), (0, 0)] r_p 8) (bx_val [(0, 0), (0, 0), (0, 0), (0, 0), (0, 0), (0, 0), (0, 0), (0, 0), (8, 0), (0, 0)] r_p 9) < rxmRL_1 S0 ws S_p (r 8)
    rw [bx_val_x (n := 8) (e := (8, 0)) h0_ rfl, bx_val_x (n := 9) (e := (0, 0)) h0_ rfl, ← hr_ 8 (by decide)]
    exact g.2.2.2
theorem rxcRL_3_0 {S0 : Nat → Int → Int} {ws : List Int} {S : Nat → Int → Int} {which is x10 x11 : Int} (hP : rxPRL S0 ws) (hin : bx_same rxL (bx_mdl rxCRL.2.2.1) S0 S) (I0 : bx_Inv rxL S) (hinv : rxIRL_3 S0 ws S which is) (l8 : (-1) ≤ which) (u8 : which ≤ 2) (l9 : 0 ≤ is) (u9 : is ≤ 1) (l10 : 0 ≤ x10) (u10 : x10 ≤ 0) (l11 : 0 ≤ x11) (u11 : x11 ≤ 12) (e1 : S 480 14 = x10) (e0 : S 480 16 = x11) : ((0 ≤ which ∧ which ≤ 2) ∧ (0 ≤ x11 ∧ x11 ≤ 11) ∧ True) ∧ (True) ∧ rxIRL_4 S0 ws S which x11 ∧ rxmRL_4 S0 ws S which x11 < rxmRL_3 S0 ws S which is := by
  obtain ⟨h1, h2, h3, h4, h5, h6⟩ := hinv
  have g := h6 (by omega)
  exact ⟨⟨by omega, by omega, trivial⟩, trivial, ⟨by omega, by omega, h1, h2, h3, h4, h5⟩, by unfold rxmRL_3 rxmRL_4; omega⟩
theorem rxgRL_3_0 {X : (Nat → Int → Int) → Prop} {S0 : Nat → Int → Int} {ws : List Int} (hP : rxPRL S0 ws) : bx_obC rxL X S0 rxCRL.2.2.1 (rxIRL S0 ws) (rxmRL S0 ws) 3 rxzRL_3 rxoRL_3_0 := by
  intro S S_p r r_p hinv hX hin hsm_ hseg
  obtain ⟨I0, I1, h0_, hr_, b_, f_, d_⟩ := bx_cl (evs := [(0, (0, 480), (0, 16), .inr (0, (11, 0))), (0, (0, 480), (0, 14), .inr (0, (10, 0)))]) (fvs := []) hseg (by decide +kernel) (by decide +kernel)
  have hinv : rxIRL_3 S0 ws S (r 8) (r 9) := hinv
  rw [← hr_ 8 (by decide), ← hr_ 9 (by decide)] at hinv
  obtain ⟨⟨l8, u8⟩, ⟨l9, u9⟩, ⟨l10, u10⟩, ⟨l11, u11⟩, -⟩ := b_
  obtain ⟨e0, ⟨e1, w_⟩⟩ := d_
  subst w_
  have g := rxcRL_3_0 hP hin I0 hinv l8 u8 l9 u9 l10 u10 l11 u11 e1 e0
  refine ⟨bx_narP_ok (l := [(8, 0, 2), (11, 0, 11)]) g.1, bx_nfP_ok h0_ (fvs := []) (by decide +kernel) g.2.1, ?_, ?_⟩
  · show rxIRL_4 S0 ws S_p (bx_val [(0, 0), (0, 0), (0, 0), (0, 0), (0, 0), (0, 0), (0, 0), (0, 0), (8, 0), (11, 0)] r_p 8) (bx_val [(0, 0), (0, 0), (0, 0), (0, 0), (0, 0), (0, 0), (0, 0), (0, 0), (8, 0), (11, 0)] r_p 9)
    rw [bx_val_x (n := 8) (e := (8, 0)) h0_ rfl, bx_val_x (n := 9) (e := (11, 0)) h0_ rfl]
    exact g.2.2.1
  · show rxmRL_4 S0 ws S_p (bx_val [(0, 0), (0, 0), (0, 0), (0, 0), (0, 0), (0, 0), (0, 0), (0, 0), (8, 0), (11, 0)] r_p 8) (bx_val [(0, 0), (0, 0), (0, 0), (0, 0), (0, 0), (0, 0), (0, 0), (0, 0), (8, 0), (11, 0)] r_p 9) < rxmRL_3 S0 ws S_p (r 8) (r 9)
    rw [bx_val_x (n := 8) (e := (8, 0)) h0_ rfl, bx_val_x (n := 9) (e := (11, 0)) h0_ rfl, ← hr_ 8 (by decide), ← hr_ 9 (by decide)]
    exact g.2.2.2
theorem rxdRL_3_0 {S0 : Nat → Int → Int} {ws : List Int} {S : Nat → Int → Int} {which is x10 : Int} (hP : rxPRL S0 ws) (hin : bx_same rxL (bx_mdl rxCRL.2.2.1) S0 S) (hin2 : bx_same rxL (bx_mdl rxCRL.2.2.1) S S) (I0 : bx_Inv rxL S) (I1 : bx_Inv rxL S) (hinv : rxIRL_3 S0 ws S which is) (l8 : (-1) ≤ which) (u8 : which ≤ 2) (l9 : 0 ≤ is) (u9 : is ≤ 1) (l10 : 1 ≤ x10) (u10 : x10 ≤ 1) (f0 : x10 ≠ 0) (e0 : S 480 14 = x10) : (True) ∧ rxPSRL S0 ws S none := by
  obtain ⟨h1, h2, h3, h4, h5, h6⟩ := hinv
  exact ⟨trivial, rfl, ⟨h1, fun q => by omega⟩, fun q => by omega⟩
theorem rxfRL_3_0 {X : (Nat → Int → Int) → Prop} {S0 : Nat → Int → Int} {ws : List Int} (hP : rxPRL S0 ws) : bx_obE rxL X S0 rxCRL.2.2.1 (rxIRL S0 ws) (rxPSRL S0 ws) 3 rxzRL_3 rxeRL_3_0 := by
  intro S S_p r r_p hinv hX hin hsm_ hseg
  obtain ⟨I0, I1, h0_, hr_, b_, f_, d_⟩ := bx_cl (evs := [(0, (0, 480), (0, 14), .inr (0, (10, 0)))]) (fvs := [(3, (10, 0), (0, 0), (0, 0))]) hseg (by decide +kernel) (by decide +kernel)
  have hinv : rxIRL_3 S0 ws S (r 8) (r 9) := hinv
  rw [← hr_ 8 (by decide), ← hr_ 9 (by decide)] at hinv
  obtain ⟨⟨l8, u8⟩, ⟨l9, u9⟩, ⟨l10, u10⟩, -⟩ := b_
  obtain ⟨f0, -⟩ := f_
  obtain ⟨e0, w_⟩ := d_
  subst w_
  have g := rxdRL_3_0 hP hin hsm_ I0 I1 hinv l8 u8 l9 u9 l10 u10 f0 e0
  refine ⟨bx_narP_ok (l := []) g.1, ?_⟩
  exact g.2
theorem rxcRL_4_0 {S0 : Nat → Int → Int} {ws : List Int} {S : Nat → Int → Int} {which nc x10 : Int} (hP : rxPRL S0 ws) (hin : bx_same rxL (bx_mdl rxCRL.2.2.1) S0 S) (I0 : bx_Inv rxL S) (hinv : rxIRL_4 S0 ws S which nc) (l8 : 0 ≤ which) (u8 : which ≤ 2) (l9 : 0 ≤ nc) (u9 : nc ≤ 11) (l10 : 0 ≤ x10) (u10 : x10 ≤ 88) (f0 : x10 = 8 * (nc)) : (True) ∧ (True) ∧ rxIRL_5 S0 ws S which x10 0 ∧ rxmRL_5 S0 ws S which x10 0 < rxmRL_4 S0 ws S which nc := by
  obtain ⟨h1, h3, h4, h5, h6, h7, h8⟩ := hinv
  have b16 := rxBox16 I0
  exact ⟨trivial, trivial, ⟨h4, h5, h3, h6, h7, by omega, by omega, fun j j0 j1 => h8 j j0 (by omega)⟩, by unfold rxmRL_4 rxmRL_5; omega⟩
theorem rxgRL_4_0 {X : (Nat → Int → Int) → Prop} {S0 : Nat → Int → Int} {ws : List Int} (hP : rxPRL S0 ws) : bx_obC rxL X S0 rxCRL.2.2.1 (rxIRL S0 ws) (rxmRL S0 ws) 4 rxzRL_4 rxoRL_4_0 := by
  intro S S_p r r_p hinv hX hin hsm_ hseg
  obtain ⟨I0, I1, h0_, hr_, b_, f_, d_⟩ := bx_cl (evs := []) (fvs := [(4, (10, 0), (9, 0), (0, 8))]) hseg (by decide +kernel) (by decide +kernel)
  have hinv : rxIRL_4 S0 ws S (r 8) (r 9) := hinv
  rw [← hr_ 8 (by decide), ← hr_ 9 (by decide)] at hinv
  obtain ⟨⟨l8, u8⟩, ⟨l9, u9⟩, ⟨l10, u10⟩, -⟩ := b_
  obtain ⟨f0, -⟩ := f_
  have w_ := d_
  subst w_
  have g := rxcRL_4_0 hP hin I0 hinv l8 u8 l9 u9 l10 u10 f0
  refine ⟨bx_narP_ok (l := []) g.1, bx_nfP_ok h0_ (fvs := []) (by decide +kernel) g.2.1, ?_, ?_⟩
  · show rxIRL_5 S0 ws S_p (bx_val [(0, 0), (0, 0), (0, 0), (0, 0), (0, 0), (0, 0), (0, 0), (0, 0), (8, 0), (10, 0), (0, 0)] r_p 8) (bx_val [(0, 0), (0, 0), (0, 0), (0, 0), (0, 0), (0, 0), (0, 0), (0, 0), (8, 0), (10, 0), (0, 0)] r_p 9) (bx_val [(0, 0), (0, 0), (0, 0), (0, 0), (0, 0), (0, 0), (0, 0), (0, 0), (8, 0), (10, 0), (0, 0)] r_p 10)
    rw [bx_val_x (n := 8) (e := (8, 0)) h0_ rfl, bx_val_x (n := 9) (e := (10, 0)) h0_ rfl, bx_val_x (n := 10) (e := (0, 0)) h0_ rfl]
    exact g.2.2.1
  · show rxmRL_5 S0 ws S_p (bx_val [(0, 0), (0, 0), (0, 0), (0, 0), (0, 0), (0, 0), (0, 0), (0, 0), (8, 0), (10, 0), (0, 0)] r_p 8) (bx_val [(0, 0), (0, 0), (0, 0), (0, 0), (0, 0), (0, 0), (0, 0), (0, 0), (8, 0), (10, 0), (0, 0)] r_p 9) (bx_val [(0, 0), (0, 0), (0, 0), (0, 0), (0, 0), (0, 0), (0, 0), (0, 0), (8, 0), (10, 0), (0, 0)] r_p 10) < rxmRL_4 S0 ws S_p (r 8) (r 9)
    rw [bx_val_x (n := 8) (e := (8, 0)) h0_ rfl, bx_val_x (n := 9) (e := (10, 0)) h0_ rfl, bx_val_x (n := 10) (e := (0, 0)) h0_ rfl, ← hr_ 8 (by decide), ← hr_ 9 (by decide)]
    exact g.2.2.2
theorem rxcRL_5_0 {S0 : Nat → Int → Int} {ws : List Int} {S : Nat → Int → Int} {which base i x11 : Int} (hP : rxPRL S0 ws) (hin : bx_same rxL (bx_mdl rxCRL.2.2.1) S0 S) (I0 : bx_Inv rxL S) (hinv : rxIRL_5 S0 ws S which base i) (l8 : 0 ≤ which) (u8 : which ≤ 2) (l9 : 0 ≤ base) (u9 : base ≤ 88) (l10 : 0 ≤ i) (u10 : i ≤ 7) (l11 : 0 ≤ x11) (u11 : x11 ≤ 95) (f0 : x11 = base + i) : (True) ∧ (True) ∧ rxIRL_6 S0 ws S which base i x11 0 ∧ rxmRL_6 S0 ws S which base i x11 0 < rxmRL_5 S0 ws S which base i := by
  exact ⟨trivial, trivial, ⟨hinv, by omega⟩, by unfold rxmRL_5 rxmRL_6; omega⟩
theorem rxgRL_5_0 {X : (Nat → Int → Int) → Prop} {S0 : Nat → Int → Int} {ws : List Int} (hP : rxPRL S0 ws) : bx_obC rxL X S0 rxCRL.2.2.1 (rxIRL S0 ws) (rxmRL S0 ws) 5 rxzRL_5 rxoRL_5_0 := by
  intro S S_p r r_p hinv hX hin hsm_ hseg
  obtain ⟨I0, I1, h0_, hr_, b_, f_, d_⟩ := bx_cl (evs := []) (fvs := [(5, (11, 0), (9, 0), (10, 0))]) hseg (by decide +kernel) (by decide +kernel)
  have hinv : rxIRL_5 S0 ws S (r 8) (r 9) (r 10) := hinv
  rw [← hr_ 8 (by decide), ← hr_ 9 (by decide), ← hr_ 10 (by decide)] at hinv
  obtain ⟨⟨l8, u8⟩, ⟨l9, u9⟩, ⟨l10, u10⟩, ⟨l11, u11⟩, -⟩ := b_
  obtain ⟨f0, -⟩ := f_
  have w_ := d_
  subst w_
  have g := rxcRL_5_0 hP hin I0 hinv l8 u8 l9 u9 l10 u10 l11 u11 f0
  refine ⟨bx_narP_ok (l := []) g.1, bx_nfP_ok h0_ (fvs := []) (by decide +kernel) g.2.1, ?_, ?_⟩
  · show rxIRL_6 S0 ws S_p (bx_val [(0, 0), (0, 0), (0, 0), (0, 0), (0, 0), (0, 0), (0, 0), (0, 0), (8, 0), (9, 0), (10, 0), (11, 0), (0, 0)] r_p 8) (bx_val [(0, 0), (0, 0), (0, 0), (0, 0), (0, 0), (0, 0), (0, 0), (0, 0), (8, 0), (9, 0), (10, 0), (11, 0), (0, 0)] r_p 9) (bx_val [(0, 0), (0, 0), (0, 0), (0, 0), (0, 0), (0, 0), (0, 0), (0, 0), (8, 0), (9, 0), (10, 0), (11, 0), (0, 0)] r_p 10) (bx_val [(0, 0), (0, 0), (0, 0), (0, 0), (0, 0), (0, 0), (0, 0), (0, 0), (8, 0), (9, 0), (10, 0), (11, 0), (0, 0)] r_p 11) (bx_val [(0, 0), (0, 0), (0, 0), (0, 0), (0, 0), (0, 0), (0, 0), (0, 0), (8, 0), (9, 0), (10, 0), (11, 0), (0, 0)] r_p 12)
    rw [bx_val_x (n := 8) (e := (8, 0)) h0_ rfl, bx_val_x (n := 9) (e := (9, 0)) h0_ rfl, bx_val_x (n := 10) (e := (10, 0)) h0_ rfl, bx_val_x (n := 11) (e := (11, 0)) h0_ rfl, bx_val_x (n := 12) (e := (0, 0)) h0_ rfl]
    exact g.2.2.1
  · show rxmRL_6 S0 ws S_p (bx_val [(0, 0), (0, 0), (0, 0), (0, 0), (0, 0), (0, 0), (0, 0), (0, 0), (8, 0), (9, 0), (10, 0), (11, 0), (0, 0)] r_p 8) (bx_val [(0, 0), (0, 0), (0, 0), (0, 0), (0, 0), (0, 0), (0, 0), (0, 0), (8, 0), (9, 0), (10, 0), (11, 0), (0, 0)] r_p 9) (bx_val [(0, 0), (0, 0), (0, 0), (0, 0), (0, 0), (0, 0), (0, 0), (0, 0), (8, 0), (9, 0), (10, 0), (11, 0), (0, 0)] r_p 10) (bx_val [(0, 0), (0, 0), (0, 0), (0, 0), (0, 0), (0, 0), (0, 0), (0, 0), (8, 0), (9, 0), (10, 0), (11, 0), (0, 0)] r_p 11) (bx_val [(0, 0), (0, 0), (0, 0), (0, 0), (0, 0), (0, 0), (0, 0), (0, 0), (8, 0), (9, 0), (10, 0), (11, 0), (0, 0)] r_p 12) < rxmRL_5 S0 ws S_p (r 8) (r 9) (r 10)
    rw [bx_val_x (n := 8) (e := (8, 0)) h0_ rfl, bx_val_x (n := 9) (e := (9, 0)) h0_ rfl, bx_val_x (n := 10) (e := (10, 0)) h0_ rfl, bx_val_x (n := 11) (e := (11, 0)) h0_ rfl, bx_val_x (n := 12) (e := (0, 0)) h0_ rfl, ← hr_ 8 (by decide), ← hr_ 9 (by decide), ← hr_ 10 (by decide)]
    exact g.2.2.2
theorem rxcRL_5_1 {S0 : Nat → Int → Int} {ws : List Int} {S : Nat → Int → Int} {which base i : Int} (hP : rxPRL S0 ws) (hin : bx_same rxL (bx_mdl rxCRL.2.2.1) S0 S) (I0 : bx_Inv rxL S) (hinv : rxIRL_5 S0 ws S which base i) (l8 : 0 ≤ which) (u8 : which ≤ 2) (l9 : 0 ≤ base) (u9 : base ≤ 88) (l10 : 8 ≤ i) (u10 : i ≤ 8) : (True) ∧ (True) ∧ rxIRL_8 S0 ws S which base base which ∧ rxmRL_8 S0 ws S which base base which < rxmRL_5 S0 ws S which base i := by
  exact ⟨trivial, trivial, ⟨hinv, by omega⟩, by unfold rxmRL_5 rxmRL_8; omega⟩
theorem rxgRL_5_1 {X : (Nat → Int → Int) → Prop} {S0 : Nat → Int → Int} {ws : List Int} (hP : rxPRL S0 ws) : bx_obC rxL X S0 rxCRL.2.2.1 (rxIRL S0 ws) (rxmRL S0 ws) 5 rxzRL_5 rxoRL_5_1 := by
  intro S S_p r r_p hinv hX hin hsm_ hseg
  obtain ⟨I0, I1, h0_, hr_, b_, f_, d_⟩ := bx_cl (evs := []) (fvs := []) hseg (by decide +kernel) (by decide +kernel)
  have hinv : rxIRL_5 S0 ws S (r 8) (r 9) (r 10) := hinv
  rw [← hr_ 8 (by decide), ← hr_ 9 (by decide), ← hr_ 10 (by decide)] at hinv
  obtain ⟨⟨l8, u8⟩, ⟨l9, u9⟩, ⟨l10, u10⟩, -⟩ := b_
  have w_ := d_
  subst w_
  have g := rxcRL_5_1 hP hin I0 hinv l8 u8 l9 u9 l10 u10
  refine ⟨bx_narP_ok (l := []) g.1, bx_nfP_ok h0_ (fvs := []) (by decide +kernel) g.2.1, ?_, ?_⟩
  · show rxIRL_8 S0 ws S_p (bx_val [(0, 0), (0, 0), (0, 0), (0, 0), (0, 0), (0, 0), (0, 0), (0, 0), (8, 0), (9, 0), (9, 0), (8, 0)] r_p 8) (bx_val [(0, 0), (0, 0), (0, 0), (0, 0), (0, 0), (0, 0), (0, 0), (0, 0), (8, 0), (9, 0), (9, 0), (8, 0)] r_p 9) (bx_val [(0, 0), (0, 0), (0, 0), (0, 0), (0, 0), (0, 0), (0, 0), (0, 0), (8, 0), (9, 0), (9, 0), (8, 0)] r_p 10) (bx_val [(0, 0), (0, 0), (0, 0), (0, 0), (0, 0), (0, 0), (0, 0), (0, 0), (8, 0), (9, 0), (9, 0), (8, 0)] r_p 11)
    rw [bx_val_x (n := 8) (e := (8, 0)) h0_ rfl, bx_val_x (n := 9) (e := (9, 0)) h0_ rfl, bx_val_x (n := 10) (e := (9, 0)) h0_ rfl, bx_val_x (n := 11) (e := (8, 0)) h0_ rfl]
    exact g.2.2.1
  · show rxmRL_8 S0 ws S_p (bx_val [(0, 0), (0, 0), (0, 0), (0, 0), (0, 0), (0, 0), (0, 0), (0, 0), (8, 0), (9, 0), (9, 0), (8, 0)] r_p 8) (bx_val [(0, 0), (0, 0), (0, 0), (0, 0), (0, 0), (0, 0), (0, 0), (0, 0), (8, 0), (9, 0), (9, 0), (8, 0)] r_p 9) (bx_val [(0, 0), (0, 0), (0, 0), (0, 0), (0, 0), (0, 0), (0, 0), (0, 0), (8, 0), (9, 0), (9, 0), (8, 0)] r_p 10) (bx_val [(0, 0), (0, 0), (0, 0), (0, 0), (0, 0), (0, 0), (0, 0), (0, 0), (8, 0), (9, 0), (9, 0), (8, 0)] r_p 11) < rxmRL_5 S0 ws S_p (r 8) (r 9) (r 10)
    rw [bx_val_x (n := 8) (e := (8, 0)) h0_ rfl, bx_val_x (n := 9) (e := (9, 0)) h0_ rfl, bx_val_x (n := 10) (e := (9, 0)) h0_ rfl, bx_val_x (n := 11) (e := (8, 0)) h0_ rfl, ← hr_ 8 (by decide), ← hr_ 9 (by decide), ← hr_ 10 (by decide)]
    exact g.2.2.2
theorem rxcRL_7_0 {S0 : Nat → Int → Int} {ws : List Int} {S : Nat → Int → Int} {which base i a zz : Int} (hP : rxPRL S0 ws) (hin : bx_same rxL (bx_mdl rxCRL.2.2.1) S0 S) (I0 : bx_Inv rxL S) (hinv : rxIRL_7 S0 ws S which base i a zz) (l8 : 0 ≤ which) (u8 : which ≤ 2) (l9 : 0 ≤ base) (u9 : base ≤ 88) (l10 : 0 ≤ i) (u10 : i ≤ 7) (l11 : 0 ≤ a) (u11 : a ≤ 95) (l12 : 0 ≤ zz) (u12 : zz ≤ 0) : (True) ∧ (True) ∧ rxIRL_5 S0 ws S which base (i + 1) ∧ rxmRL_5 S0 ws S which base (i + 1) < rxmRL_7 S0 ws S which base i a zz := by
  exact ⟨trivial, trivial, hinv, by unfold rxmRL_7 rxmRL_5; omega⟩
theorem rxgRL_7_0 {X : (Nat → Int → Int) → Prop} {S0 : Nat → Int → Int} {ws : List Int} (hP : rxPRL S0 ws) : bx_obC rxL X S0 rxCRL.2.2.1 (rxIRL S0 ws) (rxmRL S0 ws) 7 rxzRL_7 rxoRL_7_0 := by
  intro S S_p r r_p hinv hX hin hsm_ hseg
  obtain ⟨I0, I1, h0_, hr_, b_, f_, d_⟩ := bx_cl (evs := []) (fvs := []) hseg (by decide +kernel) (by decide +kernel)
  have hinv : rxIRL_7 S0 ws S (r 8) (r 9) (r 10) (r 11) (r 12) := hinv
  rw [← hr_ 8 (by decide), ← hr_ 9 (by decide), ← hr_ 10 (by decide), ← hr_ 11 (by decide), ← hr_ 12 (by decide)] at hinv
  obtain ⟨⟨l8, u8⟩, ⟨l9, u9⟩, ⟨l10, u10⟩, ⟨l11, u11⟩, ⟨l12, u12⟩, -⟩ := b_
  have w_ := d_
  subst w_
  have g := rxcRL_7_0 hP hin I0 hinv l8 u8 l9 u9 l10 u10 l11 u11 l12 u12
  refine ⟨bx_narP_ok (l := []) g.1, bx_nfP_ok h0_ (fvs := []) (by decide +kernel) g.2.1, ?_, ?_⟩
  · show rxIRL_5 S0 ws S_p (bx_val [(0, 0), (0, 0), (0, 0), (0, 0), (0, 0), (0, 0), (0, 0), (0, 0), (8, 0), (9, 0), (10, 1)] r_p 8) (bx_val [(0, 0), (0, 0), (0, 0), (0, 0), (0, 0), (0, 0), (0, 0), (0, 0), (8, 0), (9, 0), (10, 1)] r_p 9) (bx_val [(0, 0), (0, 0), (0, 0), (0, 0), (0, 0), (0, 0), (0, 0), (0, 0), (8, 0), (9, 0), (10, 1)] r_p 10)
    rw [bx_val_x (n := 8) (e := (8, 0)) h0_ rfl, bx_val_x (n := 9) (e := (9, 0)) h0_ rfl, bx_val_x (n := 10) (e := (10, 1)) h0_ rfl]
    exact g.2.2.1
  · show rxmRL_5 S0 ws S_p (bx_val [(0, 0), (0, 0), (0, 0), (0, 0), (0, 0), (0, 0), (0, 0), (0, 0), (8, 0), (9, 0), (10, 1)] r_p 8) (bx_val [(0, 0), (0, 0), (0, 0), (0, 0), (0, 0), (0, 0), (0, 0), (0, 0), (8, 0), (9, 0), (10, 1)] r_p 9) (bx_val [(0, 0), (0, 0), (0, 0), (0, 0), (0, 0), (0, 0), (0, 0), (0, 0), (8, 0), (9, 0), (10, 1)] r_p 10) < rxmRL_7 S0 ws S_p (r 8) (r 9) (r 10) (r 11) (r 12)
    rw [bx_val_x (n := 8) (e := (8, 0)) h0_ rfl, bx_val_x (n := 9) (e := (9, 0)) h0_ rfl, bx_val_x (n := 10) (e := (10, 1)) h0_ rfl, ← hr_ 8 (by decide), ← hr_ 9 (by decide), ← hr_ 10 (by decide), ← hr_ 11 (by decide), ← hr_ 12 (by decide)]
    exact g.2.2.2
theorem rxcRL_9_0 {S0 : Nat → Int → Int} {ws : List Int} {S : Nat → Int → Int} {which base a v x12 : Int} (hP : rxPRL S0 ws) (hin : bx_same rxL (bx_mdl rxCRL.2.2.1) S0 S) (I0 : bx_Inv rxL S) (hinv : rxIRL_9 S0 ws S which base a v) (l8 : 0 ≤ which) (u8 : which ≤ 2) (l9 : 0 ≤ base) (u9 : base ≤ 88) (l10 : 0 ≤ a) (u10 : a ≤ 88) (l11 : 0 ≤ v) (u11 : v ≤ 2) (l12 : 0 ≤ x12) (u12 : x12 ≤ 12) (e0 : S 480 16 = x12) : ((0 ≤ x12 ∧ x12 ≤ 11) ∧ True) ∧ (True) ∧ rxIRL_10 S0 ws S which base x12 ∧ rxmRL_10 S0 ws S which base x12 < rxmRL_9 S0 ws S which base a v := by
  have h : rxMq S0 S base := hinv
  have h16 := h.2.2.2.2
  exact ⟨⟨by omega, trivial⟩, trivial, ⟨h, by omega⟩, by unfold rxmRL_9 rxmRL_10; omega⟩
theorem rxgRL_9_0 {X : (Nat → Int → Int) → Prop} {S0 : Nat → Int → Int} {ws : List Int} (hP : rxPRL S0 ws) : bx_obC rxL X S0 rxCRL.2.2.1 (rxIRL S0 ws) (rxmRL S0 ws) 9 rxzRL_9 rxoRL_9_0 := by
  intro S S_p r r_p hinv hX hin hsm_ hseg
  obtain ⟨I0, I1, h0_, hr_, b_, f_, d_⟩ := bx_cl (evs := [(0, (0, 480), (0, 16), .inr (0, (12, 0)))]) (fvs := []) hseg (by decide +kernel) (by decide +kernel)
  have hinv : rxIRL_9 S0 ws S (r 8) (r 9) (r 10) (r 11) := hinv
  rw [← hr_ 8 (by decide), ← hr_ 9 (by decide), ← hr_ 10 (by decide), ← hr_ 11 (by decide)] at hinv
  obtain ⟨⟨l8, u8⟩, ⟨l9, u9⟩, ⟨l10, u10⟩, ⟨l11, u11⟩, ⟨l12, u12⟩, -⟩ := b_
  obtain ⟨e0, w_⟩ := d_
  subst w_
  have g := rxcRL_9_0 hP hin I0 hinv l8 u8 l9 u9 l10 u10 l11 u11 l12 u12 e0
  refine ⟨bx_narP_ok (l := [(12, 0, 11)]) g.1, bx_nfP_ok h0_ (fvs := []) (by decide +kernel) g.2.1, ?_, ?_⟩
  · show rxIRL_10 S0 ws S_p (bx_val [(0, 0), (0, 0), (0, 0), (0, 0), (0, 0), (0, 0), (0, 0), (0, 0), (8, 0), (9, 0), (12, 0)] r_p 8) (bx_val [(0, 0), (0, 0), (0, 0), (0, 0), (0, 0), (0, 0), (0, 0), (0, 0), (8, 0), (9, 0), (12, 0)] r_p 9) (bx_val [(0, 0), (0, 0), (0, 0), (0, 0), (0, 0), (0, 0), (0, 0), (0, 0), (8, 0), (9, 0), (12, 0)] r_p 10)
    rw [bx_val_x (n := 8) (e := (8, 0)) h0_ rfl, bx_val_x (n := 9) (e := (9, 0)) h0_ rfl, bx_val_x (n := 10) (e := (12, 0)) h0_ rfl]
    exact g.2.2.1
  · show rxmRL_10 S0 ws S_p (bx_val [(0, 0), (0, 0), (0, 0), (0, 0), (0, 0), (0, 0), (0, 0), (0, 0), (8, 0), (9, 0), (12, 0)] r_p 8) (bx_val [(0, 0), (0, 0), (0, 0), (0, 0), (0, 0), (0, 0), (0, 0), (0, 0), (8, 0), (9, 0), (12, 0)] r_p 9) (bx_val [(0, 0), (0, 0), (0, 0), (0, 0), (0, 0), (0, 0), (0, 0), (0, 0), (8, 0), (9, 0), (12, 0)] r_p 10) < rxmRL_9 S0 ws S_p (r 8) (r 9) (r 10) (r 11)
    rw [bx_val_x (n := 8) (e := (8, 0)) h0_ rfl, bx_val_x (n := 9) (e := (9, 0)) h0_ rfl, bx_val_x (n := 10) (e := (12, 0)) h0_ rfl, ← hr_ 8 (by decide), ← hr_ 9 (by decide), ← hr_ 10 (by decide), ← hr_ 11 (by decide)]
    exact g.2.2.2
theorem rxcRL_10_0 {S0 : Nat → Int → Int} {ws : List Int} {S : Nat → Int → Int} {which base nc x11 : Int} (hP : rxPRL S0 ws) (hin : bx_same rxL (bx_mdl rxCRL.2.2.1) S0 S) (I0 : bx_Inv rxL S) (hinv : rxIRL_10 S0 ws S which base nc) (l8 : 0 ≤ which) (u8 : which ≤ 2) (l9 : 0 ≤ base) (u9 : base ≤ 88) (l10 : 0 ≤ nc) (u10 : nc ≤ 11) (l11 : 0 ≤ x11) (u11 : x11 ≤ 400) (e0 : (bx_up S 480 16 (nc + 1)) 480 18 = x11) : (True) ∧ (True) ∧ rxIRL_11 S0 ws (bx_up S 480 16 (nc + 1)) which base (base + 3) x11 ∧ rxmRL_11 S0 ws (bx_up S 480 16 (nc + 1)) which base (base + 3) x11 < rxmRL_10 S0 ws S which base nc := by
  obtain ⟨h, rfl⟩ := hinv
  have h18 := h.2.1.1
  simp [bx_up] at e0
  exact ⟨trivial, trivial, ⟨by omega, by omega, S, h, rfl⟩, by unfold rxmRL_10 rxmRL_11; omega⟩
theorem rxgRL_10_0 {X : (Nat → Int → Int) → Prop} {S0 : Nat → Int → Int} {ws : List Int} (hP : rxPRL S0 ws) : bx_obC rxL X S0 rxCRL.2.2.1 (rxIRL S0 ws) (rxmRL S0 ws) 10 rxzRL_10 rxoRL_10_0 := by
  intro S S_p r r_p hinv hX hin hsm_ hseg
  obtain ⟨I0, I1, h0_, hr_, b_, f_, d_⟩ := bx_cl (evs := [(0, (0, 480), (0, 18), .inr (0, (11, 0))), (1, (0, 480), (0, 16), .inr (0, (10, 1)))]) (fvs := []) hseg (by decide +kernel) (by decide +kernel)
  have hinv : rxIRL_10 S0 ws S (r 8) (r 9) (r 10) := hinv
  rw [← hr_ 8 (by decide), ← hr_ 9 (by decide), ← hr_ 10 (by decide)] at hinv
  obtain ⟨⟨l8, u8⟩, ⟨l9, u9⟩, ⟨l10, u10⟩, ⟨l11, u11⟩, -⟩ := b_
  obtain ⟨e0, ⟨T1, w_, w1⟩⟩ := d_
  subst w1
  subst w_
  have g := rxcRL_10_0 hP hin I0 hinv l8 u8 l9 u9 l10 u10 l11 u11 e0
  refine ⟨bx_narP_ok (l := []) g.1, bx_nfP_ok h0_ (fvs := []) (by decide +kernel) g.2.1, ?_, ?_⟩
  · show rxIRL_11 S0 ws (bx_up T1 480 (16) (r_p 10 + 1)) (bx_val [(0, 0), (0, 0), (0, 0), (0, 0), (0, 0), (0, 0), (0, 0), (0, 0), (8, 0), (9, 0), (9, 3), (11, 0)] r_p 8) (bx_val [(0, 0), (0, 0), (0, 0), (0, 0), (0, 0), (0, 0), (0, 0), (0, 0), (8, 0), (9, 0), (9, 3), (11, 0)] r_p 9) (bx_val [(0, 0), (0, 0), (0, 0), (0, 0), (0, 0), (0, 0), (0, 0), (0, 0), (8, 0), (9, 0), (9, 3), (11, 0)] r_p 10) (bx_val [(0, 0), (0, 0), (0, 0), (0, 0), (0, 0), (0, 0), (0, 0), (0, 0), (8, 0), (9, 0), (9, 3), (11, 0)] r_p 11)
    rw [bx_val_x (n := 8) (e := (8, 0)) h0_ rfl, bx_val_x (n := 9) (e := (9, 0)) h0_ rfl, bx_val_x (n := 10) (e := (9, 3)) h0_ rfl, bx_val_x (n := 11) (e := (11, 0)) h0_ rfl]
    exact g.2.2.1
  · show rxmRL_11 S0 ws (bx_up T1 480 (16) (r_p 10 + 1)) (bx_val [(0, 0), (0, 0), (0, 0), (0, 0), (0, 0), (0, 0), (0, 0), (0, 0), (8, 0), (9, 0), (9, 3), (11, 0)] r_p 8) (bx_val [(0, 0), (0, 0), (0, 0), (0, 0), (0, 0), (0, 0), (0, 0), (0, 0), (8, 0), (9, 0), (9, 3), (11, 0)] r_p 9) (bx_val [(0, 0), (0, 0), (0, 0), (0, 0), (0, 0), (0, 0), (0, 0), (0, 0), (8, 0), (9, 0), (9, 3), (11, 0)] r_p 10) (bx_val [(0, 0), (0, 0), (0, 0), (0, 0), (0, 0), (0, 0), (0, 0), (0, 0), (8, 0), (9, 0), (9, 3), (11, 0)] r_p 11) < rxmRL_10 S0 ws T1 (r 8) (r 9) (r 10)
    rw [bx_val_x (n := 8) (e := (8, 0)) h0_ rfl, bx_val_x (n := 9) (e := (9, 0)) h0_ rfl, bx_val_x (n := 10) (e := (9, 3)) h0_ rfl, bx_val_x (n := 11) (e := (11, 0)) h0_ rfl, ← hr_ 8 (by decide), ← hr_ 9 (by decide), ← hr_ 10 (by decide)]
    exact g.2.2.2
theorem rxcRL_12_0 {S0 : Nat → Int → Int} {ws : List Int} {S : Nat → Int → Int} {which base a v : Int} (hP : rxPRL S0 ws) (hin : bx_same rxL (bx_mdl rxCRL.2.2.1) S0 S) (I0 : bx_Inv rxL S) (hinv : rxIRL_12 S0 ws S which base a v) (l8 : 0 ≤ which) (u8 : which ≤ 1) (l9 : 0 ≤ base) (u9 : base ≤ 88) (l10 : 3 ≤ a) (u10 : a ≤ 91) (l11 : 0 ≤ v) (u11 : v ≤ 400) (f0 : which ≠ 2) : (True) ∧ (True) ∧ rxIRL_13 S0 ws S base ∧ rxmRL_13 S0 ws S base < rxmRL_12 S0 ws S which base a v := by
  obtain ⟨h1, h2, h3⟩ := hinv
  exact ⟨trivial, trivial, ⟨h1, h2, h3⟩, by unfold rxmRL_12 rxmRL_13; omega⟩
theorem rxgRL_12_0 {X : (Nat → Int → Int) → Prop} {S0 : Nat → Int → Int} {ws : List Int} (hP : rxPRL S0 ws) : bx_obC rxL X S0 rxCRL.2.2.1 (rxIRL S0 ws) (rxmRL S0 ws) 12 rxzRL_12 rxoRL_12_0 := by
  intro S S_p r r_p hinv hX hin hsm_ hseg
  obtain ⟨I0, I1, h0_, hr_, b_, f_, d_⟩ := bx_cl (evs := []) (fvs := [(3, (8, 0), (0, 2), (0, 0))]) hseg (by decide +kernel) (by decide +kernel)
  have hinv : rxIRL_12 S0 ws S (r 8) (r 9) (r 10) (r 11) := hinv
  rw [← hr_ 8 (by decide), ← hr_ 9 (by decide), ← hr_ 10 (by decide), ← hr_ 11 (by decide)] at hinv
  obtain ⟨⟨l8, u8⟩, ⟨l9, u9⟩, ⟨l10, u10⟩, ⟨l11, u11⟩, -⟩ := b_
  obtain ⟨f0, -⟩ := f_
  have w_ := d_
  subst w_
  have g := rxcRL_12_0 hP hin I0 hinv l8 u8 l9 u9 l10 u10 l11 u11 f0
  refine ⟨bx_narP_ok (l := []) g.1, bx_nfP_ok h0_ (fvs := []) (by decide +kernel) g.2.1, ?_, ?_⟩
  · show rxIRL_13 S0 ws S_p (bx_val [(0, 0), (0, 0), (0, 0), (0, 0), (0, 0), (0, 0), (0, 0), (0, 0), (9, 0)] r_p 8)
    rw [bx_val_x (n := 8) (e := (9, 0)) h0_ rfl]
    exact g.2.2.1
  · show rxmRL_13 S0 ws S_p (bx_val [(0, 0), (0, 0), (0, 0), (0, 0), (0, 0), (0, 0), (0, 0), (0, 0), (9, 0)] r_p 8) < rxmRL_12 S0 ws S_p (r 8) (r 9) (r 10) (r 11)
    rw [bx_val_x (n := 8) (e := (9, 0)) h0_ rfl, ← hr_ 8 (by decide), ← hr_ 9 (by decide), ← hr_ 10 (by decide), ← hr_ 11 (by decide)]
    exact g.2.2.2
theorem rxcRL_12_1 {S0 : Nat → Int → Int} {ws : List Int} {S : Nat → Int → Int} {which base a v x12 : Int} (hP : rxPRL S0 ws) (hin : bx_same rxL (bx_mdl rxCRL.2.2.1) S0 S) (I0 : bx_Inv rxL S) (hinv : rxIRL_12 S0 ws S which base a v) (l8 : 2 ≤ which) (u8 : which ≤ 2) (l9 : 0 ≤ base) (u9 : base ≤ 88) (l10 : 3 ≤ a) (u10 : a ≤ 91) (l11 : 0 ≤ v) (u11 : v ≤ 400) (l12 : 0 ≤ x12) (u12 : x12 ≤ 400) (e0 : S 480 18 = x12) : (True) ∧ (True) ∧ rxIRL_15 S0 ws S base (base + 4) x12 ∧ rxmRL_15 S0 ws S base (base + 4) x12 < rxmRL_12 S0 ws S which base a v := by
  obtain ⟨h1, h2, h3⟩ := hinv
  exact ⟨trivial, trivial, ⟨h1, by omega, by omega⟩, by unfold rxmRL_12 rxmRL_15; omega⟩
theorem rxgRL_12_1 {X : (Nat → Int → Int) → Prop} {S0 : Nat → Int → Int} {ws : List Int} (hP : rxPRL S0 ws) : bx_obC rxL X S0 rxCRL.2.2.1 (rxIRL S0 ws) (rxmRL S0 ws) 12 rxzRL_12 rxoRL_12_1 := by
  intro S S_p r r_p hinv hX hin hsm_ hseg
  obtain ⟨I0, I1, h0_, hr_, b_, f_, d_⟩ := bx_cl (evs := [(0, (0, 480), (0, 18), .inr (0, (12, 0)))]) (fvs := []) hseg (by decide +kernel) (by decide +kernel)
  have hinv : rxIRL_12 S0 ws S (r 8) (r 9) (r 10) (r 11) := hinv
  rw [← hr_ 8 (by decide), ← hr_ 9 (by decide), ← hr_ 10 (by decide), ← hr_ 11 (by decide)] at hinv
  obtain ⟨⟨l8, u8⟩, ⟨l9, u9⟩, ⟨l10, u10⟩, ⟨l11, u11⟩, ⟨l12, u12⟩, -⟩ := b_
  obtain ⟨e0, w_⟩ := d_
  subst w_
  have g := rxcRL_12_1 hP hin I0 hinv l8 u8 l9 u9 l10 u10 l11 u11 l12 u12 e0
  refine ⟨bx_narP_ok (l := []) g.1, bx_nfP_ok h0_ (fvs := []) (by decide +kernel) g.2.1, ?_, ?_⟩
  · show rxIRL_15 S0 ws S_p (bx_val [(0, 0), (0, 0), (0, 0), (0, 0), (0, 0), (0, 0), (0, 0), (0, 0), (9, 0), (9, 4), (12, 0)] r_p 8) (bx_val [(0, 0), (0, 0), (0, 0), (0, 0), (0, 0), (0, 0), (0, 0), (0, 0), (9, 0), (9, 4), (12, 0)] r_p 9) (bx_val [(0, 0), (0, 0), (0, 0), (0, 0), (0, 0), (0, 0), (0, 0), (0, 0), (9, 0), (9, 4), (12, 0)] r_p 10)
    rw [bx_val_x (n := 8) (e := (9, 0)) h0_ rfl, bx_val_x (n := 9) (e := (9, 4)) h0_ rfl, bx_val_x (n := 10) (e := (12, 0)) h0_ rfl]
    exact g.2.2.1
  · show rxmRL_15 S0 ws S_p (bx_val [(0, 0), (0, 0), (0, 0), (0, 0), (0, 0), (0, 0), (0, 0), (0, 0), (9, 0), (9, 4), (12, 0)] r_p 8) (bx_val [(0, 0), (0, 0), (0, 0), (0, 0), (0, 0), (0, 0), (0, 0), (0, 0), (9, 0), (9, 4), (12, 0)] r_p 9) (bx_val [(0, 0), (0, 0), (0, 0), (0, 0), (0, 0), (0, 0), (0, 0), (0, 0), (9, 0), (9, 4), (12, 0)] r_p 10) < rxmRL_12 S0 ws S_p (r 8) (r 9) (r 10) (r 11)
    rw [bx_val_x (n := 8) (e := (9, 0)) h0_ rfl, bx_val_x (n := 9) (e := (9, 4)) h0_ rfl, bx_val_x (n := 10) (e := (12, 0)) h0_ rfl, ← hr_ 8 (by decide), ← hr_ 9 (by decide), ← hr_ 10 (by decide), ← hr_ 11 (by decide)]
    exact g.2.2.2
theorem rxcRL_14_0 {S0 : Nat → Int → Int} {ws : List Int} {S : Nat → Int → Int} {base x9 : Int} (hP : rxPRL S0 ws) (hin : bx_same rxL (bx_mdl rxCRL.2.2.1) S0 S) (I0 : bx_Inv rxL S) (hinv : rxIRL_14 S0 ws S base) (l8 : 0 ≤ base) (u8 : base ≤ 88) (l9 : 0 ≤ x9) (u9 : x9 ≤ 400) (e0 : S 480 18 = x9) : (True) ∧ (True) ∧ rxIRL_15 S0 ws S base (base + 4) x9 ∧ rxmRL_15 S0 ws S base (base + 4) x9 < rxmRL_14 S0 ws S base := by
  exact ⟨trivial, trivial, ⟨hinv, by omega, by omega⟩, by unfold rxmRL_14 rxmRL_15; omega⟩
theorem rxgRL_14_0 {X : (Nat → Int → Int) → Prop} {S0 : Nat → Int → Int} {ws : List Int} (hP : rxPRL S0 ws) : bx_obC rxL X S0 rxCRL.2.2.1 (rxIRL S0 ws) (rxmRL S0 ws) 14 rxzRL_14 rxoRL_14_0 := by
  intro S S_p r r_p hinv hX hin hsm_ hseg
  obtain ⟨I0, I1, h0_, hr_, b_, f_, d_⟩ := bx_cl (evs := [(0, (0, 480), (0, 18), .inr (0, (9, 0)))]) (fvs := []) hseg (by decide +kernel) (by decide +kernel)
  have hinv : rxIRL_14 S0 ws S (r 8) := hinv
  rw [← hr_ 8 (by decide)] at hinv
  obtain ⟨⟨l8, u8⟩, ⟨l9, u9⟩, -⟩ := b_
  obtain ⟨e0, w_⟩ := d_
  subst w_
  have g := rxcRL_14_0 hP hin I0 hinv l8 u8 l9 u9 e0
  refine ⟨bx_narP_ok (l := []) g.1, bx_nfP_ok h0_ (fvs := []) (by decide +kernel) g.2.1, ?_, ?_⟩
  · show rxIRL_15 S0 ws S_p (bx_val [(0, 0), (0, 0), (0, 0), (0, 0), (0, 0), (0, 0), (0, 0), (0, 0), (8, 0), (8, 4), (9, 0)] r_p 8) (bx_val [(0, 0), (0, 0), (0, 0), (0, 0), (0, 0), (0, 0), (0, 0), (0, 0), (8, 0), (8, 4), (9, 0)] r_p 9) (bx_val [(0, 0), (0, 0), (0, 0), (0, 0), (0, 0), (0, 0), (0, 0), (0, 0), (8, 0), (8, 4), (9, 0)] r_p 10)
    rw [bx_val_x (n := 8) (e := (8, 0)) h0_ rfl, bx_val_x (n := 9) (e := (8, 4)) h0_ rfl, bx_val_x (n := 10) (e := (9, 0)) h0_ rfl]
    exact g.2.2.1
  · show rxmRL_15 S0 ws S_p (bx_val [(0, 0), (0, 0), (0, 0), (0, 0), (0, 0), (0, 0), (0, 0), (0, 0), (8, 0), (8, 4), (9, 0)] r_p 8) (bx_val [(0, 0), (0, 0), (0, 0), (0, 0), (0, 0), (0, 0), (0, 0), (0, 0), (8, 0), (8, 4), (9, 0)] r_p 9) (bx_val [(0, 0), (0, 0), (0, 0), (0, 0), (0, 0), (0, 0), (0, 0), (0, 0), (8, 0), (8, 4), (9, 0)] r_p 10) < rxmRL_14 S0 ws S_p (r 8)
    rw [bx_val_x (n := 8) (e := (8, 0)) h0_ rfl, bx_val_x (n := 9) (e := (8, 4)) h0_ rfl, bx_val_x (n := 10) (e := (9, 0)) h0_ rfl, ← hr_ 8 (by decide)]
    exact g.2.2.2
theorem rxcRL_16_0 {S0 : Nat → Int → Int} {ws : List Int} {S : Nat → Int → Int} {base a v x11 : Int} (hP : rxPRL S0 ws) (hin : bx_same rxL (bx_mdl rxCRL.2.2.1) S0 S) (I0 : bx_Inv rxL S) (hinv : rxIRL_16 S0 ws S base a v) (l8 : 0 ≤ base) (u8 : base ≤ 88) (l9 : 4 ≤ a) (u9 : a ≤ 92) (l10 : 0 ≤ v) (u10 : v ≤ 400) (l11 : 0 ≤ x11) (u11 : x11 ≤ 400) (e0 : S 480 18 = x11) : (True) ∧ (True) ∧ rxIRL_17 S0 ws S base (base + 5) x11 ∧ rxmRL_17 S0 ws S base (base + 5) x11 < rxmRL_16 S0 ws S base a v := by
  obtain ⟨h1, h2⟩ := hinv
  exact ⟨trivial, trivial, ⟨h1, h2, by omega, by omega⟩, by unfold rxmRL_16 rxmRL_17; omega⟩
theorem rxgRL_16_0 {X : (Nat → Int → Int) → Prop} {S0 : Nat → Int → Int} {ws : List Int} (hP : rxPRL S0 ws) : bx_obC rxL X S0 rxCRL.2.2.1 (rxIRL S0 ws) (rxmRL S0 ws) 16 rxzRL_16 rxoRL_16_0 := by
  intro S S_p r r_p hinv hX hin hsm_ hseg
  obtain ⟨I0, I1, h0_, hr_, b_, f_, d_⟩ := bx_cl (evs := [(0, (0, 480), (0, 18), .inr (0, (11, 0)))]) (fvs := []) hseg (by decide +kernel) (by decide +kernel)
  have hinv : rxIRL_16 S0 ws S (r 8) (r 9) (r 10) := hinv
  rw [← hr_ 8 (by decide), ← hr_ 9 (by decide), ← hr_ 10 (by decide)] at hinv
  obtain ⟨⟨l8, u8⟩, ⟨l9, u9⟩, ⟨l10, u10⟩, ⟨l11, u11⟩, -⟩ := b_
  obtain ⟨e0, w_⟩ := d_
  subst w_
  have g := rxcRL_16_0 hP hin I0 hinv l8 u8 l9 u9 l10 u10 l11 u11 e0
  refine ⟨bx_narP_ok (l := []) g.1, bx_nfP_ok h0_ (fvs := []) (by decide +kernel) g.2.1, ?_, ?_⟩
  · show rxIRL_17 S0 ws S_p (bx_val [(0, 0), (0, 0), (0, 0), (0, 0), (0, 0), (0, 0), (0, 0), (0, 0), (8, 0), (8, 5), (11, 0)] r_p 8) (bx_val [(0, 0), (0, 0), (0, 0), (0, 0), (0, 0), (0, 0), (0, 0), (0, 0), (8, 0), (8, 5), (11, 0)] r_p 9) (bx_val [(0, 0), (0, 0), (0, 0), (0, 0), (0, 0), (0, 0), (0, 0), (0, 0), (8, 0), (8, 5), (11, 0)] r_p 10)
    rw [bx_val_x (n := 8) (e := (8, 0)) h0_ rfl, bx_val_x (n := 9) (e := (8, 5)) h0_ rfl, bx_val_x (n := 10) (e := (11, 0)) h0_ rfl]
    exact g.2.2.1
  · show rxmRL_17 S0 ws S_p (bx_val [(0, 0), (0, 0), (0, 0), (0, 0), (0, 0), (0, 0), (0, 0), (0, 0), (8, 0), (8, 5), (11, 0)] r_p 8) (bx_val [(0, 0), (0, 0), (0, 0), (0, 0), (0, 0), (0, 0), (0, 0), (0, 0), (8, 0), (8, 5), (11, 0)] r_p 9) (bx_val [(0, 0), (0, 0), (0, 0), (0, 0), (0, 0), (0, 0), (0, 0), (0, 0), (8, 0), (8, 5), (11, 0)] r_p 10) < rxmRL_16 S0 ws S_p (r 8) (r 9) (r 10)
    rw [bx_val_x (n := 8) (e := (8, 0)) h0_ rfl, bx_val_x (n := 9) (e := (8, 5)) h0_ rfl, bx_val_x (n := 10) (e := (11, 0)) h0_ rfl, ← hr_ 8 (by decide), ← hr_ 9 (by decide), ← hr_ 10 (by decide)]
    exact g.2.2.2
theorem rxcRL_18_0 {S0 : Nat → Int → Int} {ws : List Int} {S : Nat → Int → Int} {base a v x11 x12 x13 : Int} (hP : rxPRL S0 ws) (hin : bx_same rxL (bx_mdl rxCRL.2.2.1) S0 S) (I0 : bx_Inv rxL S) (hinv : rxIRL_18 S0 ws S base a v) (l8 : 0 ≤ base) (u8 : base ≤ 88) (l9 : 5 ≤ a) (u9 : a ≤ 93) (l10 : 0 ≤ v) (u10 : v ≤ 400) (l11 : 0 ≤ x11) (u11 : x11 ≤ 0) (l12 : 0 ≤ x12) (u12 : x12 ≤ 3) (l13 : 0 ≤ x13) (u13 : x13 ≤ 400) (f0 : x12 ≠ 1) (e2 : S 480 14 = x11) (e1 : S 480 11 = x12) (e0 : S 480 18 = x13) : (True) ∧ (True) ∧ rxIRL_23 S0 ws S base (base + 6) x13 ∧ rxmRL_23 S0 ws S base (base + 6) x13 < rxmRL_18 S0 ws S base a v := by
  obtain ⟨m, h1, h2⟩ := hinv
  exact ⟨trivial, trivial, ⟨by omega, by omega, m, h1⟩, by unfold rxmRL_18 rxmRL_23; omega⟩
theorem rxgRL_18_0 {X : (Nat → Int → Int) → Prop} {S0 : Nat → Int → Int} {ws : List Int} (hP : rxPRL S0 ws) : bx_obC rxL X S0 rxCRL.2.2.1 (rxIRL S0 ws) (rxmRL S0 ws) 18 rxzRL_18 rxoRL_18_0 := by
  intro S S_p r r_p hinv hX hin hsm_ hseg
  obtain ⟨I0, I1, h0_, hr_, b_, f_, d_⟩ := bx_cl (evs := [(0, (0, 480), (0, 18), .inr (0, (13, 0))), (0, (0, 480), (0, 11), .inr (0, (12, 0))), (0, (0, 480), (0, 14), .inr (0, (11, 0)))]) (fvs := [(3, (12, 0), (0, 1), (0, 0))]) hseg (by decide +kernel) (by decide +kernel)
  have hinv : rxIRL_18 S0 ws S (r 8) (r 9) (r 10) := hinv
  rw [← hr_ 8 (by decide), ← hr_ 9 (by decide), ← hr_ 10 (by decide)] at hinv
  obtain ⟨⟨l8, u8⟩, ⟨l9, u9⟩, ⟨l10, u10⟩, ⟨l11, u11⟩, ⟨l12, u12⟩, ⟨l13, u13⟩, -⟩ := b_
  obtain ⟨f0, -⟩ := f_
  obtain ⟨e0, ⟨e1, ⟨e2, w_⟩⟩⟩ := d_
  subst w_
  have g := rxcRL_18_0 hP hin I0 hinv l8 u8 l9 u9 l10 u10 l11 u11 l12 u12 l13 u13 f0 e2 e1 e0
  refine ⟨bx_narP_ok (l := []) g.1, bx_nfP_ok h0_ (fvs := []) (by decide +kernel) g.2.1, ?_, ?_⟩
  · show rxIRL_23 S0 ws S_p (bx_val [(0, 0), (0, 0), (0, 0), (0, 0), (0, 0), (0, 0), (0, 0), (0, 0), (8, 0), (8, 6), (13, 0)] r_p 8) (bx_val [(0, 0), (0, 0), (0, 0), (0, 0), (0, 0), (0, 0), (0, 0), (0, 0), (8, 0), (8, 6), (13, 0)] r_p 9) (bx_val [(0, 0), (0, 0), (0, 0), (0, 0), (0, 0), (0, 0), (0, 0), (0, 0), (8, 0), (8, 6), (13, 0)] r_p 10)
    rw [bx_val_x (n := 8) (e := (8, 0)) h0_ rfl, bx_val_x (n := 9) (e := (8, 6)) h0_ rfl, bx_val_x (n := 10) (e := (13, 0)) h0_ rfl]
    exact g.2.2.1
  · show rxmRL_23 S0 ws S_p (bx_val [(0, 0), (0, 0), (0, 0), (0, 0), (0, 0), (0, 0), (0, 0), (0, 0), (8, 0), (8, 6), (13, 0)] r_p 8) (bx_val [(0, 0), (0, 0), (0, 0), (0, 0), (0, 0), (0, 0), (0, 0), (0, 0), (8, 0), (8, 6), (13, 0)] r_p 9) (bx_val [(0, 0), (0, 0), (0, 0), (0, 0), (0, 0), (0, 0), (0, 0), (0, 0), (8, 0), (8, 6), (13, 0)] r_p 10) < rxmRL_18 S0 ws S_p (r 8) (r 9) (r 10)
    rw [bx_val_x (n := 8) (e := (8, 0)) h0_ rfl, bx_val_x (n := 9) (e := (8, 6)) h0_ rfl, bx_val_x (n := 10) (e := (13, 0)) h0_ rfl, ← hr_ 8 (by decide), ← hr_ 9 (by decide), ← hr_ 10 (by decide)]
    exact g.2.2.2
theorem rxcRL_18_1 {S0 : Nat → Int → Int} {ws : List Int} {S : Nat → Int → Int} {base a v x11 x12 x13 x14 : Int} (hP : rxPRL S0 ws) (hin : bx_same rxL (bx_mdl rxCRL.2.2.1) S0 S) (I0 : bx_Inv rxL S) (hinv : rxIRL_18 S0 ws S base a v) (l8 : 0 ≤ base) (u8 : base ≤ 88) (l9 : 5 ≤ a) (u9 : a ≤ 93) (l10 : 0 ≤ v) (u10 : v ≤ 400) (l11 : 0 ≤ x11) (u11 : x11 ≤ 0) (l12 : 1 ≤ x12) (u12 : x12 ≤ 1) (l13 : (-9223372036854775808) ≤ x13) (u13 : x13 ≤ 9223372036854775807) (l14 : 0 ≤ x14) (u14 : x14 ≤ 400) (f0 : x13 ≠ 294) (e3 : S 480 14 = x11) (e2 : S 480 11 = x12) (e1 : S 480 12 = x13) (e0 : S 480 18 = x14) : (True) ∧ (True) ∧ rxIRL_23 S0 ws S base (base + 6) x14 ∧ rxmRL_23 S0 ws S base (base + 6) x14 < rxmRL_18 S0 ws S base a v := by
  obtain ⟨m, h1, h2⟩ := hinv
  exact ⟨trivial, trivial, ⟨by omega, by omega, m, h1⟩, by unfold rxmRL_18 rxmRL_23; omega⟩
theorem rxgRL_18_1 {X : (Nat → Int → Int) → Prop} {S0 : Nat → Int → Int} {ws : List Int} (hP : rxPRL S0 ws) : bx_obC rxL X S0 rxCRL.2.2.1 (rxIRL S0 ws) (rxmRL S0 ws) 18 rxzRL_18 rxoRL_18_1 := by
  intro S S_p r r_p hinv hX hin hsm_ hseg
  obtain ⟨I0, I1, h0_, hr_, b_, f_, d_⟩ := bx_cl (evs := [(0, (0, 480), (0, 18), .inr (0, (14, 0))), (0, (0, 480), (0, 12), .inr (1, (13, 0))), (0, (0, 480), (0, 11), .inr (0, (12, 0))), (0, (0, 480), (0, 14), .inr (0, (11, 0)))]) (fvs := [(3, (13, 0), (0, 294), (0, 0))]) hseg (by decide +kernel) (by decide +kernel)
  have hinv : rxIRL_18 S0 ws S (r 8) (r 9) (r 10) := hinv
  rw [← hr_ 8 (by decide), ← hr_ 9 (by decide), ← hr_ 10 (by decide)] at hinv
  obtain ⟨⟨l8, u8⟩, ⟨l9, u9⟩, ⟨l10, u10⟩, ⟨l11, u11⟩, ⟨l12, u12⟩, ⟨l13, u13⟩, ⟨l14, u14⟩, -⟩ := b_
  obtain ⟨f0, -⟩ := f_
  obtain ⟨e0, ⟨e1, ⟨e2, ⟨e3, w_⟩⟩⟩⟩ := d_
  subst w_
  have g := rxcRL_18_1 hP hin I0 hinv l8 u8 l9 u9 l10 u10 l11 u11 l12 u12 l13 u13 l14 u14 f0 e3 e2 e1 e0
  refine ⟨bx_narP_ok (l := []) g.1, bx_nfP_ok h0_ (fvs := []) (by decide +kernel) g.2.1, ?_, ?_⟩
  · show rxIRL_23 S0 ws S_p (bx_val [(0, 0), (0, 0), (0, 0), (0, 0), (0, 0), (0, 0), (0, 0), (0, 0), (8, 0), (8, 6), (14, 0)] r_p 8) (bx_val [(0, 0), (0, 0), (0, 0), (0, 0), (0, 0), (0, 0), (0, 0), (0, 0), (8, 0), (8, 6), (14, 0)] r_p 9) (bx_val [(0, 0), (0, 0), (0, 0), (0, 0), (0, 0), (0, 0), (0, 0), (0, 0), (8, 0), (8, 6), (14, 0)] r_p 10)
    rw [bx_val_x (n := 8) (e := (8, 0)) h0_ rfl, bx_val_x (n := 9) (e := (8, 6)) h0_ rfl, bx_val_x (n := 10) (e := (14, 0)) h0_ rfl]
    exact g.2.2.1
  · show rxmRL_23 S0 ws S_p (bx_val [(0, 0), (0, 0), (0, 0), (0, 0), (0, 0), (0, 0), (0, 0), (0, 0), (8, 0), (8, 6), (14, 0)] r_p 8) (bx_val [(0, 0), (0, 0), (0, 0), (0, 0), (0, 0), (0, 0), (0, 0), (0, 0), (8, 0), (8, 6), (14, 0)] r_p 9) (bx_val [(0, 0), (0, 0), (0, 0), (0, 0), (0, 0), (0, 0), (0, 0), (0, 0), (8, 0), (8, 6), (14, 0)] r_p 10) < rxmRL_18 S0 ws S_p (r 8) (r 9) (r 10)
    rw [bx_val_x (n := 8) (e := (8, 0)) h0_ rfl, bx_val_x (n := 9) (e := (8, 6)) h0_ rfl, bx_val_x (n := 10) (e := (14, 0)) h0_ rfl, ← hr_ 8 (by decide), ← hr_ 9 (by decide), ← hr_ 10 (by decide)]
    exact g.2.2.2
theorem rxcRL_18_2 {S0 : Nat → Int → Int} {ws : List Int} {S : Nat → Int → Int} {base a v x11 x12 x13 : Int} (hP : rxPRL S0 ws) (hin : bx_same rxL (bx_mdl rxCRL.2.2.1) S0 S) (I0 : bx_Inv rxL S) (hinv : rxIRL_18 S0 ws S base a v) (l8 : 0 ≤ base) (u8 : base ≤ 88) (l9 : 5 ≤ a) (u9 : a ≤ 93) (l10 : 0 ≤ v) (u10 : v ≤ 400) (l11 : 0 ≤ x11) (u11 : x11 ≤ 0) (l12 : 1 ≤ x12) (u12 : x12 ≤ 1) (l13 : 294 ≤ x13) (u13 : x13 ≤ 294) (e2 : S 480 14 = x11) (e1 : S 480 11 = x12) (e0 : S 480 12 = x13) : (True) ∧ (True) ∧ rxIRL_19 S0 ws S base ∧ rxmRL_19 S0 ws S base < rxmRL_18 S0 ws S base a v := by
  exact ⟨trivial, trivial, ⟨by omega, hinv⟩, by unfold rxmRL_18 rxmRL_19; omega⟩
theorem rxgRL_18_2 {X : (Nat → Int → Int) → Prop} {S0 : Nat → Int → Int} {ws : List Int} (hP : rxPRL S0 ws) : bx_obC rxL X S0 rxCRL.2.2.1 (rxIRL S0 ws) (rxmRL S0 ws) 18 rxzRL_18 rxoRL_18_2 := by
  intro S S_p r r_p hinv hX hin hsm_ hseg
  obtain ⟨I0, I1, h0_, hr_, b_, f_, d_⟩ := bx_cl (evs := [(0, (0, 480), (0, 12), .inr (1, (13, 0))), (0, (0, 480), (0, 11), .inr (0, (12, 0))), (0, (0, 480), (0, 14), .inr (0, (11, 0)))]) (fvs := []) hseg (by decide +kernel) (by decide +kernel)
  have hinv : rxIRL_18 S0 ws S (r 8) (r 9) (r 10) := hinv
  rw [← hr_ 8 (by decide), ← hr_ 9 (by decide), ← hr_ 10 (by decide)] at hinv
  obtain ⟨⟨l8, u8⟩, ⟨l9, u9⟩, ⟨l10, u10⟩, ⟨l11, u11⟩, ⟨l12, u12⟩, ⟨l13, u13⟩, -⟩ := b_
  obtain ⟨e0, ⟨e1, ⟨e2, w_⟩⟩⟩ := d_
  subst w_
  have g := rxcRL_18_2 hP hin I0 hinv l8 u8 l9 u9 l10 u10 l11 u11 l12 u12 l13 u13 e2 e1 e0
  refine ⟨bx_narP_ok (l := []) g.1, bx_nfP_ok h0_ (fvs := []) (by decide +kernel) g.2.1, ?_, ?_⟩
  · show rxIRL_19 S0 ws S_p (bx_val [(0, 0), (0, 0), (0, 0), (0, 0), (0, 0), (0, 0), (0, 0), (0, 0), (8, 0)] r_p 8)
    rw [bx_val_x (n := 8) (e := (8, 0)) h0_ rfl]
    exact g.2.2.1
  · show rxmRL_19 S0 ws S_p (bx_val [(0, 0), (0, 0), (0, 0), (0, 0), (0, 0), (0, 0), (0, 0), (0, 0), (8, 0)] r_p 8) < rxmRL_18 S0 ws S_p (r 8) (r 9) (r 10)
    rw [bx_val_x (n := 8) (e := (8, 0)) h0_ rfl, ← hr_ 8 (by decide), ← hr_ 9 (by decide), ← hr_ 10 (by decide)]
    exact g.2.2.2
theorem rxcRL_18_3 {S0 : Nat → Int → Int} {ws : List Int} {S : Nat → Int → Int} {base a v x11 x12 : Int} (hP : rxPRL S0 ws) (hin : bx_same rxL (bx_mdl rxCRL.2.2.1) S0 S) (I0 : bx_Inv rxL S) (hinv : rxIRL_18 S0 ws S base a v) (l8 : 0 ≤ base) (u8 : base ≤ 88) (l9 : 5 ≤ a) (u9 : a ≤ 93) (l10 : 0 ≤ v) (u10 : v ≤ 400) (l11 : 1 ≤ x11) (u11 : x11 ≤ 1) (l12 : 0 ≤ x12) (u12 : x12 ≤ 400) (f0 : x11 ≠ 0) (e1 : S 480 14 = x11) (e0 : S 480 18 = x12) : (True) ∧ (True) ∧ rxIRL_23 S0 ws S base (base + 6) x12 ∧ rxmRL_23 S0 ws S base (base + 6) x12 < rxmRL_18 S0 ws S base a v := by
  obtain ⟨m, h1, h2⟩ := hinv
  exact ⟨trivial, trivial, ⟨by omega, by omega, m, h1⟩, by unfold rxmRL_18 rxmRL_23; omega⟩
theorem rxgRL_18_3 {X : (Nat → Int → Int) → Prop} {S0 : Nat → Int → Int} {ws : List Int} (hP : rxPRL S0 ws) : bx_obC rxL X S0 rxCRL.2.2.1 (rxIRL S0 ws) (rxmRL S0 ws) 18 rxzRL_18 rxoRL_18_3 := by
  intro S S_p r r_p hinv hX hin hsm_ hseg
  obtain ⟨I0, I1, h0_, hr_, b_, f_, d_⟩ := bx_cl (evs := [(0, (0, 480), (0, 18), .inr (0, (12, 0))), (0, (0, 480), (0, 14), .inr (0, (11, 0)))]) (fvs := [(3, (11, 0), (0, 0), (0, 0))]) hseg (by decide +kernel) (by decide +kernel)
  have hinv : rxIRL_18 S0 ws S (r 8) (r 9) (r 10) := hinv
  rw [← hr_ 8 (by decide), ← hr_ 9 (by decide), ← hr_ 10 (by decide)] at hinv
  obtain ⟨⟨l8, u8⟩, ⟨l9, u9⟩, ⟨l10, u10⟩, ⟨l11, u11⟩, ⟨l12, u12⟩, -⟩ := b_
  obtain ⟨f0, -⟩ := f_
  obtain ⟨e0, ⟨e1, w_⟩⟩ := d_
  subst w_
  have g := rxcRL_18_3 hP hin I0 hinv l8 u8 l9 u9 l10 u10 l11 u11 l12 u12 f0 e1 e0
  refine ⟨bx_narP_ok (l := []) g.1, bx_nfP_ok h0_ (fvs := []) (by decide +kernel) g.2.1, ?_, ?_⟩
  · show rxIRL_23 S0 ws S_p (bx_val [(0, 0), (0, 0), (0, 0), (0, 0), (0, 0), (0, 0), (0, 0), (0, 0), (8, 0), (8, 6), (12, 0)] r_p 8) (bx_val [(0, 0), (0, 0), (0, 0), (0, 0), (0, 0), (0, 0), (0, 0), (0, 0), (8, 0), (8, 6), (12, 0)] r_p 9) (bx_val [(0, 0), (0, 0), (0, 0), (0, 0), (0, 0), (0, 0), (0, 0), (0, 0), (8, 0), (8, 6), (12, 0)] r_p 10)
    rw [bx_val_x (n := 8) (e := (8, 0)) h0_ rfl, bx_val_x (n := 9) (e := (8, 6)) h0_ rfl, bx_val_x (n := 10) (e := (12, 0)) h0_ rfl]
    exact g.2.2.1
  · show rxmRL_23 S0 ws S_p (bx_val [(0, 0), (0, 0), (0, 0), (0, 0), (0, 0), (0, 0), (0, 0), (0, 0), (8, 0), (8, 6), (12, 0)] r_p 8) (bx_val [(0, 0), (0, 0), (0, 0), (0, 0), (0, 0), (0, 0), (0, 0), (0, 0), (8, 0), (8, 6), (12, 0)] r_p 9) (bx_val [(0, 0), (0, 0), (0, 0), (0, 0), (0, 0), (0, 0), (0, 0), (0, 0), (8, 0), (8, 6), (12, 0)] r_p 10) < rxmRL_18 S0 ws S_p (r 8) (r 9) (r 10)
    rw [bx_val_x (n := 8) (e := (8, 0)) h0_ rfl, bx_val_x (n := 9) (e := (8, 6)) h0_ rfl, bx_val_x (n := 10) (e := (12, 0)) h0_ rfl, ← hr_ 8 (by decide), ← hr_ 9 (by decide), ← hr_ 10 (by decide)]
    exact g.2.2.2
theorem rxcRL_20_0 {S0 : Nat → Int → Int} {ws : List Int} {S : Nat → Int → Int} {base : Int} (hP : rxPRL S0 ws) (hin : bx_same rxL (bx_mdl rxCRL.2.2.1) S0 S) (I0 : bx_Inv rxL S) (hinv : rxIRL_20 S0 ws S base) (l8 : 0 ≤ base) (u8 : base ≤ 88) : (True) ∧ (True) ∧ rxIRL_21 S0 ws S base ∧ rxmRL_21 S0 ws S base < rxmRL_20 S0 ws S base := by
  exact ⟨trivial, trivial, hinv, by unfold rxmRL_20 rxmRL_21; omega⟩
theorem rxgRL_20_0 {X : (Nat → Int → Int) → Prop} {S0 : Nat → Int → Int} {ws : List Int} (hP : rxPRL S0 ws) : bx_obC rxL X S0 rxCRL.2.2.1 (rxIRL S0 ws) (rxmRL S0 ws) 20 rxzRL_20 rxoRL_20_0 := by
  intro S S_p r r_p hinv hX hin hsm_ hseg
  obtain ⟨I0, I1, h0_, hr_, b_, f_, d_⟩ := bx_cl (evs := []) (fvs := []) hseg (by decide +kernel) (by decide +kernel)
  have hinv : rxIRL_20 S0 ws S (r 8) := hinv
  rw [← hr_ 8 (by decide)] at hinv
  obtain ⟨⟨l8, u8⟩, -⟩ := b_
  have w_ := d_
  subst w_
  have g := rxcRL_20_0 hP hin I0 hinv l8 u8
  refine ⟨bx_narP_ok (l := []) g.1, bx_nfP_ok h0_ (fvs := []) (by decide +kernel) g.2.1, ?_, ?_⟩
  · show rxIRL_21 S0 ws S_p (bx_val [(0, 0), (0, 0), (0, 0), (0, 0), (0, 0), (0, 0), (0, 0), (0, 0), (8, 0)] r_p 8)
    rw [bx_val_x (n := 8) (e := (8, 0)) h0_ rfl]
    exact g.2.2.1
  · show rxmRL_21 S0 ws S_p (bx_val [(0, 0), (0, 0), (0, 0), (0, 0), (0, 0), (0, 0), (0, 0), (0, 0), (8, 0)] r_p 8) < rxmRL_20 S0 ws S_p (r 8)
    rw [bx_val_x (n := 8) (e := (8, 0)) h0_ rfl, ← hr_ 8 (by decide)]
    exact g.2.2.2
theorem rxcRL_22_0 {S0 : Nat → Int → Int} {ws : List Int} {S : Nat → Int → Int} {base x9 : Int} (hP : rxPRL S0 ws) (hin : bx_same rxL (bx_mdl rxCRL.2.2.1) S0 S) (I0 : bx_Inv rxL S) (hinv : rxIRL_22 S0 ws S base) (l8 : 0 ≤ base) (u8 : base ≤ 88) (l9 : 0 ≤ x9) (u9 : x9 ≤ 400) (e0 : S 480 18 = x9) : (True) ∧ (True) ∧ rxIRL_23 S0 ws S base (base + 6) x9 ∧ rxmRL_23 S0 ws S base (base + 6) x9 < rxmRL_22 S0 ws S base := by
  exact ⟨trivial, trivial, ⟨by omega, by omega, hinv⟩, by unfold rxmRL_22 rxmRL_23; omega⟩
theorem rxgRL_22_0 {X : (Nat → Int → Int) → Prop} {S0 : Nat → Int → Int} {ws : List Int} (hP : rxPRL S0 ws) : bx_obC rxL X S0 rxCRL.2.2.1 (rxIRL S0 ws) (rxmRL S0 ws) 22 rxzRL_22 rxoRL_22_0 := by
  intro S S_p r r_p hinv hX hin hsm_ hseg
  obtain ⟨I0, I1, h0_, hr_, b_, f_, d_⟩ := bx_cl (evs := [(0, (0, 480), (0, 18), .inr (0, (9, 0)))]) (fvs := []) hseg (by decide +kernel) (by decide +kernel)
  have hinv : rxIRL_22 S0 ws S (r 8) := hinv
  rw [← hr_ 8 (by decide)] at hinv
  obtain ⟨⟨l8, u8⟩, ⟨l9, u9⟩, -⟩ := b_
  obtain ⟨e0, w_⟩ := d_
  subst w_
  have g := rxcRL_22_0 hP hin I0 hinv l8 u8 l9 u9 e0
  refine ⟨bx_narP_ok (l := []) g.1, bx_nfP_ok h0_ (fvs := []) (by decide +kernel) g.2.1, ?_, ?_⟩
  · show rxIRL_23 S0 ws S_p (bx_val [(0, 0), (0, 0), (0, 0), (0, 0), (0, 0), (0, 0), (0, 0), (0, 0), (8, 0), (8, 6), (9, 0)] r_p 8) (bx_val [(0, 0), (0, 0), (0, 0), (0, 0), (0, 0), (0, 0), (0, 0), (0, 0), (8, 0), (8, 6), (9, 0)] r_p 9) (bx_val [(0, 0), (0, 0), (0, 0), (0, 0), (0, 0), (0, 0), (0, 0), (0, 0), (8, 0), (8, 6), (9, 0)] r_p 10)
    rw [bx_val_x (n := 8) (e := (8, 0)) h0_ rfl, bx_val_x (n := 9) (e := (8, 6)) h0_ rfl, bx_val_x (n := 10) (e := (9, 0)) h0_ rfl]
    exact g.2.2.1
  · show rxmRL_23 S0 ws S_p (bx_val [(0, 0), (0, 0), (0, 0), (0, 0), (0, 0), (0, 0), (0, 0), (0, 0), (8, 0), (8, 6), (9, 0)] r_p 8) (bx_val [(0, 0), (0, 0), (0, 0), (0, 0), (0, 0), (0, 0), (0, 0), (0, 0), (8, 0), (8, 6), (9, 0)] r_p 9) (bx_val [(0, 0), (0, 0), (0, 0), (0, 0), (0, 0), (0, 0), (0, 0), (0, 0), (8, 0), (8, 6), (9, 0)] r_p 10) < rxmRL_22 S0 ws S_p (r 8)
    rw [bx_val_x (n := 8) (e := (8, 0)) h0_ rfl, bx_val_x (n := 9) (e := (8, 6)) h0_ rfl, bx_val_x (n := 10) (e := (9, 0)) h0_ rfl, ← hr_ 8 (by decide)]
    exact g.2.2.2
theorem rxdRL_24_0 {S0 : Nat → Int → Int} {ws : List Int} {S : Nat → Int → Int} {base a v : Int} (hP : rxPRL S0 ws) (hin : bx_same rxL (bx_mdl rxCRL.2.2.1) S0 S) (hin2 : bx_same rxL (bx_mdl rxCRL.2.2.1) S S) (I0 : bx_Inv rxL S) (I1 : bx_Inv rxL S) (hinv : rxIRL_24 S0 ws S base a v) (l8 : 0 ≤ base) (u8 : base ≤ 88) (l9 : 6 ≤ a) (u9 : a ≤ 94) (l10 : 0 ≤ v) (u10 : v ≤ 400) : (True) ∧ rxPSRL S0 ws S none := by
  obtain ⟨h1, h2⟩ := hinv
  exact ⟨trivial, rfl, h1, fun _ => h2⟩
theorem rxfRL_24_0 {X : (Nat → Int → Int) → Prop} {S0 : Nat → Int → Int} {ws : List Int} (hP : rxPRL S0 ws) : bx_obE rxL X S0 rxCRL.2.2.1 (rxIRL S0 ws) (rxPSRL S0 ws) 24 rxzRL_24 rxeRL_24_0 := by
  intro S S_p r r_p hinv hX hin hsm_ hseg
  obtain ⟨I0, I1, h0_, hr_, b_, f_, d_⟩ := bx_cl (evs := []) (fvs := []) hseg (by decide +kernel) (by decide +kernel)
  have hinv : rxIRL_24 S0 ws S (r 8) (r 9) (r 10) := hinv
  rw [← hr_ 8 (by decide), ← hr_ 9 (by decide), ← hr_ 10 (by decide)] at hinv
  obtain ⟨⟨l8, u8⟩, ⟨l9, u9⟩, ⟨l10, u10⟩, -⟩ := b_
  have w_ := d_
  subst w_
  have g := rxdRL_24_0 hP hin hsm_ I0 I1 hinv l8 u8 l9 u9 l10 u10
  refine ⟨bx_narP_ok (l := []) g.1, ?_⟩
  exact g.2
theorem rxgCRL {X : (Nat → Int → Int) → Prop} {S0 : Nat → Int → Int} {ws : List Int} (hP : rxPRL S0 ws) : bx_allI (fun i q => rxURL q = true ∨ bx_allP (fun o => bx_obC rxL X S0 rxCRL.2.2.1 (rxIRL S0 ws) (rxmRL S0 ws) i q.1 o) q.2.1) 0 rxYRL := ⟨Or.inr ⟨rxgRL_0_0 hP, rxgRL_0_1 hP, rxgRL_0_2 hP, rxgRL_0_3 hP, rxgRL_0_4 hP, trivial⟩, Or.inr ⟨rxgRL_1_0 hP, rxgRL_1_1 hP, rxgRL_1_2 hP, trivial⟩, Or.inl rfl, Or.inr ⟨rxgRL_3_0 hP, trivial⟩, Or.inr ⟨rxgRL_4_0 hP, trivial⟩, Or.inr ⟨rxgRL_5_0 hP, rxgRL_5_1 hP, trivial⟩, Or.inl rfl, Or.inr ⟨rxgRL_7_0 hP, trivial⟩, Or.inl rfl, Or.inr ⟨rxgRL_9_0 hP, trivial⟩, Or.inr ⟨rxgRL_10_0 hP, trivial⟩, Or.inl rfl, Or.inr ⟨rxgRL_12_0 hP, rxgRL_12_1 hP, trivial⟩, Or.inl rfl, Or.inr ⟨rxgRL_14_0 hP, trivial⟩, Or.inl rfl, Or.inr ⟨rxgRL_16_0 hP, trivial⟩, Or.inl rfl, Or.inr ⟨rxgRL_18_0 hP, rxgRL_18_1 hP, rxgRL_18_2 hP, rxgRL_18_3 hP, trivial⟩, Or.inl rfl, Or.inr ⟨rxgRL_20_0 hP, trivial⟩, Or.inl rfl, Or.inr ⟨rxgRL_22_0 hP, trivial⟩, Or.inl rfl, Or.inr trivial, trivial⟩
theorem rxgERL {X : (Nat → Int → Int) → Prop} {S0 : Nat → Int → Int} {ws : List Int} (hP : rxPRL S0 ws) : bx_allI (fun i q => rxURL q = true ∨ bx_allP (fun E => bx_obE rxL X S0 rxCRL.2.2.1 (rxIRL S0 ws) (rxPSRL S0 ws) i q.1 E) q.2.2) 0 rxYRL := ⟨Or.inr trivial, Or.inr trivial, Or.inl rfl, Or.inr ⟨rxfRL_3_0 hP, trivial⟩, Or.inr trivial, Or.inr trivial, Or.inl rfl, Or.inr trivial, Or.inl rfl, Or.inr trivial, Or.inr trivial, Or.inl rfl, Or.inr trivial, Or.inl rfl, Or.inr trivial, Or.inl rfl, Or.inr trivial, Or.inl rfl, Or.inr trivial, Or.inl rfl, Or.inr trivial, Or.inl rfl, Or.inr trivial, Or.inl rfl, Or.inr ⟨rxfRL_24_0 hP, trivial⟩, trivial⟩
theorem rxuRL {PX : State → Prop} {Dg : va_G} {A : Nat → Prop} {ad xa : Nat → Nat} {l : Launch} {X : (Nat → Int → Int) → Prop} (hPX : rx_PXOK rxNW A PX) (hX : ∀ S S1 : Nat → Int → Int, X S → bx_same rxL (bx_mdl rxCRL.2.2.1) S S1 → X S1) (hQMU : bx_ConP rxG rxNW rxAO PX Dg rxL X vwCl A ad l rxM265 rxCMU rxPMU rxPSMU) (hQRE : bx_ConP rxG rxNW rxAO PX Dg rxL X vwCl A ad l rxM282 rxCRE rxPRE rxPSRE) (hQNX : bx_ConP rxG rxNW rxAO PX Dg rxL X vwCl A ad l rxM264 rxCNX rxPNX rxPSNX) {S0 : Nat → Int → Int} {ws : List Int} (hP : rxPRL S0 ws) : ∀ (i : Nat) (q : bx_HE), rxYRL[i]? = some q → rxURL q = true → ∀ {p : Program} {e : Env} {R : Room} {s : State} {m : MethodId} {args : Array Value} {below : List Frame} {meth : Method} {c : Code} {Q : State → Prop} {H0 : Heap}, rx_Fr rxG rxNW rxAO PX p s m args meth c rxM284 → (∀ q, H0.size ≤ q → A q) → H0 = s.heap → rxM284.2.2.2.2.2.2.1 ≤ R.cells → rxM284.2.2.2.2.2.2.2 ≤ R.slots → rxCRL.2.2.2.1 ≤ R.frames → rxCRL.2.2.2.1 * 40 ≤ R.locals → bx_Step p l e R s m args below meth c Q Dg rxL X vwCl A xa H0 ad rxM284 rxYRL (rxIRL S0 ws) (rxmRL S0 ws) S0 rxCRL.2.2.1 i q := by
  intro i q hq hus p e R s m args below meth c Q H0 hF hA hH0 hmc hms hd hdl
  match i, hq with
  | 0, hq =>
    cases hq
    exact absurd (show false = true from hus) Bool.false_ne_true
  | 1, hq =>
    cases hq
    exact absurd (show false = true from hus) Bool.false_ne_true
  | 2, hq =>
    cases hq
    exact rx_stepC (ins := .invokevirtual 284) (len := 3) (i_p := 3) (M_p := rxM265) (d := rxCRL.2.2.2.1) (as := [.inr (3, (0, 480)), .inr (0, (9, 0))]) (t := []) (ct := rxCMU) hPX hF rfl hA hH0 hmc hms hd hdl (by decide +kernel) rfl rfl (by decide +kernel) (by decide +kernel) hQMU (by decide +kernel) rfl (Or.inl ⟨rfl, rfl, rfl⟩) (rxsRL_2 hP)
  | 3, hq =>
    cases hq
    exact absurd (show false = true from hus) Bool.false_ne_true
  | 4, hq =>
    cases hq
    exact absurd (show false = true from hus) Bool.false_ne_true
  | 5, hq =>
    cases hq
    exact absurd (show false = true from hus) Bool.false_ne_true
  | 6, hq =>
    cases hq
    exact rx_stepS (i_p := 7) (pl := 486) (a := 11) (b := 12) (n := 96) (g := 67) (lo := 0) (hi := 95) (ty := (0, 0, 0)) (t := []) hF (by decide +kernel) rfl rfl rfl rfl (by omega) (by omega) (by decide +kernel) rfl rfl (rxsRL_6 hP hX)
  | 7, hq =>
    cases hq
    exact absurd (show false = true from hus) Bool.false_ne_true
  | 8, hq =>
    cases hq
    exact rx_stepS (i_p := 9) (pl := 486) (a := 10) (b := 11) (n := 96) (g := 67) (lo := 0) (hi := 88) (ty := (0, 0, 2)) (t := []) hF (by decide +kernel) rfl rfl rfl rfl (by omega) (by omega) (by decide +kernel) rfl rfl (rxsRL_8 hP hX)
  | 9, hq =>
    cases hq
    exact absurd (show false = true from hus) Bool.false_ne_true
  | 10, hq =>
    cases hq
    exact absurd (show false = true from hus) Bool.false_ne_true
  | 11, hq =>
    cases hq
    exact rx_stepS (i_p := 12) (pl := 486) (a := 10) (b := 11) (n := 96) (g := 67) (lo := 3) (hi := 91) (ty := (0, 0, 400)) (t := []) hF (by decide +kernel) rfl rfl rfl rfl (by omega) (by omega) (by decide +kernel) rfl rfl (rxsRL_11 hP hX)
  | 12, hq =>
    cases hq
    exact absurd (show false = true from hus) Bool.false_ne_true
  | 13, hq =>
    cases hq
    exact rx_stepC (ins := .invokevirtual 383) (len := 3) (i_p := 14) (M_p := rxM282) (d := rxCRL.2.2.2.1) (as := [.inr (3, (0, 480)), .inr (0, (0, 0))]) (t := []) (ct := rxCRE) hPX hF rfl hA hH0 hmc hms hd hdl (by decide +kernel) rfl rfl (by decide +kernel) (by decide +kernel) hQRE (by decide +kernel) rfl (Or.inl ⟨rfl, rfl, rfl⟩) (rxsRL_13 hP)
  | 14, hq =>
    cases hq
    exact absurd (show false = true from hus) Bool.false_ne_true
  | 15, hq =>
    cases hq
    exact rx_stepS (i_p := 16) (pl := 486) (a := 9) (b := 10) (n := 96) (g := 67) (lo := 4) (hi := 92) (ty := (0, 0, 400)) (t := []) hF (by decide +kernel) rfl rfl rfl rfl (by omega) (by omega) (by decide +kernel) rfl rfl (rxsRL_15 hP hX)
  | 16, hq =>
    cases hq
    exact absurd (show false = true from hus) Bool.false_ne_true
  | 17, hq =>
    cases hq
    exact rx_stepS (i_p := 18) (pl := 486) (a := 9) (b := 10) (n := 96) (g := 67) (lo := 5) (hi := 93) (ty := (0, 0, 400)) (t := []) hF (by decide +kernel) rfl rfl rfl rfl (by omega) (by omega) (by decide +kernel) rfl rfl (rxsRL_17 hP hX)
  | 18, hq =>
    cases hq
    exact absurd (show false = true from hus) Bool.false_ne_true
  | 19, hq =>
    cases hq
    exact rx_stepC (ins := .invokevirtual 253) (len := 3) (i_p := 20) (M_p := rxM264) (d := rxCRL.2.2.2.1) (as := [.inr (3, (0, 480))]) (t := []) (ct := rxCNX) hPX hF rfl hA hH0 hmc hms hd hdl (by decide +kernel) rfl rfl (by decide +kernel) (by decide +kernel) hQNX (by decide +kernel) rfl (Or.inl ⟨rfl, rfl, rfl⟩) (rxsRL_19 hP)
  | 20, hq =>
    cases hq
    exact absurd (show false = true from hus) Bool.false_ne_true
  | 21, hq =>
    cases hq
    exact rx_stepC (ins := .invokevirtual 383) (len := 3) (i_p := 22) (M_p := rxM282) (d := rxCRL.2.2.2.1) (as := [.inr (3, (0, 480)), .inr (0, (0, 1))]) (t := []) (ct := rxCRE) hPX hF rfl hA hH0 hmc hms hd hdl (by decide +kernel) rfl rfl (by decide +kernel) (by decide +kernel) hQRE (by decide +kernel) rfl (Or.inl ⟨rfl, rfl, rfl⟩) (rxsRL_21 hP)
  | 22, hq =>
    cases hq
    exact absurd (show false = true from hus) Bool.false_ne_true
  | 23, hq =>
    cases hq
    exact rx_stepS (i_p := 24) (pl := 486) (a := 9) (b := 10) (n := 96) (g := 67) (lo := 6) (hi := 94) (ty := (0, 0, 400)) (t := []) hF (by decide +kernel) rfl rfl rfl rfl (by omega) (by omega) (by decide +kernel) rfl rfl (rxsRL_23 hP hX)
  | 24, hq =>
    cases hq
    exact absurd (show false = true from hus) Bool.false_ne_true
  | n + 25, hq => cases hq
theorem rxQRL {PX : State → Prop} {Dg : va_G} {A : Nat → Prop} {ad xa : Nat → Nat} {l : Launch} {X : (Nat → Int → Int) → Prop} (hPX : rx_PXOK rxNW A PX) (hsl : ∀ s : State, PX s → ∀ o idx n : Nat, rxSl o idx = some n → ∃ tx : String, vk_R (rxNm o) idx tx (ad n) s)
    (hX : ∀ S S_p : Nat → Int → Int, X S → bx_same rxL (bx_mdl rxCRL.2.2.1) S S_p → X S_p)
    (ih : ∀ (j2 : Nat) (ct2 : bx_Ct) (M2 : rx_Mt), ct2 ∈ rxCnE j2 → ct2.2.2.2.1 + 1 ≤ rxCRL.2.2.2.1 → rxT.2.2.2.2.2 j2 = some M2 → bx_Con rxG rxNW rxAO PX Dg rxL X vwCl A ad l M2 ct2) (hQMU : bx_ConP rxG rxNW rxAO PX Dg rxL X vwCl A ad l rxM265 rxCMU rxPMU rxPSMU) (hQRE : bx_ConP rxG rxNW rxAO PX Dg rxL X vwCl A ad l rxM282 rxCRE rxPRE rxPSRE) (hQNX : bx_ConP rxG rxNW rxAO PX Dg rxL X vwCl A ad l rxM264 rxCNX rxPNX rxPSNX) : bx_ConP rxG rxNW rxAO PX Dg rxL X vwCl A ad l rxM284 rxCRL rxPRL rxPSRL :=
  rxQof (xa := xa) (Cn := rxCnE) (f := 30000) (j := 284) (tab := rxYRL) (us := rxURL) hPX hsl hX ih rfl rxYcRL rxIRL rxmRL
    (fun S0 ws r I0 I ht0 ht as he he1 hX0 hI0 hP hs ha => by
      have e := he.symm.trans (show bx_ent0 rxNP rxCRL.1 bx_I0 [] = some ([(0, 0), (0, 0), (0, 0), (0, 0), (0, 0), (0, 0), (0, 0), (0, 0)], [], [.inr (3, (0, 480))]) from rfl)
      cases e
      subst ha
      have h0 : r 0 = 0 := hs.1
      show rxIRL_0 S0 _ S0
      refine ⟨rfl, ?_⟩
      simp only [List.map_cons, List.map_nil, bx_xv_ok h0]
      rfl)
    (fun S0 ws hP => rxuRL (xa := xa) hPX hX hQMU hQRE hQNX hP) (fun S0 ws hP => rxgCRL hP) (fun S0 ws hP => rxgERL hP)
