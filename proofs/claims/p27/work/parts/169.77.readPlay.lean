noncomputable def rxPgx (S0 S : Nat → Int → Int) (base : Int) : Prop := rxTk S ∧ S 480 16 = S0 480 16 + 1 ∧ base = 10 * S0 480 16 ∧ 0 ≤ S0 480 16 ∧ S0 480 16 ≤ 11 ∧ ∀ j : Int, 0 ≤ j → j < base → S 496 j = S0 496 j
noncomputable def rxP0 (S0 S : Nat → Int → Int) (base : Int) : Prop := rxPgx S0 S base ∧ rxSm S0 S ∧ S0 480 9 ≤ S 480 9
noncomputable def rxPy (S0 S : Nat → Int → Int) (base q : Int) : Prop := rxPgx S0 S base ∧ (S 480 14 = 0 →
  (∀ c : Int, 3 ≤ c → c < q → S0 480 18 ≤ S 496 (base + c) ∧ S 496 (base + c) ≤ S 496 (base + c + 1) ∧ S 496 (base + c + 1) ≤ S 480 18 ∧ rxSeg (S 487) (S 488) (S 496 (base + c)) (S 496 (base + c + 1))) ∧
  S0 480 18 ≤ S 496 (base + q) ∧ S 496 (base + q) ≤ S 480 18 ∧ S 480 18 ≤ S 480 9 ∧ rxKp S0 S (S0 480 18) ∧ rxSeg (S 487) (S 488) (S 496 (base + q)) (S 480 18))
theorem rxW496 : bx_wd (rxL.1 496) = 120 := rfl
theorem rxT496 (j : Int) : rxL.2.2.1 496 j = bx_dT rxPl496 j := rfl
theorem rxDp0 : [3, 4, 5, 6].all (fun c => decide (bx_dW rxPl496 c (110 + c) 10 = some (0, 0, 400))) = true := by decide +kernel
theorem rxDp1 : bx_dW rxPl496 0 110 10 = some (0, -2147483648, 2147483647) ∧ bx_dW rxPl496 1 111 10 = some (0, -2147483648, 2147483647) ∧ bx_dW rxPl496 2 112 10 = some (0, 0, 1) := by decide +kernel
theorem rxDpc {k c v : Int} (k0 : 0 ≤ k) (k1 : k ≤ 11) (hc : c ∈ [3, 4, 5, 6]) (v0 : 0 ≤ v) (v1 : v ≤ 400) : bx_okT rxL (rxL.2.2.1 496 (10 * k + c)) v := by
  have h := of_decide_eq_true (List.all_eq_true.mp rxDp0 c hc)
  rw [rxT496, bx_dW_ok h (by omega) (by omega) (by rw [show 10 * k + c - c = 10 * k by omega]; omega)]
  exact ⟨v0, v1⟩
theorem rxDpb {S : Nat → Int → Int} (hI : bx_Inv rxL S) {k c : Int} (k0 : 0 ≤ k) (k1 : k ≤ 11) (hc : c ∈ [3, 4, 5, 6]) : 0 ≤ S 496 (10 * k + c) ∧ S 496 (10 * k + c) ≤ 400 := by
  have h := of_decide_eq_true (List.all_eq_true.mp rxDp0 c hc)
  have hb : 3 ≤ c ∧ c ≤ 6 := by
    simp at hc
    omega
  exact rx_inv hI (by omega) rxW496 (by omega) (by omega) ((rxT496 _).trans (bx_dW_ok h (by omega) (by omega) (by rw [show 10 * k + c - c = 10 * k by omega]; omega)))
theorem rxPgx_st {S0 S : Nat → Int → Int} {base a v : Int} (h : rxPgx S0 S base) (ha : base ≤ a) : rxPgx S0 (bx_up S 496 a v) base := by
  obtain ⟨h1, h2, h3, h4, h5, h6⟩ := h
  have e : ∀ i : Int, bx_up S 496 a v 480 i = S 480 i := fun i => by rw [bx_up_row (by omega)]
  refine ⟨?_, (e _).trans h2, h3, h4, h5, fun j j0 j1 => ?_⟩
  · unfold rxTk at h1 ⊢
    simp only [e]
    exact h1
  · rw [bx_up_ne (by omega)]
    exact h6 j j0 j1
theorem rxP0_st {S0 S : Nat → Int → Int} {base a v : Int} (h : rxP0 S0 S base) (ha : base ≤ a) : rxP0 S0 (bx_up S 496 a v) base := by
  obtain ⟨h1, h2, h3⟩ := h
  have e : ∀ i : Int, bx_up S 496 a v 480 i = S 480 i := fun i => by rw [bx_up_row (by omega)]
  refine ⟨rxPgx_st h1 ha, ⟨(e _).trans h2.1, (e _).trans h2.2.1, (e _).trans h2.2.2.1, fun i i0 i1 => ?_⟩, by rw [e]; exact h3⟩
  obtain ⟨g1, g2, g3, g4⟩ := h2.2.2.2 i i0 i1
  exact ⟨by rw [bx_up_row (by omega)]; exact g1, by rw [bx_up_row (by omega)]; exact g2, by rw [bx_up_row (by omega)]; exact g3, by rw [bx_up_row (by omega)]; exact g4⟩
theorem rxSm.tr {S S1 S2 : Nat → Int → Int} (h : rxSm S S1) (h2 : rxSm S1 S2) : rxSm S S2 := ⟨h2.1.trans h.1, h2.2.1.trans h.2.1, h2.2.2.1.trans h.2.2.1, fun i i0 i1 => by
  obtain ⟨a, b, c, d⟩ := h.2.2.2 i i0 i1
  obtain ⟨a_p, b_p, c_p, d_p⟩ := h2.2.2.2 i i0 i1
  exact ⟨a_p.trans a, b_p.trans b, c_p.trans c, d_p.trans d⟩⟩
theorem rxPgx_call {S0 S S_p : Nat → Int → Int} {base : Int} (h : rxPgx S0 S base) (ht : rxTk S_p) (h16 : S_p 480 16 = S 480 16) (h496 : ∀ j : Int, 0 ≤ j → j < 120 → S_p 496 j = S 496 j) : rxPgx S0 S_p base :=
  ⟨ht, h16.trans h.2.1, h.2.2.1, h.2.2.2.1, h.2.2.2.2.1, fun j j0 j1 => (h496 j j0 (by have := h.2.2.1; have := h.2.2.2.2.1; omega)).trans (h.2.2.2.2.2 j j0 j1)⟩
theorem rxP0_first {S0 S : Nat → Int → Int} {base : Int} (h : rxP0 S0 S base) (hL : S0 480 14 = 0 → S0 480 18 ≤ S0 480 9) (h14 : S0 480 14 = 0) (hn : 0 ≤ S0 480 18 ∧ S0 480 18 ≤ 400) : rxPy S0 (bx_up S 496 (base + 3) (S 480 18)) base 3 := by
  obtain ⟨h1, h2, h3⟩ := h
  have e : ∀ i : Int, bx_up S 496 (base + 3) (S 480 18) 480 i = S 480 i := fun i => by rw [bx_up_row (by omega)]
  have k18 := h2.1
  have l9 := hL h14
  refine ⟨rxPgx_st h1 (by omega), fun q => ⟨fun c c0 c1 => by omega, ?_, ?_, ?_, fun k k0 k1 => ?_, ?_⟩⟩
  · rw [bx_up_at]
    omega
  · rw [bx_up_at, e]
    exact Int.le_refl _
  · rw [e, e]
    omega
  · have g := h2.2.2.2 k k0 (by omega)
    exact ⟨by rw [bx_up_row (by omega)]; exact g.1, by rw [bx_up_row (by omega)]; exact g.2.1⟩
  · rw [bx_up_at, e]
    exact rxSeg_nil
theorem rxPy_st {S0 S : Nat → Int → Int} {base q : Int} (h : rxPy S0 S base q) (hq : 3 ≤ q) : rxPy S0 (bx_up S 496 (base + (q + 1)) (S 480 18)) base (q + 1) := by
  obtain ⟨h1, h2⟩ := h
  have e : ∀ i : Int, bx_up S 496 (base + (q + 1)) (S 480 18) 480 i = S 480 i := fun i => by rw [bx_up_row (by omega)]
  have e7 : bx_up S 496 (base + (q + 1)) (S 480 18) 487 = S 487 := by rw [bx_up_row (by omega)]
  have e8 : bx_up S 496 (base + (q + 1)) (S 480 18) 488 = S 488 := by rw [bx_up_row (by omega)]
  refine ⟨rxPgx_st h1 (by omega), fun g => ?_⟩
  rw [e] at g
  obtain ⟨a1, a2, a3, a4, a5, a6⟩ := h2 g
  rw [e7, e8, e, e]
  refine ⟨fun c c0 c1 => ?_, ?_, ?_, a4, fun k k0 k1 => ?_, ?_⟩
  · by_cases hc : c = q
    · subst hc
      rw [show base + c + 1 = base + (c + 1) by omega, bx_up_at, bx_up_ne (by omega)]
      exact ⟨a2, a3, Int.le_refl _, a6⟩
    · rw [bx_up_ne (by omega), bx_up_ne (by omega)]
      exact a1 c c0 (by omega)
  · rw [bx_up_at]
    omega
  · rw [bx_up_at]
    exact Int.le_refl _
  · rw [e7, e8]
    exact a5 k k0 k1
  · rw [bx_up_at]
    exact rxSeg_nil
theorem rxPy_re {S0 S S_p : Nat → Int → Int} {base q : Int} (h : rxPy S0 S base q) (hq : 3 ≤ q) (q6 : q ≤ 5) (hm : S 496 (base + q) = S 480 18) (h14 : S 480 14 = 0) (n0 : 0 ≤ S0 480 18) (ht : rxTk S_p) (h16 : S_p 480 16 = S 480 16) (h496 : ∀ j : Int, 0 ≤ j → j < 120 → S_p 496 j = S 496 j)
    (hr : S_p 480 14 = 0 → rxSeg (S_p 487) (S_p 488) (S 480 18) (S_p 480 18) ∧ rxKp S S_p (S 480 18) ∧ S 480 18 ≤ S_p 480 18 ∧ S_p 480 18 ≤ S_p 480 9) : rxPy S0 S_p base q := by
  obtain ⟨h1, h2⟩ := h
  have hf := h1
  obtain ⟨f1, f2, f3, f4, f5, f6⟩ := h1
  refine ⟨rxPgx_call hf ht h16 h496, fun g => ?_⟩
  obtain ⟨r1, r2, r3, r4⟩ := hr g
  obtain ⟨a1, a2, a3, a4, a5, a6⟩ := h2 h14
  have e := h496 (base + q) (by omega) (by omega)
  refine ⟨fun c c0 c1 => ?_, by omega, by omega, r4, rxKp_tr a5 r2 (by omega), ?_⟩
  · obtain ⟨b1, b2, b3, b4⟩ := a1 c c0 c1
    rw [h496 (base + c) (by omega) (by omega), h496 (base + c + 1) (by omega) (by omega)]
    exact ⟨b1, b2, by omega, rxSeg_cg b4 fun k k0 k1 => r2 k (by omega) (by omega)⟩
  · rw [e, hm]
    exact r1
theorem rxPy_nx {S0 S S_p : Nat → Int → Int} {base q : Int} (h : rxPy S0 S base q) (hq : 3 ≤ q) (q6 : q ≤ 5) (n0 : 0 ≤ S0 480 18) (hb : S 480 18 ≤ 400) (ht : rxTk S_p) (hs : rxSm S S_p) (h14 : S 480 14 = 0) (h9 : S 480 9 ≤ S_p 480 9) (h16 : S_p 480 16 = S 480 16) (h496 : ∀ j : Int, 0 ≤ j → j < 120 → S_p 496 j = S 496 j) : rxPy S0 S_p base q := by
  obtain ⟨h1, h2⟩ := h
  have hf := h1
  obtain ⟨f1, f2, f3, f4, f5, f6⟩ := h1
  have k18 := hs.1
  refine ⟨rxPgx_call hf ht h16 h496, fun g => ?_⟩
  obtain ⟨a1, a2, a3, a4, a5, a6⟩ := h2 h14
  have e := h496 (base + q) (by omega) (by omega)
  have hk : rxKp S S_p (S 480 18) := rxKp_sm hs hb
  refine ⟨fun c c0 c1 => ?_, by omega, by omega, by omega, rxKp_tr a5 hk (by omega), ?_⟩
  · obtain ⟨b1, b2, b3, b4⟩ := a1 c c0 c1
    rw [h496 (base + c) (by omega) (by omega), h496 (base + c + 1) (by omega) (by omega)]
    exact ⟨b1, b2, by omega, rxSeg_cg b4 fun k k0 k1 => hk k (by omega) (by omega)⟩
  · rw [e, k18]
    exact rxSeg_cg a6 fun k k0 k1 => hk k (by omega) (by omega)
noncomputable def rxPd (S : Nat → Int → Int) : Prop := ∀ k : Int, 0 ≤ k → k < S 480 16 → ∀ c : Int, 3 ≤ c → c < 6 → rxCq S (S 496 (10 * k + c)) (S 496 (10 * k + c + 1))
noncomputable def rxPi (S : Nat → Int → Int) : Prop := rxTk S ∧ (S 480 14 = 0 → S 480 18 ≤ S 480 9 ∧ rxPd S)
theorem rxPi_end {S0 S : Nat → Int → Int} {base : Int} (h : rxPi S0) (h0 : S0 480 14 = 0) (hy : rxPy S0 S base 6) (hn : 0 ≤ S0 480 18) : rxPi S := by
  obtain ⟨⟨f1, f2, f3, f4, f5, f6⟩, y⟩ := hy
  obtain ⟨a1, a2⟩ := h.2 h0
  refine ⟨f1, fun q => ?_⟩
  obtain ⟨z1, z2, z3, z4, z5, z6⟩ := y q
  refine ⟨z4, fun k k0 k1 c c0 c1 => ?_⟩
  by_cases hk : k = S0 480 16
  · subst hk
    rw [← f3]
    obtain ⟨b1, b2, b3, b4⟩ := z1 c c0 (by omega)
    exact ⟨by omega, b3, b4⟩
  · have b := a2 k k0 (by omega) c c0 c1
    rw [f6 (10 * k + c) (by omega) (by omega), f6 (10 * k + c + 1) (by omega) (by omega)]
    exact rxCq_kp b z5 (by omega)
noncomputable def rxCRY : bx_Ct := ([(3, (1, 480, 0))], none, [(12, 9), (12, 10), (12, 11), (12, 12), (12, 13), (12, 14), (12, 16), (12, 18), (12, 21), (12, 24), (12, 25), (1068, 0), (1069, 0), (1070, 0), (1071, 0), (1077, 0)], 7, [])
noncomputable def rxIRY_0 (S0 : Nat → Int → Int) (ws : List Int) (S : Nat → Int → Int) : Prop := S = S0 ∧ ws = [480]
noncomputable def rxmRY_0 (S0 : Nat → Int → Int) (ws : List Int) (S : Nat → Int → Int) : Nat := 10000
noncomputable def rxzRY_0 : rx_Z := ([(0, 0), (0, 0), (0, 0), (0, 0), (0, 0), (0, 0), (0, 0), (0, 0)], [], [], 0, 0, 0, [(0, .inr (3, (0, 480)))], [])
noncomputable def rxIRY_1 (S0 : Nat → Int → Int) (ws : List Int) (S : Nat → Int → Int) (is : Int) : Prop := S = S0 ∧ (is = 1 → S 480 16 < 12)
noncomputable def rxmRY_1 (S0 : Nat → Int → Int) (ws : List Int) (S : Nat → Int → Int) (is : Int) : Nat := 9000
noncomputable def rxzRY_1 : rx_Z := ([(0, 0), (0, 0), (0, 0), (0, 0), (0, 0), (0, 0), (0, 0), (0, 0), (0, 1)], [], [], 0, 0, 25, [(0, .inr (3, (0, 480)))], [.inr (0, (8, 0)), .inr (3, (0, 480))])
noncomputable def rxIRY_2 (S0 : Nat → Int → Int) (ws : List Int) (S : Nat → Int → Int) (is : Int) : Prop := rxTk S ∧ rxSm S0 S ∧ S0 480 9 ≤ S 480 9 ∧ S 480 16 = S0 480 16 ∧ (∀ j : Int, 0 ≤ j → j < 120 → S 496 j = S0 496 j) ∧ (S 480 14 = 0 → S 480 16 < 12)
noncomputable def rxmRY_2 (S0 : Nat → Int → Int) (ws : List Int) (S : Nat → Int → Int) (is : Int) : Nat := 8900
noncomputable def rxzRY_2 : rx_Z := ([(0, 0), (0, 0), (0, 0), (0, 0), (0, 0), (0, 0), (0, 0), (0, 0), (0, 1)], [], [], 0, 0, 28, [(0, .inr (3, (0, 480)))], [])
noncomputable def rxIRY_3 (S0 : Nat → Int → Int) (ws : List Int) (S : Nat → Int → Int) (nc : Int) : Prop := nc = S 480 16 ∧ rxTk S ∧ rxSm S0 S ∧ S0 480 9 ≤ S 480 9 ∧ S 480 16 = S0 480 16 ∧ (∀ j : Int, 0 ≤ j → j < 120 → S 496 j = S0 496 j)
noncomputable def rxmRY_3 (S0 : Nat → Int → Int) (ws : List Int) (S : Nat → Int → Int) (nc : Int) : Nat := 8800
noncomputable def rxzRY_3 : rx_Z := ([(0, 0), (0, 0), (0, 0), (0, 0), (0, 0), (0, 0), (0, 0), (0, 0), (0, 11)], [], [], 0, 0, 42, [(0, .inr (3, (0, 480)))], [.inr (0, (8, 0)), .inr (0, (0, 10))])
noncomputable def rxIRY_4 (S0 : Nat → Int → Int) (ws : List Int) (S : Nat → Int → Int) (base nc : Int) : Prop := nc = S 480 16 ∧ base = 10 * S 480 16 ∧ rxTk S ∧ rxSm S0 S ∧ S0 480 9 ≤ S 480 9 ∧ S 480 16 = S0 480 16 ∧ (∀ j : Int, 0 ≤ j → j < 120 → S 496 j = S0 496 j)
noncomputable def rxmRY_4 (S0 : Nat → Int → Int) (ws : List Int) (S : Nat → Int → Int) (base nc : Int) : Nat := 8700
noncomputable def rxzRY_4 : rx_Z := ([(0, 0), (0, 0), (0, 0), (0, 0), (0, 0), (0, 0), (0, 0), (0, 0), (0, 110), (0, 11)], [], [], 0, 0, 49, [(0, .inr (3, (0, 480))), (1, .inr (0, (8, 0)))], [.inr (0, (9, 0)), .inr (3, (0, 480))])
noncomputable def rxIRY_5 (S0 : Nat → Int → Int) (ws : List Int) (S : Nat → Int → Int) (base a : Int) : Prop := rxP0 S0 S base ∧ a = base
noncomputable def rxmRY_5 (S0 : Nat → Int → Int) (ws : List Int) (S : Nat → Int → Int) (base a : Int) : Nat := 8600
noncomputable def rxzRY_5 : rx_Z := ([(0, 0), (0, 0), (0, 0), (0, 0), (0, 0), (0, 0), (0, 0), (0, 0), (0, 110), (0, 110)], [], [], 0, 0, 60, [(0, .inr (3, (0, 480))), (1, .inr (0, (8, 0)))], [.inr (3, (0, 480)), .inr (0, (9, 0)), .inr (3, (0, 496))])
noncomputable def rxIRY_6 (S0 : Nat → Int → Int) (ws : List Int) (S : Nat → Int → Int) (base a v : Int) : Prop := rxP0 S0 S base ∧ a = base
noncomputable def rxmRY_6 (S0 : Nat → Int → Int) (ws : List Int) (S : Nat → Int → Int) (base a v : Int) : Nat := 8590
noncomputable def rxzRY_6 : rx_Z := ([(0, 0), (0, 0), (0, 0), (0, 0), (0, 0), (0, 0), (0, 0), (0, 0), (0, 110), (0, 110), ((-2147483648), 2147483647)], [], [], 0, 0, 63, [(0, .inr (3, (0, 480))), (1, .inr (0, (8, 0)))], [.inr (0, (10, 0)), .inr (0, (9, 0)), .inr (3, (0, 496))])
noncomputable def rxIRY_7 (S0 : Nat → Int → Int) (ws : List Int) (S : Nat → Int → Int) (base a v : Int) : Prop := rxP0 S0 S base
noncomputable def rxmRY_7 (S0 : Nat → Int → Int) (ws : List Int) (S : Nat → Int → Int) (base a v : Int) : Nat := 8580
noncomputable def rxzRY_7 : rx_Z := ([(0, 0), (0, 0), (0, 0), (0, 0), (0, 0), (0, 0), (0, 0), (0, 0), (0, 110), (0, 110), ((-2147483648), 2147483647)], [], [], 0, 0, 64, [(0, .inr (3, (0, 480))), (1, .inr (0, (8, 0)))], [])
noncomputable def rxIRY_8 (S0 : Nat → Int → Int) (ws : List Int) (S : Nat → Int → Int) (base : Int) : Prop := rxP0 S0 S base
noncomputable def rxmRY_8 (S0 : Nat → Int → Int) (ws : List Int) (S : Nat → Int → Int) (base : Int) : Nat := 8500
noncomputable def rxzRY_8 : rx_Z := ([(0, 0), (0, 0), (0, 0), (0, 0), (0, 0), (0, 0), (0, 0), (0, 0), (0, 110)], [], [], 0, 0, 69, [(0, .inr (3, (0, 480))), (1, .inr (0, (8, 0)))], [.inr (1, (0, 52)), .inr (3, (0, 480)), .inr (3, (0, 480))])
noncomputable def rxIRY_9 (S0 : Nat → Int → Int) (ws : List Int) (S : Nat → Int → Int) (base is : Int) : Prop := rxP0 S0 S base
noncomputable def rxmRY_9 (S0 : Nat → Int → Int) (ws : List Int) (S : Nat → Int → Int) (base is : Int) : Nat := 8490
noncomputable def rxzRY_9 : rx_Z := ([(0, 0), (0, 0), (0, 0), (0, 0), (0, 0), (0, 0), (0, 0), (0, 0), (0, 110), (0, 1)], [], [], 0, 0, 72, [(0, .inr (3, (0, 480))), (1, .inr (0, (8, 0)))], [.inr (0, (9, 0)), .inr (3, (0, 480))])
noncomputable def rxIRY_10 (S0 : Nat → Int → Int) (ws : List Int) (S : Nat → Int → Int) (base is : Int) : Prop := rxP0 S0 S base
noncomputable def rxmRY_10 (S0 : Nat → Int → Int) (ws : List Int) (S : Nat → Int → Int) (base is : Int) : Nat := 8480
noncomputable def rxzRY_10 : rx_Z := ([(0, 0), (0, 0), (0, 0), (0, 0), (0, 0), (0, 0), (0, 0), (0, 0), (0, 110), (0, 1)], [], [], 0, 0, 75, [(0, .inr (3, (0, 480))), (1, .inr (0, (8, 0)))], [])
noncomputable def rxIRY_11 (S0 : Nat → Int → Int) (ws : List Int) (S : Nat → Int → Int) (base a : Int) : Prop := rxP0 S0 S base ∧ a = base + 1
noncomputable def rxmRY_11 (S0 : Nat → Int → Int) (ws : List Int) (S : Nat → Int → Int) (base a : Int) : Nat := 8400
noncomputable def rxzRY_11 : rx_Z := ([(0, 0), (0, 0), (0, 0), (0, 0), (0, 0), (0, 0), (0, 0), (0, 0), (0, 110), (1, 111)], [], [], 0, 0, 94, [(0, .inr (3, (0, 480))), (1, .inr (0, (8, 0)))], [.inr (3, (0, 480)), .inr (0, (9, 0)), .inr (3, (0, 496))])
noncomputable def rxIRY_12 (S0 : Nat → Int → Int) (ws : List Int) (S : Nat → Int → Int) (base a v : Int) : Prop := rxP0 S0 S base ∧ a = base + 1
noncomputable def rxmRY_12 (S0 : Nat → Int → Int) (ws : List Int) (S : Nat → Int → Int) (base a v : Int) : Nat := 8390
noncomputable def rxzRY_12 : rx_Z := ([(0, 0), (0, 0), (0, 0), (0, 0), (0, 0), (0, 0), (0, 0), (0, 0), (0, 110), (1, 111), ((-2147483648), 2147483647)], [], [], 0, 0, 97, [(0, .inr (3, (0, 480))), (1, .inr (0, (8, 0)))], [.inr (0, (10, 0)), .inr (0, (9, 0)), .inr (3, (0, 496))])
noncomputable def rxIRY_13 (S0 : Nat → Int → Int) (ws : List Int) (S : Nat → Int → Int) (base a v : Int) : Prop := rxP0 S0 S base
noncomputable def rxmRY_13 (S0 : Nat → Int → Int) (ws : List Int) (S : Nat → Int → Int) (base a v : Int) : Nat := 8380
noncomputable def rxzRY_13 : rx_Z := ([(0, 0), (0, 0), (0, 0), (0, 0), (0, 0), (0, 0), (0, 0), (0, 0), (0, 110), (1, 111), ((-2147483648), 2147483647)], [], [], 0, 0, 98, [(0, .inr (3, (0, 480))), (1, .inr (0, (8, 0)))], [])
noncomputable def rxIRY_14 (S0 : Nat → Int → Int) (ws : List Int) (S : Nat → Int → Int) (base a v : Int) : Prop := rxP0 S0 S base ∧ a = base + 1
noncomputable def rxmRY_14 (S0 : Nat → Int → Int) (ws : List Int) (S : Nat → Int → Int) (base a v : Int) : Nat := 8395
noncomputable def rxzRY_14 : rx_Z := ([(0, 0), (0, 0), (0, 0), (0, 0), (0, 0), (0, 0), (0, 0), (0, 0), (0, 110), (1, 111), (0, 0)], [], [], 0, 0, 97, [(0, .inr (3, (0, 480))), (1, .inr (0, (8, 0)))], [.inr (0, (10, 0)), .inr (0, (9, 0)), .inr (3, (0, 496))])
noncomputable def rxIRY_15 (S0 : Nat → Int → Int) (ws : List Int) (S : Nat → Int → Int) (base a v : Int) : Prop := rxP0 S0 S base
noncomputable def rxmRY_15 (S0 : Nat → Int → Int) (ws : List Int) (S : Nat → Int → Int) (base a v : Int) : Nat := 8380
noncomputable def rxzRY_15 : rx_Z := ([(0, 0), (0, 0), (0, 0), (0, 0), (0, 0), (0, 0), (0, 0), (0, 0), (0, 110), (1, 111), (0, 0)], [], [], 0, 0, 98, [(0, .inr (3, (0, 480))), (1, .inr (0, (8, 0)))], [])
noncomputable def rxIRY_16 (S0 : Nat → Int → Int) (ws : List Int) (S : Nat → Int → Int) (base dd is : Int) : Prop := rxP0 S0 S base
noncomputable def rxmRY_16 (S0 : Nat → Int → Int) (ws : List Int) (S : Nat → Int → Int) (base dd is : Int) : Nat := 8300
noncomputable def rxzRY_16 : rx_Z := ([(0, 0), (0, 0), (0, 0), (0, 0), (0, 0), (0, 0), (0, 0), (0, 0), (0, 110), (0, 1), (0, 1)], [], [], 0, 0, 126, [(0, .inr (3, (0, 480))), (1, .inr (0, (8, 0))), (2, .inr (0, (9, 0)))], [.inr (0, (10, 0)), .inr (3, (0, 480))])
noncomputable def rxIRY_17 (S0 : Nat → Int → Int) (ws : List Int) (S : Nat → Int → Int) (base dd is : Int) : Prop := rxP0 S0 S base
noncomputable def rxmRY_17 (S0 : Nat → Int → Int) (ws : List Int) (S : Nat → Int → Int) (base dd is : Int) : Nat := 8290
noncomputable def rxzRY_17 : rx_Z := ([(0, 0), (0, 0), (0, 0), (0, 0), (0, 0), (0, 0), (0, 0), (0, 0), (0, 110), (0, 1), (0, 1)], [], [], 0, 0, 129, [(0, .inr (3, (0, 480))), (1, .inr (0, (8, 0))), (2, .inr (0, (9, 0)))], [])
noncomputable def rxIRY_18 (S0 : Nat → Int → Int) (ws : List Int) (S : Nat → Int → Int) (base dd a v : Int) : Prop := rxP0 S0 S base ∧ a = base + 2
noncomputable def rxmRY_18 (S0 : Nat → Int → Int) (ws : List Int) (S : Nat → Int → Int) (base dd a v : Int) : Nat := 8200
noncomputable def rxzRY_18 : rx_Z := ([(0, 0), (0, 0), (0, 0), (0, 0), (0, 0), (0, 0), (0, 0), (0, 0), (0, 110), (0, 1), (2, 112), (0, 1)], [], [], 0, 0, 145, [(0, .inr (3, (0, 480))), (1, .inr (0, (8, 0))), (2, .inr (0, (9, 0)))], [.inr (0, (11, 0)), .inr (0, (10, 0)), .inr (3, (0, 496))])
noncomputable def rxIRY_19 (S0 : Nat → Int → Int) (ws : List Int) (S : Nat → Int → Int) (base dd a v : Int) : Prop := rxP0 S0 S base
noncomputable def rxmRY_19 (S0 : Nat → Int → Int) (ws : List Int) (S : Nat → Int → Int) (base dd a v : Int) : Nat := 8190
noncomputable def rxzRY_19 : rx_Z := ([(0, 0), (0, 0), (0, 0), (0, 0), (0, 0), (0, 0), (0, 0), (0, 0), (0, 110), (0, 1), (2, 112), (0, 1)], [], [], 0, 0, 146, [(0, .inr (3, (0, 480))), (1, .inr (0, (8, 0))), (2, .inr (0, (9, 0)))], [])
noncomputable def rxIRY_20 (S0 : Nat → Int → Int) (ws : List Int) (S : Nat → Int → Int) (base dd a v : Int) : Prop := rxP0 S0 S base ∧ a = base + 3 ∧ v = S 480 18
noncomputable def rxmRY_20 (S0 : Nat → Int → Int) (ws : List Int) (S : Nat → Int → Int) (base dd a v : Int) : Nat := 8100
noncomputable def rxzRY_20 : rx_Z := ([(0, 0), (0, 0), (0, 0), (0, 0), (0, 0), (0, 0), (0, 0), (0, 0), (0, 110), (0, 1), (3, 113), (0, 400)], [], [], 0, 0, 157, [(0, .inr (3, (0, 480))), (1, .inr (0, (8, 0))), (2, .inr (0, (9, 0)))], [.inr (0, (11, 0)), .inr (0, (10, 0)), .inr (3, (0, 496))])
noncomputable def rxIRY_21 (S0 : Nat → Int → Int) (ws : List Int) (S : Nat → Int → Int) (base dd a v : Int) : Prop := rxPy S0 S base 3 ∧ S 496 (base + 3) = S 480 18
noncomputable def rxmRY_21 (S0 : Nat → Int → Int) (ws : List Int) (S : Nat → Int → Int) (base dd a v : Int) : Nat := 8090
noncomputable def rxzRY_21 : rx_Z := ([(0, 0), (0, 0), (0, 0), (0, 0), (0, 0), (0, 0), (0, 0), (0, 0), (0, 110), (0, 1), (3, 113), (0, 400)], [], [], 0, 0, 158, [(0, .inr (3, (0, 480))), (1, .inr (0, (8, 0))), (2, .inr (0, (9, 0)))], [])
noncomputable def rxIRY_22 (S0 : Nat → Int → Int) (ws : List Int) (S : Nat → Int → Int) (base dd : Int) : Prop := S 480 14 = 0 ∧ rxPy S0 S base 3 ∧ S 496 (base + 3) = S 480 18
noncomputable def rxmRY_22 (S0 : Nat → Int → Int) (ws : List Int) (S : Nat → Int → Int) (base dd : Int) : Nat := 8000
noncomputable def rxzRY_22 : rx_Z := ([(0, 0), (0, 0), (0, 0), (0, 0), (0, 0), (0, 0), (0, 0), (0, 0), (0, 110), (0, 1)], [], [], 0, 0, 171, [(0, .inr (3, (0, 480))), (1, .inr (0, (8, 0))), (2, .inr (0, (9, 0)))], [.inr (0, (0, 0)), .inr (3, (0, 480))])
noncomputable def rxIRY_23 (S0 : Nat → Int → Int) (ws : List Int) (S : Nat → Int → Int) (base dd : Int) : Prop := rxPy S0 S base 3
noncomputable def rxmRY_23 (S0 : Nat → Int → Int) (ws : List Int) (S : Nat → Int → Int) (base dd : Int) : Nat := 7990
noncomputable def rxzRY_23 : rx_Z := ([(0, 0), (0, 0), (0, 0), (0, 0), (0, 0), (0, 0), (0, 0), (0, 0), (0, 110), (0, 1)], [], [], 0, 0, 174, [(0, .inr (3, (0, 480))), (1, .inr (0, (8, 0))), (2, .inr (0, (9, 0)))], [])
noncomputable def rxIRY_24 (S0 : Nat → Int → Int) (ws : List Int) (S : Nat → Int → Int) (base dd a v : Int) : Prop := a = base + 4 ∧ v = S 480 18 ∧ rxPy S0 S base 3
noncomputable def rxmRY_24 (S0 : Nat → Int → Int) (ws : List Int) (S : Nat → Int → Int) (base dd a v : Int) : Nat := 7900
noncomputable def rxzRY_24 : rx_Z := ([(0, 0), (0, 0), (0, 0), (0, 0), (0, 0), (0, 0), (0, 0), (0, 0), (0, 110), (0, 1), (4, 114), (0, 400)], [], [], 0, 0, 185, [(0, .inr (3, (0, 480))), (1, .inr (0, (8, 0))), (2, .inr (0, (9, 0)))], [.inr (0, (11, 0)), .inr (0, (10, 0)), .inr (3, (0, 496))])
noncomputable def rxIRY_25 (S0 : Nat → Int → Int) (ws : List Int) (S : Nat → Int → Int) (base dd a v : Int) : Prop := rxPy S0 S base 4 ∧ S 496 (base + 4) = S 480 18
noncomputable def rxmRY_25 (S0 : Nat → Int → Int) (ws : List Int) (S : Nat → Int → Int) (base dd a v : Int) : Nat := 7890
noncomputable def rxzRY_25 : rx_Z := ([(0, 0), (0, 0), (0, 0), (0, 0), (0, 0), (0, 0), (0, 0), (0, 0), (0, 110), (0, 1), (4, 114), (0, 400)], [], [], 0, 0, 186, [(0, .inr (3, (0, 480))), (1, .inr (0, (8, 0))), (2, .inr (0, (9, 0)))], [])
noncomputable def rxIRY_26 (S0 : Nat → Int → Int) (ws : List Int) (S : Nat → Int → Int) (base dd : Int) : Prop := S 480 14 = 0 ∧ rxPy S0 S base 4 ∧ S 496 (base + 4) = S 480 18
noncomputable def rxmRY_26 (S0 : Nat → Int → Int) (ws : List Int) (S : Nat → Int → Int) (base dd : Int) : Nat := 7800
noncomputable def rxzRY_26 : rx_Z := ([(0, 0), (0, 0), (0, 0), (0, 0), (0, 0), (0, 0), (0, 0), (0, 0), (0, 110), (0, 1)], [], [], 0, 0, 208, [(0, .inr (3, (0, 480))), (1, .inr (0, (8, 0))), (2, .inr (0, (9, 0)))], [.inr (3, (0, 480))])
noncomputable def rxIRY_27 (S0 : Nat → Int → Int) (ws : List Int) (S : Nat → Int → Int) (base dd : Int) : Prop := S 480 14 = 0 ∧ rxPy S0 S base 4 ∧ S 496 (base + 4) = S 480 18
noncomputable def rxmRY_27 (S0 : Nat → Int → Int) (ws : List Int) (S : Nat → Int → Int) (base dd : Int) : Nat := 7790
noncomputable def rxzRY_27 : rx_Z := ([(0, 0), (0, 0), (0, 0), (0, 0), (0, 0), (0, 0), (0, 0), (0, 0), (0, 110), (0, 1)], [], [], 0, 0, 211, [(0, .inr (3, (0, 480))), (1, .inr (0, (8, 0))), (2, .inr (0, (9, 0)))], [])
noncomputable def rxIRY_28 (S0 : Nat → Int → Int) (ws : List Int) (S : Nat → Int → Int) (base dd : Int) : Prop := S 480 14 = 0 ∧ rxPy S0 S base 4 ∧ S 496 (base + 4) = S 480 18
noncomputable def rxmRY_28 (S0 : Nat → Int → Int) (ws : List Int) (S : Nat → Int → Int) (base dd : Int) : Nat := 7700
noncomputable def rxzRY_28 : rx_Z := ([(0, 0), (0, 0), (0, 0), (0, 0), (0, 0), (0, 0), (0, 0), (0, 0), (0, 110), (0, 1)], [], [], 0, 0, 213, [(0, .inr (3, (0, 480))), (1, .inr (0, (8, 0))), (2, .inr (0, (9, 0)))], [.inr (0, (0, 0)), .inr (3, (0, 480))])
noncomputable def rxIRY_29 (S0 : Nat → Int → Int) (ws : List Int) (S : Nat → Int → Int) (base dd : Int) : Prop := rxPy S0 S base 4
noncomputable def rxmRY_29 (S0 : Nat → Int → Int) (ws : List Int) (S : Nat → Int → Int) (base dd : Int) : Nat := 7690
noncomputable def rxzRY_29 : rx_Z := ([(0, 0), (0, 0), (0, 0), (0, 0), (0, 0), (0, 0), (0, 0), (0, 0), (0, 110), (0, 1)], [], [], 0, 0, 216, [(0, .inr (3, (0, 480))), (1, .inr (0, (8, 0))), (2, .inr (0, (9, 0)))], [])
noncomputable def rxIRY_30 (S0 : Nat → Int → Int) (ws : List Int) (S : Nat → Int → Int) (base dd a v : Int) : Prop := a = base + 5 ∧ v = S 480 18 ∧ rxPy S0 S base 4
noncomputable def rxmRY_30 (S0 : Nat → Int → Int) (ws : List Int) (S : Nat → Int → Int) (base dd a v : Int) : Nat := 7600
noncomputable def rxzRY_30 : rx_Z := ([(0, 0), (0, 0), (0, 0), (0, 0), (0, 0), (0, 0), (0, 0), (0, 0), (0, 110), (0, 1), (5, 115), (0, 400)], [], [], 0, 0, 227, [(0, .inr (3, (0, 480))), (1, .inr (0, (8, 0))), (2, .inr (0, (9, 0)))], [.inr (0, (11, 0)), .inr (0, (10, 0)), .inr (3, (0, 496))])
noncomputable def rxIRY_31 (S0 : Nat → Int → Int) (ws : List Int) (S : Nat → Int → Int) (base dd a v : Int) : Prop := rxPy S0 S base 5 ∧ S 496 (base + 5) = S 480 18
noncomputable def rxmRY_31 (S0 : Nat → Int → Int) (ws : List Int) (S : Nat → Int → Int) (base dd a v : Int) : Nat := 7590
noncomputable def rxzRY_31 : rx_Z := ([(0, 0), (0, 0), (0, 0), (0, 0), (0, 0), (0, 0), (0, 0), (0, 0), (0, 110), (0, 1), (5, 115), (0, 400)], [], [], 0, 0, 228, [(0, .inr (3, (0, 480))), (1, .inr (0, (8, 0))), (2, .inr (0, (9, 0)))], [])
noncomputable def rxIRY_32 (S0 : Nat → Int → Int) (ws : List Int) (S : Nat → Int → Int) (base dd : Int) : Prop := S 480 14 = 0 ∧ rxPy S0 S base 5 ∧ S 496 (base + 5) = S 480 18
noncomputable def rxmRY_32 (S0 : Nat → Int → Int) (ws : List Int) (S : Nat → Int → Int) (base dd : Int) : Nat := 7500
noncomputable def rxzRY_32 : rx_Z := ([(0, 0), (0, 0), (0, 0), (0, 0), (0, 0), (0, 0), (0, 0), (0, 0), (0, 110), (0, 1)], [], [], 0, 0, 246, [(0, .inr (3, (0, 480))), (1, .inr (0, (8, 0))), (2, .inr (0, (9, 0)))], [.inr (3, (0, 480))])
noncomputable def rxIRY_33 (S0 : Nat → Int → Int) (ws : List Int) (S : Nat → Int → Int) (base dd : Int) : Prop := S 480 14 = 0 ∧ rxPy S0 S base 5 ∧ S 496 (base + 5) = S 480 18
noncomputable def rxmRY_33 (S0 : Nat → Int → Int) (ws : List Int) (S : Nat → Int → Int) (base dd : Int) : Nat := 7490
noncomputable def rxzRY_33 : rx_Z := ([(0, 0), (0, 0), (0, 0), (0, 0), (0, 0), (0, 0), (0, 0), (0, 0), (0, 110), (0, 1)], [], [], 0, 0, 249, [(0, .inr (3, (0, 480))), (1, .inr (0, (8, 0))), (2, .inr (0, (9, 0)))], [])
noncomputable def rxIRY_34 (S0 : Nat → Int → Int) (ws : List Int) (S : Nat → Int → Int) (base dd : Int) : Prop := S 480 14 = 0 ∧ rxPy S0 S base 5 ∧ S 496 (base + 5) = S 480 18
noncomputable def rxmRY_34 (S0 : Nat → Int → Int) (ws : List Int) (S : Nat → Int → Int) (base dd : Int) : Nat := 7400
noncomputable def rxzRY_34 : rx_Z := ([(0, 0), (0, 0), (0, 0), (0, 0), (0, 0), (0, 0), (0, 0), (0, 0), (0, 110), (0, 1)], [], [], 0, 0, 251, [(0, .inr (3, (0, 480))), (1, .inr (0, (8, 0))), (2, .inr (0, (9, 0)))], [.inr (0, (0, 1)), .inr (3, (0, 480))])
noncomputable def rxIRY_35 (S0 : Nat → Int → Int) (ws : List Int) (S : Nat → Int → Int) (base dd : Int) : Prop := rxPy S0 S base 5
noncomputable def rxmRY_35 (S0 : Nat → Int → Int) (ws : List Int) (S : Nat → Int → Int) (base dd : Int) : Nat := 7390
noncomputable def rxzRY_35 : rx_Z := ([(0, 0), (0, 0), (0, 0), (0, 0), (0, 0), (0, 0), (0, 0), (0, 0), (0, 110), (0, 1)], [], [], 0, 0, 254, [(0, .inr (3, (0, 480))), (1, .inr (0, (8, 0))), (2, .inr (0, (9, 0)))], [])
noncomputable def rxIRY_36 (S0 : Nat → Int → Int) (ws : List Int) (S : Nat → Int → Int) (base dd a v : Int) : Prop := a = base + 6 ∧ v = S 480 18 ∧ rxPy S0 S base 5
noncomputable def rxmRY_36 (S0 : Nat → Int → Int) (ws : List Int) (S : Nat → Int → Int) (base dd a v : Int) : Nat := 7300
noncomputable def rxzRY_36 : rx_Z := ([(0, 0), (0, 0), (0, 0), (0, 0), (0, 0), (0, 0), (0, 0), (0, 0), (0, 110), (0, 1), (6, 116), (0, 400)], [], [], 0, 0, 266, [(0, .inr (3, (0, 480))), (1, .inr (0, (8, 0))), (2, .inr (0, (9, 0)))], [.inr (0, (11, 0)), .inr (0, (10, 0)), .inr (3, (0, 496))])
noncomputable def rxIRY_37 (S0 : Nat → Int → Int) (ws : List Int) (S : Nat → Int → Int) (base dd a v : Int) : Prop := rxPy S0 S base 6
noncomputable def rxmRY_37 (S0 : Nat → Int → Int) (ws : List Int) (S : Nat → Int → Int) (base dd a v : Int) : Nat := 7290
noncomputable def rxzRY_37 : rx_Z := ([(0, 0), (0, 0), (0, 0), (0, 0), (0, 0), (0, 0), (0, 0), (0, 0), (0, 110), (0, 1), (6, 116), (0, 400)], [], [], 0, 0, 267, [(0, .inr (3, (0, 480))), (1, .inr (0, (8, 0))), (2, .inr (0, (9, 0)))], [])
noncomputable def rxoRY_0_0 : bx_HO := (([(0, 0), (0, 0), (0, 0), (0, 0), (0, 0), (0, 0), (0, 0), (0, 0), (0, 3)], [(3, (8, 0), (0, 1))], [(((0, 0), 1851192626986356799632114105031551009123054124018230966928539648000000), .inr (0, (8, 0))), (((0, 480), 11), .inr (0, (8, 0)))], 0, 0, 25, [(0, .inr (3, (0, 480)))], [.inr (0, (0, 0)), .inr (3, (0, 480))]), [], [], [(0, 0), (0, 0), (0, 0), (0, 0), (0, 0), (0, 0), (0, 0), (0, 0), (0, 0)], 1)
noncomputable def rxoRY_0_1 : bx_HO := (([(0, 0), (0, 0), (0, 0), (0, 0), (0, 0), (0, 0), (0, 0), (0, 0), (1, 1), ((-9223372036854775808), 9223372036854775807)], [(3, (9, 0), (0, 302))], [(((0, 0), 1851192626986356799832820811818326617396875588472066220482363392000000), .inr (1, (9, 0))), (((0, 480), 12), .inr (1, (9, 0))), (((0, 0), 1851192626986356799632114105031551009123054124018230966928539648000000), .inr (0, (8, 0))), (((0, 480), 11), .inr (0, (8, 0)))], 0, 0, 25, [(0, .inr (3, (0, 480)))], [.inr (0, (0, 0)), .inr (3, (0, 480))]), [], [], [(0, 0), (0, 0), (0, 0), (0, 0), (0, 0), (0, 0), (0, 0), (0, 0), (0, 0)], 1)
noncomputable def rxoRY_0_2 : bx_HO := (([(0, 0), (0, 0), (0, 0), (0, 0), (0, 0), (0, 0), (0, 0), (0, 0), (1, 1), (302, 302), (0, 11)], [], [(((0, 0), 1851192626986356800635647638965429050492161446287407234697658368000000), .inr (0, (10, 0))), (((0, 480), 16), .inr (0, (10, 0))), (((0, 0), 1851192626986356799832820811818326617396875588472066220482363392000000), .inr (1, (9, 0))), (((0, 480), 12), .inr (1, (9, 0))), (((0, 0), 1851192626986356799632114105031551009123054124018230966928539648000000), .inr (0, (8, 0))), (((0, 480), 11), .inr (0, (8, 0)))], 0, 0, 25, [(0, .inr (3, (0, 480)))], [.inr (0, (0, 1)), .inr (3, (0, 480))]), [], [], [(0, 0), (0, 0), (0, 0), (0, 0), (0, 0), (0, 0), (0, 0), (0, 0), (0, 1)], 1)
noncomputable def rxoRY_0_3 : bx_HO := (([(0, 0), (0, 0), (0, 0), (0, 0), (0, 0), (0, 0), (0, 0), (0, 0), (1, 1), (302, 302), (12, 12)], [], [(((0, 0), 1851192626986356800635647638965429050492161446287407234697658368000000), .inr (0, (10, 0))), (((0, 480), 16), .inr (0, (10, 0))), (((0, 0), 1851192626986356799832820811818326617396875588472066220482363392000000), .inr (1, (9, 0))), (((0, 480), 12), .inr (1, (9, 0))), (((0, 0), 1851192626986356799632114105031551009123054124018230966928539648000000), .inr (0, (8, 0))), (((0, 480), 11), .inr (0, (8, 0)))], 0, 0, 25, [(0, .inr (3, (0, 480)))], [.inr (0, (0, 0)), .inr (3, (0, 480))]), [], [], [(0, 0), (0, 0), (0, 0), (0, 0), (0, 0), (0, 0), (0, 0), (0, 0), (0, 0)], 1)
noncomputable def rxoRY_2_0 : bx_HO := (([(0, 0), (0, 0), (0, 0), (0, 0), (0, 0), (0, 0), (0, 0), (0, 0), (0, 1), (0, 0), (0, 12)], [], [(((0, 0), 1851192626986356800635647638965429050492161446287407234697658368000000), .inr (0, (10, 0))), (((0, 480), 16), .inr (0, (10, 0))), (((0, 0), 1851192626986356800234234225391877833944518517379736727590010880000000), .inr (0, (9, 0))), (((0, 480), 14), .inr (0, (9, 0)))], 0, 0, 42, [(0, .inr (3, (0, 480)))], [.inr (0, (10, 0)), .inr (0, (0, 10))]), [(10, 0, 11)], [], [(0, 0), (0, 0), (0, 0), (0, 0), (0, 0), (0, 0), (0, 0), (0, 0), (10, 0)], 3)
noncomputable def rxeRY_2_0 : rx_End × List (Nat × Int × Int) := (([(0, 0), (0, 0), (0, 0), (0, 0), (0, 0), (0, 0), (0, 0), (0, 0), (0, 1), (1, 1)], [(3, (9, 0), (0, 0))], [(((0, 0), 1851192626986356800234234225391877833944518517379736727590010880000000), .inr (0, (9, 0))), (((0, 480), 14), .inr (0, (9, 0)))], none), [])
noncomputable def rxoRY_3_0 : bx_HO := (([(0, 0), (0, 0), (0, 0), (0, 0), (0, 0), (0, 0), (0, 0), (0, 0), (0, 11), (0, 110), (0, 12)], [(14, (9, 0), (8, 0))], [(((0, 0), 1851192626986356800635647638965429050492161446287407234697658368000000), .inr (0, (10, 0))), (((0, 480), 16), .inr (0, (10, 0)))], 0, 0, 49, [(1, .inr (0, (9, 0))), (0, .inr (3, (0, 480)))], [.inr (0, (10, 0)), .inr (3, (0, 480))]), [(10, 0, 11)], [], [(0, 0), (0, 0), (0, 0), (0, 0), (0, 0), (0, 0), (0, 0), (0, 0), (9, 0), (10, 0)], 4)
noncomputable def rxoRY_4_0 : bx_HO := (([(0, 0), (0, 0), (0, 0), (0, 0), (0, 0), (0, 0), (0, 0), (0, 0), (0, 110), (0, 11)], [], [(((0, 480), 35), .inr (3, (0, 496))), (((0, 0), 1851192626986356800635647638965429050492161446287407234697658371000000), .inr (0, (9, 1))), (((0, 480), 16), .inr (0, (9, 1)))], 0, 0, 60, [(0, .inr (3, (0, 480))), (1, .inr (0, (8, 0)))], [.inr (3, (0, 480)), .inr (0, (8, 0)), .inr (3, (0, 496))]), [], [], [(0, 0), (0, 0), (0, 0), (0, 0), (0, 0), (0, 0), (0, 0), (0, 0), (8, 0), (8, 0)], 5)
noncomputable def rxoRY_7_0 : bx_HO := (([(0, 0), (0, 0), (0, 0), (0, 0), (0, 0), (0, 0), (0, 0), (0, 0), (0, 110), (0, 110), ((-2147483648), 2147483647)], [], [], 0, 0, 69, [(0, .inr (3, (0, 480))), (1, .inr (0, (8, 0)))], [.inr (1, (0, 52)), .inr (3, (0, 480)), .inr (3, (0, 480))]), [], [], [(0, 0), (0, 0), (0, 0), (0, 0), (0, 0), (0, 0), (0, 0), (0, 0), (8, 0)], 8)
noncomputable def rxoRY_10_0 : bx_HO := (([(0, 0), (0, 0), (0, 0), (0, 0), (0, 0), (0, 0), (0, 0), (0, 0), (0, 110), (0, 1), (1, 1)], [(3, (10, 0), (0, 0))], [(((0, 0), 1851192626986356800234234225391877833944518517379736727590010880000000), .inr (0, (10, 0))), (((0, 480), 14), .inr (0, (10, 0))), (((0, 480), 35), .inr (3, (0, 496)))], 0, 0, 97, [(0, .inr (3, (0, 480))), (1, .inr (0, (8, 0)))], [.inr (0, (0, 0)), .inr (0, (8, 1)), .inr (3, (0, 496))]), [], [], [(0, 0), (0, 0), (0, 0), (0, 0), (0, 0), (0, 0), (0, 0), (0, 0), (8, 0), (8, 1), (0, 0)], 14)
noncomputable def rxoRY_10_1 : bx_HO := (([(0, 0), (0, 0), (0, 0), (0, 0), (0, 0), (0, 0), (0, 0), (0, 0), (0, 110), (0, 1), (0, 0)], [], [(((0, 0), 1851192626986356800234234225391877833944518517379736727590010880000000), .inr (0, (10, 0))), (((0, 480), 14), .inr (0, (10, 0))), (((0, 480), 35), .inr (3, (0, 496)))], 0, 0, 94, [(0, .inr (3, (0, 480))), (1, .inr (0, (8, 0)))], [.inr (3, (0, 480)), .inr (0, (8, 1)), .inr (3, (0, 496))]), [], [], [(0, 0), (0, 0), (0, 0), (0, 0), (0, 0), (0, 0), (0, 0), (0, 0), (8, 0), (8, 1)], 11)
noncomputable def rxoRY_13_0 : bx_HO := (([(0, 0), (0, 0), (0, 0), (0, 0), (0, 0), (0, 0), (0, 0), (0, 0), (0, 110), (1, 111), ((-2147483648), 2147483647), (0, 3)], [(3, (11, 0), (0, 1)), (3, (11, 0), (0, 1))], [(((0, 0), 1851192626986356799632114105031551009123054124018230966928539648000000), .inr (0, (11, 0))), (((0, 480), 11), .inr (0, (11, 0)))], 0, 0, 126, [(2, .inr (0, (0, 0))), (0, .inr (3, (0, 480))), (1, .inr (0, (8, 0)))], [.inr (0, (0, 0)), .inr (3, (0, 480))]), [], [], [(0, 0), (0, 0), (0, 0), (0, 0), (0, 0), (0, 0), (0, 0), (0, 0), (8, 0), (0, 0), (0, 0)], 16)
noncomputable def rxoRY_13_1 : bx_HO := (([(0, 0), (0, 0), (0, 0), (0, 0), (0, 0), (0, 0), (0, 0), (0, 0), (0, 110), (1, 111), ((-2147483648), 2147483647), (1, 1), ((-9223372036854775808), 9223372036854775807)], [(3, (12, 0), (0, 19513)), (3, (12, 0), (0, 284264))], [(((0, 0), 1851192626986356799832820811818326617396875588472066220482363392000000), .inr (1, (12, 0))), (((0, 480), 12), .inr (1, (12, 0))), (((0, 0), 1851192626986356799632114105031551009123054124018230966928539648000000), .inr (0, (11, 0))), (((0, 480), 11), .inr (0, (11, 0)))], 0, 0, 126, [(2, .inr (0, (0, 0))), (0, .inr (3, (0, 480))), (1, .inr (0, (8, 0)))], [.inr (0, (0, 0)), .inr (3, (0, 480))]), [], [], [(0, 0), (0, 0), (0, 0), (0, 0), (0, 0), (0, 0), (0, 0), (0, 0), (8, 0), (0, 0), (0, 0)], 16)
noncomputable def rxoRY_13_2 : bx_HO := (([(0, 0), (0, 0), (0, 0), (0, 0), (0, 0), (0, 0), (0, 0), (0, 0), (0, 110), (1, 111), ((-2147483648), 2147483647), (1, 1), (19513, 19513)], [(3, (12, 0), (0, 284264))], [(((0, 0), 1851192626986356799832820811818326617396875588472066220482363392000000), .inr (1, (12, 0))), (((0, 480), 12), .inr (1, (12, 0))), (((0, 0), 1851192626986356799632114105031551009123054124018230966928539648000000), .inr (0, (11, 0))), (((0, 480), 11), .inr (0, (11, 0)))], 0, 0, 126, [(2, .inr (0, (0, 0))), (0, .inr (3, (0, 480))), (1, .inr (0, (8, 0)))], [.inr (0, (0, 1)), .inr (3, (0, 480))]), [], [], [(0, 0), (0, 0), (0, 0), (0, 0), (0, 0), (0, 0), (0, 0), (0, 0), (8, 0), (0, 0), (0, 1)], 16)
noncomputable def rxoRY_13_3 : bx_HO := (([(0, 0), (0, 0), (0, 0), (0, 0), (0, 0), (0, 0), (0, 0), (0, 0), (0, 110), (1, 111), ((-2147483648), 2147483647), (1, 1), (284264, 284264)], [], [(((0, 0), 1851192626986356799832820811818326617396875588472066220482363392000000), .inr (1, (12, 0))), (((0, 480), 12), .inr (1, (12, 0))), (((0, 0), 1851192626986356799632114105031551009123054124018230966928539648000000), .inr (0, (11, 0))), (((0, 480), 11), .inr (0, (11, 0)))], 0, 0, 126, [(2, .inr (0, (0, 1))), (0, .inr (3, (0, 480))), (1, .inr (0, (8, 0)))], [.inr (0, (0, 1)), .inr (3, (0, 480))]), [], [], [(0, 0), (0, 0), (0, 0), (0, 0), (0, 0), (0, 0), (0, 0), (0, 0), (8, 0), (0, 1), (0, 1)], 16)
noncomputable def rxoRY_15_0 : bx_HO := (([(0, 0), (0, 0), (0, 0), (0, 0), (0, 0), (0, 0), (0, 0), (0, 0), (0, 110), (1, 111), (0, 0), (0, 3)], [(3, (11, 0), (0, 1)), (3, (11, 0), (0, 1))], [(((0, 0), 1851192626986356799632114105031551009123054124018230966928539648000000), .inr (0, (11, 0))), (((0, 480), 11), .inr (0, (11, 0)))], 0, 0, 126, [(2, .inr (0, (0, 0))), (0, .inr (3, (0, 480))), (1, .inr (0, (8, 0)))], [.inr (0, (0, 0)), .inr (3, (0, 480))]), [], [], [(0, 0), (0, 0), (0, 0), (0, 0), (0, 0), (0, 0), (0, 0), (0, 0), (8, 0), (0, 0), (0, 0)], 16)
noncomputable def rxoRY_15_1 : bx_HO := (([(0, 0), (0, 0), (0, 0), (0, 0), (0, 0), (0, 0), (0, 0), (0, 0), (0, 110), (1, 111), (0, 0), (1, 1), ((-9223372036854775808), 9223372036854775807)], [(3, (12, 0), (0, 19513)), (3, (12, 0), (0, 284264))], [(((0, 0), 1851192626986356799832820811818326617396875588472066220482363392000000), .inr (1, (12, 0))), (((0, 480), 12), .inr (1, (12, 0))), (((0, 0), 1851192626986356799632114105031551009123054124018230966928539648000000), .inr (0, (11, 0))), (((0, 480), 11), .inr (0, (11, 0)))], 0, 0, 126, [(2, .inr (0, (0, 0))), (0, .inr (3, (0, 480))), (1, .inr (0, (8, 0)))], [.inr (0, (0, 0)), .inr (3, (0, 480))]), [], [], [(0, 0), (0, 0), (0, 0), (0, 0), (0, 0), (0, 0), (0, 0), (0, 0), (8, 0), (0, 0), (0, 0)], 16)
noncomputable def rxoRY_15_2 : bx_HO := (([(0, 0), (0, 0), (0, 0), (0, 0), (0, 0), (0, 0), (0, 0), (0, 0), (0, 110), (1, 111), (0, 0), (1, 1), (19513, 19513)], [(3, (12, 0), (0, 284264))], [(((0, 0), 1851192626986356799832820811818326617396875588472066220482363392000000), .inr (1, (12, 0))), (((0, 480), 12), .inr (1, (12, 0))), (((0, 0), 1851192626986356799632114105031551009123054124018230966928539648000000), .inr (0, (11, 0))), (((0, 480), 11), .inr (0, (11, 0)))], 0, 0, 126, [(2, .inr (0, (0, 0))), (0, .inr (3, (0, 480))), (1, .inr (0, (8, 0)))], [.inr (0, (0, 1)), .inr (3, (0, 480))]), [], [], [(0, 0), (0, 0), (0, 0), (0, 0), (0, 0), (0, 0), (0, 0), (0, 0), (8, 0), (0, 0), (0, 1)], 16)
noncomputable def rxoRY_15_3 : bx_HO := (([(0, 0), (0, 0), (0, 0), (0, 0), (0, 0), (0, 0), (0, 0), (0, 0), (0, 110), (1, 111), (0, 0), (1, 1), (284264, 284264)], [], [(((0, 0), 1851192626986356799832820811818326617396875588472066220482363392000000), .inr (1, (12, 0))), (((0, 480), 12), .inr (1, (12, 0))), (((0, 0), 1851192626986356799632114105031551009123054124018230966928539648000000), .inr (0, (11, 0))), (((0, 480), 11), .inr (0, (11, 0)))], 0, 0, 126, [(2, .inr (0, (0, 1))), (0, .inr (3, (0, 480))), (1, .inr (0, (8, 0)))], [.inr (0, (0, 1)), .inr (3, (0, 480))]), [], [], [(0, 0), (0, 0), (0, 0), (0, 0), (0, 0), (0, 0), (0, 0), (0, 0), (8, 0), (0, 1), (0, 1)], 16)
noncomputable def rxoRY_17_0 : bx_HO := (([(0, 0), (0, 0), (0, 0), (0, 0), (0, 0), (0, 0), (0, 0), (0, 0), (0, 110), (1, 1), (0, 1)], [(3, (9, 0), (0, 0))], [(((0, 480), 35), .inr (3, (0, 496)))], 0, 0, 145, [(0, .inr (3, (0, 480))), (1, .inr (0, (8, 0))), (2, .inr (0, (9, 0)))], [.inr (0, (0, 1)), .inr (0, (8, 2)), .inr (3, (0, 496))]), [], [], [(0, 0), (0, 0), (0, 0), (0, 0), (0, 0), (0, 0), (0, 0), (0, 0), (8, 0), (9, 0), (8, 2), (0, 1)], 18)
noncomputable def rxoRY_17_1 : bx_HO := (([(0, 0), (0, 0), (0, 0), (0, 0), (0, 0), (0, 0), (0, 0), (0, 0), (0, 110), (0, 0), (0, 1)], [], [(((0, 480), 35), .inr (3, (0, 496)))], 0, 0, 145, [(0, .inr (3, (0, 480))), (1, .inr (0, (8, 0))), (2, .inr (0, (9, 0)))], [.inr (0, (0, 0)), .inr (0, (8, 2)), .inr (3, (0, 496))]), [], [], [(0, 0), (0, 0), (0, 0), (0, 0), (0, 0), (0, 0), (0, 0), (0, 0), (8, 0), (9, 0), (8, 2), (0, 0)], 18)
noncomputable def rxoRY_19_0 : bx_HO := (([(0, 0), (0, 0), (0, 0), (0, 0), (0, 0), (0, 0), (0, 0), (0, 0), (0, 110), (0, 1), (2, 112), (0, 1), (0, 400)], [], [(((0, 0), 1851192626986356801037061052538980267039804375195077741805305856000000), .inr (0, (12, 0))), (((0, 480), 18), .inr (0, (12, 0))), (((0, 480), 35), .inr (3, (0, 496)))], 0, 0, 157, [(0, .inr (3, (0, 480))), (1, .inr (0, (8, 0))), (2, .inr (0, (9, 0)))], [.inr (0, (12, 0)), .inr (0, (8, 3)), .inr (3, (0, 496))]), [], [], [(0, 0), (0, 0), (0, 0), (0, 0), (0, 0), (0, 0), (0, 0), (0, 0), (8, 0), (9, 0), (8, 3), (12, 0)], 20)
noncomputable def rxoRY_21_0 : bx_HO := (([(0, 0), (0, 0), (0, 0), (0, 0), (0, 0), (0, 0), (0, 0), (0, 0), (0, 110), (0, 0), (3, 113), (0, 400), (0, 0)], [], [(((0, 0), 1851192626986356800234234225391877833944518517379736727590010880000000), .inr (0, (12, 0))), (((0, 480), 14), .inr (0, (12, 0)))], 0, 0, 171, [(0, .inr (3, (0, 480))), (1, .inr (0, (8, 0))), (2, .inr (0, (9, 0)))], [.inr (0, (0, 0)), .inr (3, (0, 480))]), [], [], [(0, 0), (0, 0), (0, 0), (0, 0), (0, 0), (0, 0), (0, 0), (0, 0), (8, 0), (9, 0)], 22)
noncomputable def rxoRY_21_1 : bx_HO := (([(0, 0), (0, 0), (0, 0), (0, 0), (0, 0), (0, 0), (0, 0), (0, 0), (0, 110), (1, 1), (3, 113), (0, 400), (0, 0), (0, 400)], [(3, (9, 0), (0, 0))], [(((0, 0), 1851192626986356801037061052538980267039804375195077741805305856000000), .inr (0, (13, 0))), (((0, 480), 18), .inr (0, (13, 0))), (((0, 480), 35), .inr (3, (0, 496))), (((0, 0), 1851192626986356800234234225391877833944518517379736727590010880000000), .inr (0, (12, 0))), (((0, 480), 14), .inr (0, (12, 0)))], 0, 0, 185, [(0, .inr (3, (0, 480))), (1, .inr (0, (8, 0))), (2, .inr (0, (9, 0)))], [.inr (0, (13, 0)), .inr (0, (8, 4)), .inr (3, (0, 496))]), [], [], [(0, 0), (0, 0), (0, 0), (0, 0), (0, 0), (0, 0), (0, 0), (0, 0), (8, 0), (9, 0), (8, 4), (13, 0)], 24)
noncomputable def rxoRY_21_2 : bx_HO := (([(0, 0), (0, 0), (0, 0), (0, 0), (0, 0), (0, 0), (0, 0), (0, 0), (0, 110), (0, 1), (3, 113), (0, 400), (1, 1), (0, 400)], [(3, (12, 0), (0, 0))], [(((0, 0), 1851192626986356801037061052538980267039804375195077741805305856000000), .inr (0, (13, 0))), (((0, 480), 18), .inr (0, (13, 0))), (((0, 480), 35), .inr (3, (0, 496))), (((0, 0), 1851192626986356800234234225391877833944518517379736727590010880000000), .inr (0, (12, 0))), (((0, 480), 14), .inr (0, (12, 0)))], 0, 0, 185, [(0, .inr (3, (0, 480))), (1, .inr (0, (8, 0))), (2, .inr (0, (9, 0)))], [.inr (0, (13, 0)), .inr (0, (8, 4)), .inr (3, (0, 496))]), [], [], [(0, 0), (0, 0), (0, 0), (0, 0), (0, 0), (0, 0), (0, 0), (0, 0), (8, 0), (9, 0), (8, 4), (13, 0)], 24)
noncomputable def rxoRY_23_0 : bx_HO := (([(0, 0), (0, 0), (0, 0), (0, 0), (0, 0), (0, 0), (0, 0), (0, 0), (0, 110), (0, 1), (0, 400)], [], [(((0, 0), 1851192626986356801037061052538980267039804375195077741805305856000000), .inr (0, (10, 0))), (((0, 480), 18), .inr (0, (10, 0))), (((0, 480), 35), .inr (3, (0, 496)))], 0, 0, 185, [(0, .inr (3, (0, 480))), (1, .inr (0, (8, 0))), (2, .inr (0, (9, 0)))], [.inr (0, (10, 0)), .inr (0, (8, 4)), .inr (3, (0, 496))]), [], [], [(0, 0), (0, 0), (0, 0), (0, 0), (0, 0), (0, 0), (0, 0), (0, 0), (8, 0), (9, 0), (8, 4), (10, 0)], 24)
noncomputable def rxoRY_25_0 : bx_HO := (([(0, 0), (0, 0), (0, 0), (0, 0), (0, 0), (0, 0), (0, 0), (0, 0), (0, 110), (0, 0), (4, 114), (0, 400), (0, 0), (0, 3), (0, 400)], [(3, (13, 0), (0, 1))], [(((0, 0), 1851192626986356801037061052538980267039804375195077741805305856000000), .inr (0, (14, 0))), (((0, 480), 18), .inr (0, (14, 0))), (((0, 480), 35), .inr (3, (0, 496))), (((0, 0), 1851192626986356799632114105031551009123054124018230966928539648000000), .inr (0, (13, 0))), (((0, 480), 11), .inr (0, (13, 0))), (((0, 0), 1851192626986356800234234225391877833944518517379736727590010880000000), .inr (0, (12, 0))), (((0, 480), 14), .inr (0, (12, 0)))], 0, 0, 227, [(0, .inr (3, (0, 480))), (1, .inr (0, (8, 0))), (2, .inr (0, (9, 0)))], [.inr (0, (14, 0)), .inr (0, (8, 5)), .inr (3, (0, 496))]), [], [], [(0, 0), (0, 0), (0, 0), (0, 0), (0, 0), (0, 0), (0, 0), (0, 0), (8, 0), (9, 0), (8, 5), (14, 0)], 30)
noncomputable def rxoRY_25_1 : bx_HO := (([(0, 0), (0, 0), (0, 0), (0, 0), (0, 0), (0, 0), (0, 0), (0, 0), (0, 110), (0, 0), (4, 114), (0, 400), (0, 0), (1, 1), ((-9223372036854775808), 9223372036854775807), (0, 400)], [(3, (14, 0), (0, 239))], [(((0, 0), 1851192626986356801037061052538980267039804375195077741805305856000000), .inr (0, (15, 0))), (((0, 480), 18), .inr (0, (15, 0))), (((0, 480), 35), .inr (3, (0, 496))), (((0, 0), 1851192626986356799832820811818326617396875588472066220482363392000000), .inr (1, (14, 0))), (((0, 480), 12), .inr (1, (14, 0))), (((0, 0), 1851192626986356799632114105031551009123054124018230966928539648000000), .inr (0, (13, 0))), (((0, 480), 11), .inr (0, (13, 0))), (((0, 0), 1851192626986356800234234225391877833944518517379736727590010880000000), .inr (0, (12, 0))), (((0, 480), 14), .inr (0, (12, 0)))], 0, 0, 227, [(0, .inr (3, (0, 480))), (1, .inr (0, (8, 0))), (2, .inr (0, (9, 0)))], [.inr (0, (15, 0)), .inr (0, (8, 5)), .inr (3, (0, 496))]), [], [], [(0, 0), (0, 0), (0, 0), (0, 0), (0, 0), (0, 0), (0, 0), (0, 0), (8, 0), (9, 0), (8, 5), (15, 0)], 30)
noncomputable def rxoRY_25_2 : bx_HO := (([(0, 0), (0, 0), (0, 0), (0, 0), (0, 0), (0, 0), (0, 0), (0, 0), (0, 110), (0, 0), (4, 114), (0, 400), (0, 0), (1, 1), (239, 239)], [], [(((0, 0), 1851192626986356799832820811818326617396875588472066220482363392000000), .inr (1, (14, 0))), (((0, 480), 12), .inr (1, (14, 0))), (((0, 0), 1851192626986356799632114105031551009123054124018230966928539648000000), .inr (0, (13, 0))), (((0, 480), 11), .inr (0, (13, 0))), (((0, 0), 1851192626986356800234234225391877833944518517379736727590010880000000), .inr (0, (12, 0))), (((0, 480), 14), .inr (0, (12, 0)))], 0, 0, 208, [(0, .inr (3, (0, 480))), (1, .inr (0, (8, 0))), (2, .inr (0, (9, 0)))], [.inr (3, (0, 480))]), [], [], [(0, 0), (0, 0), (0, 0), (0, 0), (0, 0), (0, 0), (0, 0), (0, 0), (8, 0), (9, 0)], 26)
noncomputable def rxoRY_25_3 : bx_HO := (([(0, 0), (0, 0), (0, 0), (0, 0), (0, 0), (0, 0), (0, 0), (0, 0), (0, 110), (1, 1), (4, 114), (0, 400), (0, 0), (0, 400)], [(3, (9, 0), (0, 0))], [(((0, 0), 1851192626986356801037061052538980267039804375195077741805305856000000), .inr (0, (13, 0))), (((0, 480), 18), .inr (0, (13, 0))), (((0, 480), 35), .inr (3, (0, 496))), (((0, 0), 1851192626986356800234234225391877833944518517379736727590010880000000), .inr (0, (12, 0))), (((0, 480), 14), .inr (0, (12, 0)))], 0, 0, 227, [(0, .inr (3, (0, 480))), (1, .inr (0, (8, 0))), (2, .inr (0, (9, 0)))], [.inr (0, (13, 0)), .inr (0, (8, 5)), .inr (3, (0, 496))]), [], [], [(0, 0), (0, 0), (0, 0), (0, 0), (0, 0), (0, 0), (0, 0), (0, 0), (8, 0), (9, 0), (8, 5), (13, 0)], 30)
noncomputable def rxoRY_25_4 : bx_HO := (([(0, 0), (0, 0), (0, 0), (0, 0), (0, 0), (0, 0), (0, 0), (0, 0), (0, 110), (0, 1), (4, 114), (0, 400), (1, 1), (0, 400)], [(3, (12, 0), (0, 0))], [(((0, 0), 1851192626986356801037061052538980267039804375195077741805305856000000), .inr (0, (13, 0))), (((0, 480), 18), .inr (0, (13, 0))), (((0, 480), 35), .inr (3, (0, 496))), (((0, 0), 1851192626986356800234234225391877833944518517379736727590010880000000), .inr (0, (12, 0))), (((0, 480), 14), .inr (0, (12, 0)))], 0, 0, 227, [(0, .inr (3, (0, 480))), (1, .inr (0, (8, 0))), (2, .inr (0, (9, 0)))], [.inr (0, (13, 0)), .inr (0, (8, 5)), .inr (3, (0, 496))]), [], [], [(0, 0), (0, 0), (0, 0), (0, 0), (0, 0), (0, 0), (0, 0), (0, 0), (8, 0), (9, 0), (8, 5), (13, 0)], 30)
noncomputable def rxoRY_27_0 : bx_HO := (([(0, 0), (0, 0), (0, 0), (0, 0), (0, 0), (0, 0), (0, 0), (0, 0), (0, 110), (0, 1)], [], [], 0, 0, 213, [(0, .inr (3, (0, 480))), (1, .inr (0, (8, 0))), (2, .inr (0, (9, 0)))], [.inr (0, (0, 0)), .inr (3, (0, 480))]), [], [], [(0, 0), (0, 0), (0, 0), (0, 0), (0, 0), (0, 0), (0, 0), (0, 0), (8, 0), (9, 0)], 28)
noncomputable def rxoRY_29_0 : bx_HO := (([(0, 0), (0, 0), (0, 0), (0, 0), (0, 0), (0, 0), (0, 0), (0, 0), (0, 110), (0, 1), (0, 400)], [], [(((0, 0), 1851192626986356801037061052538980267039804375195077741805305856000000), .inr (0, (10, 0))), (((0, 480), 18), .inr (0, (10, 0))), (((0, 480), 35), .inr (3, (0, 496)))], 0, 0, 227, [(0, .inr (3, (0, 480))), (1, .inr (0, (8, 0))), (2, .inr (0, (9, 0)))], [.inr (0, (10, 0)), .inr (0, (8, 5)), .inr (3, (0, 496))]), [], [], [(0, 0), (0, 0), (0, 0), (0, 0), (0, 0), (0, 0), (0, 0), (0, 0), (8, 0), (9, 0), (8, 5), (10, 0)], 30)
noncomputable def rxoRY_31_0 : bx_HO := (([(0, 0), (0, 0), (0, 0), (0, 0), (0, 0), (0, 0), (0, 0), (0, 0), (0, 110), (0, 1), (5, 115), (0, 400), (0, 0), (0, 3), (0, 400)], [(3, (13, 0), (0, 1))], [(((0, 0), 1851192626986356801037061052538980267039804375195077741805305856000000), .inr (0, (14, 0))), (((0, 480), 18), .inr (0, (14, 0))), (((0, 480), 35), .inr (3, (0, 496))), (((0, 0), 1851192626986356799632114105031551009123054124018230966928539648000000), .inr (0, (13, 0))), (((0, 480), 11), .inr (0, (13, 0))), (((0, 0), 1851192626986356800234234225391877833944518517379736727590010880000000), .inr (0, (12, 0))), (((0, 480), 14), .inr (0, (12, 0)))], 0, 0, 266, [(0, .inr (3, (0, 480))), (1, .inr (0, (8, 0))), (2, .inr (0, (9, 0)))], [.inr (0, (14, 0)), .inr (0, (8, 6)), .inr (3, (0, 496))]), [], [], [(0, 0), (0, 0), (0, 0), (0, 0), (0, 0), (0, 0), (0, 0), (0, 0), (8, 0), (9, 0), (8, 6), (14, 0)], 36)
noncomputable def rxoRY_31_1 : bx_HO := (([(0, 0), (0, 0), (0, 0), (0, 0), (0, 0), (0, 0), (0, 0), (0, 0), (0, 110), (0, 1), (5, 115), (0, 400), (0, 0), (1, 1), ((-9223372036854775808), 9223372036854775807), (0, 400)], [(3, (14, 0), (0, 294))], [(((0, 0), 1851192626986356801037061052538980267039804375195077741805305856000000), .inr (0, (15, 0))), (((0, 480), 18), .inr (0, (15, 0))), (((0, 480), 35), .inr (3, (0, 496))), (((0, 0), 1851192626986356799832820811818326617396875588472066220482363392000000), .inr (1, (14, 0))), (((0, 480), 12), .inr (1, (14, 0))), (((0, 0), 1851192626986356799632114105031551009123054124018230966928539648000000), .inr (0, (13, 0))), (((0, 480), 11), .inr (0, (13, 0))), (((0, 0), 1851192626986356800234234225391877833944518517379736727590010880000000), .inr (0, (12, 0))), (((0, 480), 14), .inr (0, (12, 0)))], 0, 0, 266, [(0, .inr (3, (0, 480))), (1, .inr (0, (8, 0))), (2, .inr (0, (9, 0)))], [.inr (0, (15, 0)), .inr (0, (8, 6)), .inr (3, (0, 496))]), [], [], [(0, 0), (0, 0), (0, 0), (0, 0), (0, 0), (0, 0), (0, 0), (0, 0), (8, 0), (9, 0), (8, 6), (15, 0)], 36)
noncomputable def rxoRY_31_2 : bx_HO := (([(0, 0), (0, 0), (0, 0), (0, 0), (0, 0), (0, 0), (0, 0), (0, 0), (0, 110), (0, 1), (5, 115), (0, 400), (0, 0), (1, 1), (294, 294)], [], [(((0, 0), 1851192626986356799832820811818326617396875588472066220482363392000000), .inr (1, (14, 0))), (((0, 480), 12), .inr (1, (14, 0))), (((0, 0), 1851192626986356799632114105031551009123054124018230966928539648000000), .inr (0, (13, 0))), (((0, 480), 11), .inr (0, (13, 0))), (((0, 0), 1851192626986356800234234225391877833944518517379736727590010880000000), .inr (0, (12, 0))), (((0, 480), 14), .inr (0, (12, 0)))], 0, 0, 246, [(0, .inr (3, (0, 480))), (1, .inr (0, (8, 0))), (2, .inr (0, (9, 0)))], [.inr (3, (0, 480))]), [], [], [(0, 0), (0, 0), (0, 0), (0, 0), (0, 0), (0, 0), (0, 0), (0, 0), (8, 0), (9, 0)], 32)
noncomputable def rxoRY_31_3 : bx_HO := (([(0, 0), (0, 0), (0, 0), (0, 0), (0, 0), (0, 0), (0, 0), (0, 0), (0, 110), (0, 1), (5, 115), (0, 400), (1, 1), (0, 400)], [(3, (12, 0), (0, 0))], [(((0, 0), 1851192626986356801037061052538980267039804375195077741805305856000000), .inr (0, (13, 0))), (((0, 480), 18), .inr (0, (13, 0))), (((0, 480), 35), .inr (3, (0, 496))), (((0, 0), 1851192626986356800234234225391877833944518517379736727590010880000000), .inr (0, (12, 0))), (((0, 480), 14), .inr (0, (12, 0)))], 0, 0, 266, [(0, .inr (3, (0, 480))), (1, .inr (0, (8, 0))), (2, .inr (0, (9, 0)))], [.inr (0, (13, 0)), .inr (0, (8, 6)), .inr (3, (0, 496))]), [], [], [(0, 0), (0, 0), (0, 0), (0, 0), (0, 0), (0, 0), (0, 0), (0, 0), (8, 0), (9, 0), (8, 6), (13, 0)], 36)
noncomputable def rxoRY_33_0 : bx_HO := (([(0, 0), (0, 0), (0, 0), (0, 0), (0, 0), (0, 0), (0, 0), (0, 0), (0, 110), (0, 1)], [], [], 0, 0, 251, [(0, .inr (3, (0, 480))), (1, .inr (0, (8, 0))), (2, .inr (0, (9, 0)))], [.inr (0, (0, 1)), .inr (3, (0, 480))]), [], [], [(0, 0), (0, 0), (0, 0), (0, 0), (0, 0), (0, 0), (0, 0), (0, 0), (8, 0), (9, 0)], 34)
noncomputable def rxoRY_35_0 : bx_HO := (([(0, 0), (0, 0), (0, 0), (0, 0), (0, 0), (0, 0), (0, 0), (0, 0), (0, 110), (0, 1), (0, 400)], [], [(((0, 0), 1851192626986356801037061052538980267039804375195077741805305856000000), .inr (0, (10, 0))), (((0, 480), 18), .inr (0, (10, 0))), (((0, 480), 35), .inr (3, (0, 496)))], 0, 0, 266, [(0, .inr (3, (0, 480))), (1, .inr (0, (8, 0))), (2, .inr (0, (9, 0)))], [.inr (0, (10, 0)), .inr (0, (8, 6)), .inr (3, (0, 496))]), [], [], [(0, 0), (0, 0), (0, 0), (0, 0), (0, 0), (0, 0), (0, 0), (0, 0), (8, 0), (9, 0), (8, 6), (10, 0)], 36)
noncomputable def rxeRY_37_0 : rx_End × List (Nat × Int × Int) := (([(0, 0), (0, 0), (0, 0), (0, 0), (0, 0), (0, 0), (0, 0), (0, 0), (0, 110), (0, 1), (6, 116), (0, 400)], [], [], none), [])
noncomputable def rxYRY : List bx_HE := [(rxzRY_0, [rxoRY_0_0, rxoRY_0_1, rxoRY_0_2, rxoRY_0_3], []), (rxzRY_1, [], []), (rxzRY_2, [rxoRY_2_0], [rxeRY_2_0]), (rxzRY_3, [rxoRY_3_0], []), (rxzRY_4, [rxoRY_4_0], []), (rxzRY_5, [], []), (rxzRY_6, [], []), (rxzRY_7, [rxoRY_7_0], []), (rxzRY_8, [], []), (rxzRY_9, [], []), (rxzRY_10, [rxoRY_10_0, rxoRY_10_1], []), (rxzRY_11, [], []), (rxzRY_12, [], []), (rxzRY_13, [rxoRY_13_0, rxoRY_13_1, rxoRY_13_2, rxoRY_13_3], []), (rxzRY_14, [], []), (rxzRY_15, [rxoRY_15_0, rxoRY_15_1, rxoRY_15_2, rxoRY_15_3], []), (rxzRY_16, [], []), (rxzRY_17, [rxoRY_17_0, rxoRY_17_1], []), (rxzRY_18, [], []), (rxzRY_19, [rxoRY_19_0], []), (rxzRY_20, [], []), (rxzRY_21, [rxoRY_21_0, rxoRY_21_1, rxoRY_21_2], []), (rxzRY_22, [], []), (rxzRY_23, [rxoRY_23_0], []), (rxzRY_24, [], []), (rxzRY_25, [rxoRY_25_0, rxoRY_25_1, rxoRY_25_2, rxoRY_25_3, rxoRY_25_4], []), (rxzRY_26, [], []), (rxzRY_27, [rxoRY_27_0], []), (rxzRY_28, [], []), (rxzRY_29, [rxoRY_29_0], []), (rxzRY_30, [], []), (rxzRY_31, [rxoRY_31_0, rxoRY_31_1, rxoRY_31_2, rxoRY_31_3], []), (rxzRY_32, [], []), (rxzRY_33, [rxoRY_33_0], []), (rxzRY_34, [], []), (rxzRY_35, [rxoRY_35_0], []), (rxzRY_36, [], []), (rxzRY_37, [], [rxeRY_37_0])]
noncomputable def rxURY (q : bx_HE) : Bool := Nat.beq (rx_zpc q.1) 25 || Nat.beq (rx_zpc q.1) 60 || Nat.beq (rx_zpc q.1) 63 || Nat.beq (rx_zpc q.1) 69 || Nat.beq (rx_zpc q.1) 72 || Nat.beq (rx_zpc q.1) 94 || Nat.beq (rx_zpc q.1) 97 || Nat.beq (rx_zpc q.1) 97 || Nat.beq (rx_zpc q.1) 126 || Nat.beq (rx_zpc q.1) 145 || Nat.beq (rx_zpc q.1) 157 || Nat.beq (rx_zpc q.1) 171 || Nat.beq (rx_zpc q.1) 185 || Nat.beq (rx_zpc q.1) 208 || Nat.beq (rx_zpc q.1) 213 || Nat.beq (rx_zpc q.1) 227 || Nat.beq (rx_zpc q.1) 246 || Nat.beq (rx_zpc q.1) 251 || Nat.beq (rx_zpc q.1) 266
noncomputable def rxYBRY : bx_B := (rxV, rxNP, rxDmf, bx_mdH rxCRY.2.2.1)
set_option maxRecDepth 100000 in
theorem rxYcRY : bx_chkH rxYBRY rxM295 rxCRY rxYRY (rxURY, fun cut z => rx_ex2 (rxCT rxYBRY rxCnE) cut 30000 rxCRY.2.2.2.1 295 z) = true := by decide +kernel
noncomputable def rxIRY (S0 : Nat → Int → Int) (ws : List Int) (i : Nat) : bx_SP := fun S r => match i with | 0 => rxIRY_0 S0 ws S | 1 => rxIRY_1 S0 ws S (r 8) | 2 => rxIRY_2 S0 ws S (r 8) | 3 => rxIRY_3 S0 ws S (r 8) | 4 => rxIRY_4 S0 ws S (r 8) (r 9) | 5 => rxIRY_5 S0 ws S (r 8) (r 9) | 6 => rxIRY_6 S0 ws S (r 8) (r 9) (r 10) | 7 => rxIRY_7 S0 ws S (r 8) (r 9) (r 10) | 8 => rxIRY_8 S0 ws S (r 8) | 9 => rxIRY_9 S0 ws S (r 8) (r 9) | 10 => rxIRY_10 S0 ws S (r 8) (r 9) | 11 => rxIRY_11 S0 ws S (r 8) (r 9) | 12 => rxIRY_12 S0 ws S (r 8) (r 9) (r 10) | 13 => rxIRY_13 S0 ws S (r 8) (r 9) (r 10) | 14 => rxIRY_14 S0 ws S (r 8) (r 9) (r 10) | 15 => rxIRY_15 S0 ws S (r 8) (r 9) (r 10) | 16 => rxIRY_16 S0 ws S (r 8) (r 9) (r 10) | 17 => rxIRY_17 S0 ws S (r 8) (r 9) (r 10) | 18 => rxIRY_18 S0 ws S (r 8) (r 9) (r 10) (r 11) | 19 => rxIRY_19 S0 ws S (r 8) (r 9) (r 10) (r 11) | 20 => rxIRY_20 S0 ws S (r 8) (r 9) (r 10) (r 11) | 21 => rxIRY_21 S0 ws S (r 8) (r 9) (r 10) (r 11) | 22 => rxIRY_22 S0 ws S (r 8) (r 9) | 23 => rxIRY_23 S0 ws S (r 8) (r 9) | 24 => rxIRY_24 S0 ws S (r 8) (r 9) (r 10) (r 11) | 25 => rxIRY_25 S0 ws S (r 8) (r 9) (r 10) (r 11) | 26 => rxIRY_26 S0 ws S (r 8) (r 9) | 27 => rxIRY_27 S0 ws S (r 8) (r 9) | 28 => rxIRY_28 S0 ws S (r 8) (r 9) | 29 => rxIRY_29 S0 ws S (r 8) (r 9) | 30 => rxIRY_30 S0 ws S (r 8) (r 9) (r 10) (r 11) | 31 => rxIRY_31 S0 ws S (r 8) (r 9) (r 10) (r 11) | 32 => rxIRY_32 S0 ws S (r 8) (r 9) | 33 => rxIRY_33 S0 ws S (r 8) (r 9) | 34 => rxIRY_34 S0 ws S (r 8) (r 9) | 35 => rxIRY_35 S0 ws S (r 8) (r 9) | 36 => rxIRY_36 S0 ws S (r 8) (r 9) (r 10) (r 11) | 37 => rxIRY_37 S0 ws S (r 8) (r 9) (r 10) (r 11) | _ => False
noncomputable def rxmRY (S0 : Nat → Int → Int) (ws : List Int) (i : Nat) (S : Nat → Int → Int) (r : Nat → Int) : Nat := match i with | 0 => rxmRY_0 S0 ws S | 1 => rxmRY_1 S0 ws S (r 8) | 2 => rxmRY_2 S0 ws S (r 8) | 3 => rxmRY_3 S0 ws S (r 8) | 4 => rxmRY_4 S0 ws S (r 8) (r 9) | 5 => rxmRY_5 S0 ws S (r 8) (r 9) | 6 => rxmRY_6 S0 ws S (r 8) (r 9) (r 10) | 7 => rxmRY_7 S0 ws S (r 8) (r 9) (r 10) | 8 => rxmRY_8 S0 ws S (r 8) | 9 => rxmRY_9 S0 ws S (r 8) (r 9) | 10 => rxmRY_10 S0 ws S (r 8) (r 9) | 11 => rxmRY_11 S0 ws S (r 8) (r 9) | 12 => rxmRY_12 S0 ws S (r 8) (r 9) (r 10) | 13 => rxmRY_13 S0 ws S (r 8) (r 9) (r 10) | 14 => rxmRY_14 S0 ws S (r 8) (r 9) (r 10) | 15 => rxmRY_15 S0 ws S (r 8) (r 9) (r 10) | 16 => rxmRY_16 S0 ws S (r 8) (r 9) (r 10) | 17 => rxmRY_17 S0 ws S (r 8) (r 9) (r 10) | 18 => rxmRY_18 S0 ws S (r 8) (r 9) (r 10) (r 11) | 19 => rxmRY_19 S0 ws S (r 8) (r 9) (r 10) (r 11) | 20 => rxmRY_20 S0 ws S (r 8) (r 9) (r 10) (r 11) | 21 => rxmRY_21 S0 ws S (r 8) (r 9) (r 10) (r 11) | 22 => rxmRY_22 S0 ws S (r 8) (r 9) | 23 => rxmRY_23 S0 ws S (r 8) (r 9) | 24 => rxmRY_24 S0 ws S (r 8) (r 9) (r 10) (r 11) | 25 => rxmRY_25 S0 ws S (r 8) (r 9) (r 10) (r 11) | 26 => rxmRY_26 S0 ws S (r 8) (r 9) | 27 => rxmRY_27 S0 ws S (r 8) (r 9) | 28 => rxmRY_28 S0 ws S (r 8) (r 9) | 29 => rxmRY_29 S0 ws S (r 8) (r 9) | 30 => rxmRY_30 S0 ws S (r 8) (r 9) (r 10) (r 11) | 31 => rxmRY_31 S0 ws S (r 8) (r 9) (r 10) (r 11) | 32 => rxmRY_32 S0 ws S (r 8) (r 9) | 33 => rxmRY_33 S0 ws S (r 8) (r 9) | 34 => rxmRY_34 S0 ws S (r 8) (r 9) | 35 => rxmRY_35 S0 ws S (r 8) (r 9) | 36 => rxmRY_36 S0 ws S (r 8) (r 9) (r 10) (r 11) | 37 => rxmRY_37 S0 ws S (r 8) (r 9) (r 10) (r 11) | _ => 0
noncomputable def rxPRY (S0 : Nat → Int → Int) (ws : List Int) : Prop := rxPi S0 ∧ S0 480 14 = 0 ∧ 0 ≤ S0 480 18 ∧ S0 480 18 ≤ 400
noncomputable def rxPSRY (S0 : Nat → Int → Int) (ws : List Int) (S : Nat → Int → Int) (w : Option Int) : Prop := w = none ∧ rxPi S ∧ (S 480 14 = 0 → S 480 16 = S0 480 16 + 1)
theorem rxkRY_1 {S0 : Nat → Int → Int} {ws : List Int} {S : Nat → Int → Int} {is : Int} (hP : rxPRY S0 ws) (hin : bx_same rxL (bx_mdl rxCRY.2.2.1) S0 S) (I0 : bx_Inv rxL S) (hinv : rxIRY_1 S0 ws S is) (l8 : 0 ≤ is) (u8 : is ≤ 1) : rxPMU S [480, is] ∧ ∀ (S_p : Nat → Int → Int), rxPSMU S [480, is] S_p none → bx_Inv rxL S_p → bx_same rxL (bx_mdl rxCMU.2.2.1) S S_p → rxIRY_2 S0 ws S_p is ∧ rxmRY_2 S0 ws S_p is < rxmRY_1 S0 ws S is := by
  obtain ⟨rfl, h1⟩ := hinv
  obtain ⟨p1, p2, p3⟩ := hP
  have t1 := p1.1.2.1
  refine ⟨p1.1, fun S_p hq I1 hsm => ?_⟩
  obtain ⟨-, q1, is_p, hw2, hc⟩ := hq
  have he : is = is_p := Option.some.inj (congrArg (fun l => l[1]?) hw2)
  have h16 : S_p 480 16 = S 480 16 := rx_sameO hsm (p := 480) (j := 16) rfl (by omega) (by decide +kernel) (by decide)
  have h496 : ∀ j : Int, 0 ≤ j → j < 120 → S_p 496 j = S 496 j := fun j j0 j1 => rx_sameR hsm (p := 496) (tc := 0) (n := 120) (g := 77) rfl (by omega) (by decide +kernel) (by decide +kernel) j0 (by omega)
  have b14 := rxBox14 I1
  refine ⟨⟨q1, rxSm_of hsm (by decide +kernel), by omega, h16, h496, fun q => ?_⟩, by unfold rxmRY_1 rxmRY_2; omega⟩
  have := h1 (by omega)
  omega
theorem rxsRY_1 {X : (Nat → Int → Int) → Prop} {S0 : Nat → Int → Int} {ws : List Int} (hP : rxPRY S0 ws) : rx_obK X S0 rxCRY.2.2.1 rxCMU.2.2.1 (rxIRY S0 ws) (rxmRY S0 ws) 1 2 rxzRY_1 rxzRY_2 [.inr (3, (0, 480)), .inr (0, (8, 0))] none rxPMU rxPSMU := by
  intro S r hinv hXS I0 hin hs_ hf_
  have b_ := bx_bds_sat hs_
  have f_ := bx_fcl_ok hs_.1 hf_
  obtain ⟨⟨l8, u8⟩, -⟩ := b_
  have g := rxkRY_1 hP hin I0 hinv l8 u8
  have ea : List.map (bx_num r) [.inr (3, (0, 480)), .inr (0, (8, 0))] = [480, (r 8)] := by
    simp only [List.map_cons, List.map_nil, bx_xv_ok hs_.1]
    rfl
  rw [ea]
  refine ⟨g.1, fun S_p w r_p hPS hX_p I1 hsm hr hw hs_p => ?_⟩
  have hw : w = none := hPS.1
  subst hw
  have g2 := g.2 S_p hPS I1 hsm
  show rxIRY_2 S0 ws S_p (r_p 8) ∧ rxmRY_2 S0 ws S_p (r_p 8) < _
  rw [hr 8 (by decide)]
  exact g2
theorem rxkRY_5 {S0 : Nat → Int → Int} {ws : List Int} {S : Nat → Int → Int} {base a : Int} (hP : rxPRY S0 ws) (hin : bx_same rxL (bx_mdl rxCRY.2.2.1) S0 S) (I0 : bx_Inv rxL S) (hinv : rxIRY_5 S0 ws S base a) (l8 : 0 ≤ base) (u8 : base ≤ 110) (l9 : 0 ≤ a) (u9 : a ≤ 110) : rxPRPL S [480] ∧ ∀ (S_p : Nat → Int → Int) (v : Int), (-2147483648) ≤ v → v ≤ 2147483647 → rxPSRPL S [480] S_p (some v) → bx_Inv rxL S_p → bx_same rxL (bx_mdl rxCRPL.2.2.1) S S_p → rxIRY_6 S0 ws S_p base a v ∧ rxmRY_6 S0 ws S_p base a v < rxmRY_5 S0 ws S base a := by
  obtain ⟨⟨f, hs, h9⟩, ha⟩ := hinv
  refine ⟨f.1, fun S_p v l u hq I1 hsm => ?_⟩
  obtain ⟨q1, q2, q3⟩ := hq
  have h16 : S_p 480 16 = S 480 16 := rx_sameO hsm (p := 480) (j := 16) rfl (by omega) (by decide +kernel) (by decide)
  have h496 : ∀ j : Int, 0 ≤ j → j < 120 → S_p 496 j = S 496 j := fun j j0 j1 => rx_sameR hsm (p := 496) (tc := 0) (n := 120) (g := 77) rfl (by omega) (by decide +kernel) (by decide +kernel) j0 (by omega)
  exact ⟨⟨⟨rxPgx_call f q1 h16 h496, hs.tr q2, by omega⟩, ha⟩, by unfold rxmRY_5 rxmRY_6; omega⟩
theorem rxsRY_5 {X : (Nat → Int → Int) → Prop} {S0 : Nat → Int → Int} {ws : List Int} (hP : rxPRY S0 ws) : rx_obK X S0 rxCRY.2.2.1 rxCRPL.2.2.1 (rxIRY S0 ws) (rxmRY S0 ws) 5 6 rxzRY_5 rxzRY_6 [.inr (3, (0, 480))] (some 10) rxPRPL rxPSRPL := by
  intro S r hinv hXS I0 hin hs_ hf_
  have b_ := bx_bds_sat hs_
  have f_ := bx_fcl_ok hs_.1 hf_
  obtain ⟨⟨l8, u8⟩, ⟨l9, u9⟩, -⟩ := b_
  have g := rxkRY_5 hP hin I0 hinv l8 u8 l9 u9
  have ea : List.map (bx_num r) [.inr (3, (0, 480))] = [480] := by
    simp only [List.map_cons, List.map_nil, bx_xv_ok hs_.1]
    rfl
  rw [ea]
  refine ⟨g.1, fun S_p w r_p hPS hX_p I1 hsm hr hw hs_p => ?_⟩
  have hw := hw _ rfl
  subst hw
  have b_p := hs_p.2.2 10 _ _ rfl
  have g2 := g.2 S_p (r_p 10) b_p.1 b_p.2 hPS I1 hsm
  show rxIRY_6 S0 ws S_p (r_p 8) (r_p 9) (r_p 10) ∧ rxmRY_6 S0 ws S_p (r_p 8) (r_p 9) (r_p 10) < _
  rw [hr 8 (by decide), hr 9 (by decide)]
  exact g2
theorem rxtRY_6 {S0 : Nat → Int → Int} {ws : List Int} {S : Nat → Int → Int} {base a v : Int} (hP : rxPRY S0 ws) (hin : bx_same rxL (bx_mdl rxCRY.2.2.1) S0 S) (I0 : bx_Inv rxL S) (hinv : rxIRY_6 S0 ws S base a v) (l8 : 0 ≤ base) (u8 : base ≤ 110) (l9 : 0 ≤ a) (u9 : a ≤ 110) (l10 : (-2147483648) ≤ v) (u10 : v ≤ 2147483647) : bx_okT rxL (rxL.2.2.1 496 a) v ∧ rxIRY_7 S0 ws (bx_up S 496 a v) base a v ∧ rxmRY_7 S0 ws (bx_up S 496 a v) base a v < rxmRY_6 S0 ws S base a v := by
  obtain ⟨h, rfl⟩ := hinv
  have hb := h.1.2.2.1
  have hk := h.1.2.2.2.1
  have hk2 := h.1.2.2.2.2.1
  refine ⟨?_, rxP0_st h (by omega), by unfold rxmRY_6 rxmRY_7; omega⟩
  rw [rxT496, bx_dW_ok rxDp1.1 (by omega) (by omega) (by omega)]
  exact (show ((-2147483648 : Int) ≤ v ∧ v ≤ 2147483647) from ⟨by omega, by omega⟩)
theorem rxsRY_6 {X : (Nat → Int → Int) → Prop} {S0 : Nat → Int → Int} {ws : List Int} (hP : rxPRY S0 ws) (hX : ∀ S S1 : Nat → Int → Int, X S → bx_same rxL (bx_mdl rxCRY.2.2.1) S S1 → X S1) : rx_obS X S0 rxCRY.2.2.1 (rxIRY S0 ws) (rxmRY S0 ws) 6 7 rxzRY_6 496 9 10 := by
  intro S r hinv hXS I0 hin hs_ hf_
  have b_ := bx_bds_sat hs_
  have f_ := bx_fcl_ok hs_.1 hf_
  obtain ⟨⟨l8, u8⟩, ⟨l9, u9⟩, ⟨l10, u10⟩, -⟩ := b_
  have g := rxtRY_6 hP hin I0 hinv l8 u8 l9 u9 l10 u10
  exact ⟨g.1, g.2.1, g.2.2, hX _ _ hXS (rx_same_upR (fun _ _ _ _ _ => rfl) (tc := 0) (n := 120) (g := 77) rfl (by decide +kernel) l9 u9), rx_same_upR hin (tc := 0) (n := 120) (g := 77) rfl (by decide +kernel) l9 u9⟩
theorem rxkRY_8 {S0 : Nat → Int → Int} {ws : List Int} {S : Nat → Int → Int} {base : Int} (hP : rxPRY S0 ws) (hin : bx_same rxL (bx_mdl rxCRY.2.2.1) S0 S) (I0 : bx_Inv rxL S) (hinv : rxIRY_8 S0 ws S base) (l8 : 0 ≤ base) (u8 : base ≤ 110) : rxPIW S [480, 52] ∧ ∀ (S_p : Nat → Int → Int) (is : Int), 0 ≤ is → is ≤ 1 → rxPSIW S [480, 52] S_p (some is) → bx_Inv rxL S_p → bx_same rxL (bx_mdl rxCIW.2.2.1) S S_p → rxIRY_9 S0 ws S_p base is ∧ rxmRY_9 S0 ws S_p base is < rxmRY_8 S0 ws S base := by
  refine ⟨trivial, fun S_p is l u hq I1 hsm => ?_⟩
  obtain ⟨rfl, -⟩ := hq
  exact ⟨hinv, by unfold rxmRY_8 rxmRY_9; omega⟩
theorem rxsRY_8 {X : (Nat → Int → Int) → Prop} {S0 : Nat → Int → Int} {ws : List Int} (hP : rxPRY S0 ws) : rx_obK X S0 rxCRY.2.2.1 rxCIW.2.2.1 (rxIRY S0 ws) (rxmRY S0 ws) 8 9 rxzRY_8 rxzRY_9 [.inr (3, (0, 480)), .inr (1, (0, 52))] (some 9) rxPIW rxPSIW := by
  intro S r hinv hXS I0 hin hs_ hf_
  have b_ := bx_bds_sat hs_
  have f_ := bx_fcl_ok hs_.1 hf_
  obtain ⟨⟨l8, u8⟩, -⟩ := b_
  have g := rxkRY_8 hP hin I0 hinv l8 u8
  have ea : List.map (bx_num r) [.inr (3, (0, 480)), .inr (1, (0, 52))] = [480, 52] := by
    simp only [List.map_cons, List.map_nil, bx_xv_ok hs_.1]
    rfl
  rw [ea]
  refine ⟨g.1, fun S_p w r_p hPS hX_p I1 hsm hr hw hs_p => ?_⟩
  have hw := hw _ rfl
  subst hw
  have b_p := hs_p.2.2 9 _ _ rfl
  have g2 := g.2 S_p (r_p 9) b_p.1 b_p.2 hPS I1 hsm
  show rxIRY_9 S0 ws S_p (r_p 8) (r_p 9) ∧ rxmRY_9 S0 ws S_p (r_p 8) (r_p 9) < _
  rw [hr 8 (by decide)]
  exact g2
theorem rxkRY_9 {S0 : Nat → Int → Int} {ws : List Int} {S : Nat → Int → Int} {base is : Int} (hP : rxPRY S0 ws) (hin : bx_same rxL (bx_mdl rxCRY.2.2.1) S0 S) (I0 : bx_Inv rxL S) (hinv : rxIRY_9 S0 ws S base is) (l8 : 0 ≤ base) (u8 : base ≤ 110) (l9 : 0 ≤ is) (u9 : is ≤ 1) : rxPMU S [480, is] ∧ ∀ (S_p : Nat → Int → Int), rxPSMU S [480, is] S_p none → bx_Inv rxL S_p → bx_same rxL (bx_mdl rxCMU.2.2.1) S S_p → rxIRY_10 S0 ws S_p base is ∧ rxmRY_10 S0 ws S_p base is < rxmRY_9 S0 ws S base is := by
  have h : rxP0 S0 S base := hinv
  obtain ⟨f, hs, h9⟩ := h
  have t1 := f.1.2.1
  refine ⟨f.1, fun S_p hq I1 hsm => ?_⟩
  obtain ⟨-, q1, is_p, hw2, hc⟩ := hq
  have h16 : S_p 480 16 = S 480 16 := rx_sameO hsm (p := 480) (j := 16) rfl (by omega) (by decide +kernel) (by decide)
  have h496 : ∀ j : Int, 0 ≤ j → j < 120 → S_p 496 j = S 496 j := fun j j0 j1 => rx_sameR hsm (p := 496) (tc := 0) (n := 120) (g := 77) rfl (by omega) (by decide +kernel) (by decide +kernel) j0 (by omega)
  exact ⟨⟨rxPgx_call f q1 h16 h496, hs.tr (rxSm_of hsm (by decide +kernel)), by omega⟩, by unfold rxmRY_9 rxmRY_10; omega⟩
theorem rxsRY_9 {X : (Nat → Int → Int) → Prop} {S0 : Nat → Int → Int} {ws : List Int} (hP : rxPRY S0 ws) : rx_obK X S0 rxCRY.2.2.1 rxCMU.2.2.1 (rxIRY S0 ws) (rxmRY S0 ws) 9 10 rxzRY_9 rxzRY_10 [.inr (3, (0, 480)), .inr (0, (9, 0))] none rxPMU rxPSMU := by
  intro S r hinv hXS I0 hin hs_ hf_
  have b_ := bx_bds_sat hs_
  have f_ := bx_fcl_ok hs_.1 hf_
  obtain ⟨⟨l8, u8⟩, ⟨l9, u9⟩, -⟩ := b_
  have g := rxkRY_9 hP hin I0 hinv l8 u8 l9 u9
  have ea : List.map (bx_num r) [.inr (3, (0, 480)), .inr (0, (9, 0))] = [480, (r 9)] := by
    simp only [List.map_cons, List.map_nil, bx_xv_ok hs_.1]
    rfl
  rw [ea]
  refine ⟨g.1, fun S_p w r_p hPS hX_p I1 hsm hr hw hs_p => ?_⟩
  have hw : w = none := hPS.1
  subst hw
  have g2 := g.2 S_p hPS I1 hsm
  show rxIRY_10 S0 ws S_p (r_p 8) (r_p 9) ∧ rxmRY_10 S0 ws S_p (r_p 8) (r_p 9) < _
  rw [hr 8 (by decide), hr 9 (by decide)]
  exact g2
theorem rxkRY_11 {S0 : Nat → Int → Int} {ws : List Int} {S : Nat → Int → Int} {base a : Int} (hP : rxPRY S0 ws) (hin : bx_same rxL (bx_mdl rxCRY.2.2.1) S0 S) (I0 : bx_Inv rxL S) (hinv : rxIRY_11 S0 ws S base a) (l8 : 0 ≤ base) (u8 : base ≤ 110) (l9 : 1 ≤ a) (u9 : a ≤ 111) : rxPRPL S [480] ∧ ∀ (S_p : Nat → Int → Int) (v : Int), (-2147483648) ≤ v → v ≤ 2147483647 → rxPSRPL S [480] S_p (some v) → bx_Inv rxL S_p → bx_same rxL (bx_mdl rxCRPL.2.2.1) S S_p → rxIRY_12 S0 ws S_p base a v ∧ rxmRY_12 S0 ws S_p base a v < rxmRY_11 S0 ws S base a := by
  obtain ⟨⟨f, hs, h9⟩, ha⟩ := hinv
  refine ⟨f.1, fun S_p v l u hq I1 hsm => ?_⟩
  obtain ⟨q1, q2, q3⟩ := hq
  have h16 : S_p 480 16 = S 480 16 := rx_sameO hsm (p := 480) (j := 16) rfl (by omega) (by decide +kernel) (by decide)
  have h496 : ∀ j : Int, 0 ≤ j → j < 120 → S_p 496 j = S 496 j := fun j j0 j1 => rx_sameR hsm (p := 496) (tc := 0) (n := 120) (g := 77) rfl (by omega) (by decide +kernel) (by decide +kernel) j0 (by omega)
  exact ⟨⟨⟨rxPgx_call f q1 h16 h496, hs.tr q2, by omega⟩, ha⟩, by unfold rxmRY_11 rxmRY_12; omega⟩
theorem rxsRY_11 {X : (Nat → Int → Int) → Prop} {S0 : Nat → Int → Int} {ws : List Int} (hP : rxPRY S0 ws) : rx_obK X S0 rxCRY.2.2.1 rxCRPL.2.2.1 (rxIRY S0 ws) (rxmRY S0 ws) 11 12 rxzRY_11 rxzRY_12 [.inr (3, (0, 480))] (some 10) rxPRPL rxPSRPL := by
  intro S r hinv hXS I0 hin hs_ hf_
  have b_ := bx_bds_sat hs_
  have f_ := bx_fcl_ok hs_.1 hf_
  obtain ⟨⟨l8, u8⟩, ⟨l9, u9⟩, -⟩ := b_
  have g := rxkRY_11 hP hin I0 hinv l8 u8 l9 u9
  have ea : List.map (bx_num r) [.inr (3, (0, 480))] = [480] := by
    simp only [List.map_cons, List.map_nil, bx_xv_ok hs_.1]
    rfl
  rw [ea]
  refine ⟨g.1, fun S_p w r_p hPS hX_p I1 hsm hr hw hs_p => ?_⟩
  have hw := hw _ rfl
  subst hw
  have b_p := hs_p.2.2 10 _ _ rfl
  have g2 := g.2 S_p (r_p 10) b_p.1 b_p.2 hPS I1 hsm
  show rxIRY_12 S0 ws S_p (r_p 8) (r_p 9) (r_p 10) ∧ rxmRY_12 S0 ws S_p (r_p 8) (r_p 9) (r_p 10) < _
  rw [hr 8 (by decide), hr 9 (by decide)]
  exact g2
theorem rxtRY_12 {S0 : Nat → Int → Int} {ws : List Int} {S : Nat → Int → Int} {base a v : Int} (hP : rxPRY S0 ws) (hin : bx_same rxL (bx_mdl rxCRY.2.2.1) S0 S) (I0 : bx_Inv rxL S) (hinv : rxIRY_12 S0 ws S base a v) (l8 : 0 ≤ base) (u8 : base ≤ 110) (l9 : 1 ≤ a) (u9 : a ≤ 111) (l10 : (-2147483648) ≤ v) (u10 : v ≤ 2147483647) : bx_okT rxL (rxL.2.2.1 496 a) v ∧ rxIRY_13 S0 ws (bx_up S 496 a v) base a v ∧ rxmRY_13 S0 ws (bx_up S 496 a v) base a v < rxmRY_12 S0 ws S base a v := by
  obtain ⟨h, rfl⟩ := hinv
  have hb := h.1.2.2.1
  have hk := h.1.2.2.2.1
  have hk2 := h.1.2.2.2.2.1
  refine ⟨?_, rxP0_st h (by omega), by unfold rxmRY_12 rxmRY_13; omega⟩
  rw [rxT496, bx_dW_ok rxDp1.2.1 (by omega) (by omega) (by omega)]
  exact (show ((-2147483648 : Int) ≤ v ∧ v ≤ 2147483647) from ⟨by omega, by omega⟩)
theorem rxsRY_12 {X : (Nat → Int → Int) → Prop} {S0 : Nat → Int → Int} {ws : List Int} (hP : rxPRY S0 ws) (hX : ∀ S S1 : Nat → Int → Int, X S → bx_same rxL (bx_mdl rxCRY.2.2.1) S S1 → X S1) : rx_obS X S0 rxCRY.2.2.1 (rxIRY S0 ws) (rxmRY S0 ws) 12 13 rxzRY_12 496 9 10 := by
  intro S r hinv hXS I0 hin hs_ hf_
  have b_ := bx_bds_sat hs_
  have f_ := bx_fcl_ok hs_.1 hf_
  obtain ⟨⟨l8, u8⟩, ⟨l9, u9⟩, ⟨l10, u10⟩, -⟩ := b_
  have g := rxtRY_12 hP hin I0 hinv l8 u8 l9 u9 l10 u10
  exact ⟨g.1, g.2.1, g.2.2, hX _ _ hXS (rx_same_upR (fun _ _ _ _ _ => rfl) (tc := 0) (n := 120) (g := 77) rfl (by decide +kernel) l9 u9), rx_same_upR hin (tc := 0) (n := 120) (g := 77) rfl (by decide +kernel) l9 u9⟩
theorem rxtRY_14 {S0 : Nat → Int → Int} {ws : List Int} {S : Nat → Int → Int} {base a v : Int} (hP : rxPRY S0 ws) (hin : bx_same rxL (bx_mdl rxCRY.2.2.1) S0 S) (I0 : bx_Inv rxL S) (hinv : rxIRY_14 S0 ws S base a v) (l8 : 0 ≤ base) (u8 : base ≤ 110) (l9 : 1 ≤ a) (u9 : a ≤ 111) (l10 : 0 ≤ v) (u10 : v ≤ 0) : bx_okT rxL (rxL.2.2.1 496 a) v ∧ rxIRY_15 S0 ws (bx_up S 496 a v) base a v ∧ rxmRY_15 S0 ws (bx_up S 496 a v) base a v < rxmRY_14 S0 ws S base a v := by
  obtain ⟨h, rfl⟩ := hinv
  have hb := h.1.2.2.1
  have hk := h.1.2.2.2.1
  have hk2 := h.1.2.2.2.2.1
  refine ⟨?_, rxP0_st h (by omega), by unfold rxmRY_14 rxmRY_15; omega⟩
  rw [rxT496, bx_dW_ok rxDp1.2.1 (by omega) (by omega) (by omega)]
  exact (show ((-2147483648 : Int) ≤ v ∧ v ≤ 2147483647) from ⟨by omega, by omega⟩)
theorem rxsRY_14 {X : (Nat → Int → Int) → Prop} {S0 : Nat → Int → Int} {ws : List Int} (hP : rxPRY S0 ws) (hX : ∀ S S1 : Nat → Int → Int, X S → bx_same rxL (bx_mdl rxCRY.2.2.1) S S1 → X S1) : rx_obS X S0 rxCRY.2.2.1 (rxIRY S0 ws) (rxmRY S0 ws) 14 15 rxzRY_14 496 9 10 := by
  intro S r hinv hXS I0 hin hs_ hf_
  have b_ := bx_bds_sat hs_
  have f_ := bx_fcl_ok hs_.1 hf_
  obtain ⟨⟨l8, u8⟩, ⟨l9, u9⟩, ⟨l10, u10⟩, -⟩ := b_
  have g := rxtRY_14 hP hin I0 hinv l8 u8 l9 u9 l10 u10
  exact ⟨g.1, g.2.1, g.2.2, hX _ _ hXS (rx_same_upR (fun _ _ _ _ _ => rfl) (tc := 0) (n := 120) (g := 77) rfl (by decide +kernel) l9 u9), rx_same_upR hin (tc := 0) (n := 120) (g := 77) rfl (by decide +kernel) l9 u9⟩
theorem rxkRY_16 {S0 : Nat → Int → Int} {ws : List Int} {S : Nat → Int → Int} {base dd is : Int} (hP : rxPRY S0 ws) (hin : bx_same rxL (bx_mdl rxCRY.2.2.1) S0 S) (I0 : bx_Inv rxL S) (hinv : rxIRY_16 S0 ws S base dd is) (l8 : 0 ≤ base) (u8 : base ≤ 110) (l9 : 0 ≤ dd) (u9 : dd ≤ 1) (l10 : 0 ≤ is) (u10 : is ≤ 1) : rxPMU S [480, is] ∧ ∀ (S_p : Nat → Int → Int), rxPSMU S [480, is] S_p none → bx_Inv rxL S_p → bx_same rxL (bx_mdl rxCMU.2.2.1) S S_p → rxIRY_17 S0 ws S_p base dd is ∧ rxmRY_17 S0 ws S_p base dd is < rxmRY_16 S0 ws S base dd is := by
  have h : rxP0 S0 S base := hinv
  obtain ⟨f, hs, h9⟩ := h
  have t1 := f.1.2.1
  refine ⟨f.1, fun S_p hq I1 hsm => ?_⟩
  obtain ⟨-, q1, is_p, hw2, hc⟩ := hq
  have h16 : S_p 480 16 = S 480 16 := rx_sameO hsm (p := 480) (j := 16) rfl (by omega) (by decide +kernel) (by decide)
  have h496 : ∀ j : Int, 0 ≤ j → j < 120 → S_p 496 j = S 496 j := fun j j0 j1 => rx_sameR hsm (p := 496) (tc := 0) (n := 120) (g := 77) rfl (by omega) (by decide +kernel) (by decide +kernel) j0 (by omega)
  exact ⟨⟨rxPgx_call f q1 h16 h496, hs.tr (rxSm_of hsm (by decide +kernel)), by omega⟩, by unfold rxmRY_16 rxmRY_17; omega⟩
theorem rxsRY_16 {X : (Nat → Int → Int) → Prop} {S0 : Nat → Int → Int} {ws : List Int} (hP : rxPRY S0 ws) : rx_obK X S0 rxCRY.2.2.1 rxCMU.2.2.1 (rxIRY S0 ws) (rxmRY S0 ws) 16 17 rxzRY_16 rxzRY_17 [.inr (3, (0, 480)), .inr (0, (10, 0))] none rxPMU rxPSMU := by
  intro S r hinv hXS I0 hin hs_ hf_
  have b_ := bx_bds_sat hs_
  have f_ := bx_fcl_ok hs_.1 hf_
  obtain ⟨⟨l8, u8⟩, ⟨l9, u9⟩, ⟨l10, u10⟩, -⟩ := b_
  have g := rxkRY_16 hP hin I0 hinv l8 u8 l9 u9 l10 u10
  have ea : List.map (bx_num r) [.inr (3, (0, 480)), .inr (0, (10, 0))] = [480, (r 10)] := by
    simp only [List.map_cons, List.map_nil, bx_xv_ok hs_.1]
    rfl
  rw [ea]
  refine ⟨g.1, fun S_p w r_p hPS hX_p I1 hsm hr hw hs_p => ?_⟩
  have hw : w = none := hPS.1
  subst hw
  have g2 := g.2 S_p hPS I1 hsm
  show rxIRY_17 S0 ws S_p (r_p 8) (r_p 9) (r_p 10) ∧ rxmRY_17 S0 ws S_p (r_p 8) (r_p 9) (r_p 10) < _
  rw [hr 8 (by decide), hr 9 (by decide), hr 10 (by decide)]
  exact g2
theorem rxtRY_18 {S0 : Nat → Int → Int} {ws : List Int} {S : Nat → Int → Int} {base dd a v : Int} (hP : rxPRY S0 ws) (hin : bx_same rxL (bx_mdl rxCRY.2.2.1) S0 S) (I0 : bx_Inv rxL S) (hinv : rxIRY_18 S0 ws S base dd a v) (l8 : 0 ≤ base) (u8 : base ≤ 110) (l9 : 0 ≤ dd) (u9 : dd ≤ 1) (l10 : 2 ≤ a) (u10 : a ≤ 112) (l11 : 0 ≤ v) (u11 : v ≤ 1) : bx_okT rxL (rxL.2.2.1 496 a) v ∧ rxIRY_19 S0 ws (bx_up S 496 a v) base dd a v ∧ rxmRY_19 S0 ws (bx_up S 496 a v) base dd a v < rxmRY_18 S0 ws S base dd a v := by
  obtain ⟨h, rfl⟩ := hinv
  have hb := h.1.2.2.1
  have hk := h.1.2.2.2.1
  have hk2 := h.1.2.2.2.2.1
  refine ⟨?_, rxP0_st h (by omega), by unfold rxmRY_18 rxmRY_19; omega⟩
  rw [rxT496, bx_dW_ok rxDp1.2.2 (by omega) (by omega) (by omega)]
  exact (show ((0 : Int) ≤ v ∧ v ≤ 1) from ⟨by omega, by omega⟩)
theorem rxsRY_18 {X : (Nat → Int → Int) → Prop} {S0 : Nat → Int → Int} {ws : List Int} (hP : rxPRY S0 ws) (hX : ∀ S S1 : Nat → Int → Int, X S → bx_same rxL (bx_mdl rxCRY.2.2.1) S S1 → X S1) : rx_obS X S0 rxCRY.2.2.1 (rxIRY S0 ws) (rxmRY S0 ws) 18 19 rxzRY_18 496 10 11 := by
  intro S r hinv hXS I0 hin hs_ hf_
  have b_ := bx_bds_sat hs_
  have f_ := bx_fcl_ok hs_.1 hf_
  obtain ⟨⟨l8, u8⟩, ⟨l9, u9⟩, ⟨l10, u10⟩, ⟨l11, u11⟩, -⟩ := b_
  have g := rxtRY_18 hP hin I0 hinv l8 u8 l9 u9 l10 u10 l11 u11
  exact ⟨g.1, g.2.1, g.2.2, hX _ _ hXS (rx_same_upR (fun _ _ _ _ _ => rfl) (tc := 0) (n := 120) (g := 77) rfl (by decide +kernel) l10 u10), rx_same_upR hin (tc := 0) (n := 120) (g := 77) rfl (by decide +kernel) l10 u10⟩
theorem rxtRY_20 {S0 : Nat → Int → Int} {ws : List Int} {S : Nat → Int → Int} {base dd a v : Int} (hP : rxPRY S0 ws) (hin : bx_same rxL (bx_mdl rxCRY.2.2.1) S0 S) (I0 : bx_Inv rxL S) (hinv : rxIRY_20 S0 ws S base dd a v) (l8 : 0 ≤ base) (u8 : base ≤ 110) (l9 : 0 ≤ dd) (u9 : dd ≤ 1) (l10 : 3 ≤ a) (u10 : a ≤ 113) (l11 : 0 ≤ v) (u11 : v ≤ 400) : bx_okT rxL (rxL.2.2.1 496 a) v ∧ rxIRY_21 S0 ws (bx_up S 496 a v) base dd a v ∧ rxmRY_21 S0 ws (bx_up S 496 a v) base dd a v < rxmRY_20 S0 ws S base dd a v := by
  obtain ⟨h, rfl, rfl⟩ := hinv
  have hb := h.1.2.2.1
  refine ⟨?_, ⟨rxP0_first h (fun q => (hP.1.2 q).1) hP.2.1 hP.2.2, by rw [bx_up_at, bx_up_row (by omega)]⟩, by unfold rxmRY_20 rxmRY_21; omega⟩
  rw [hb]
  exact rxDpc h.1.2.2.2.1 h.1.2.2.2.2.1 (by decide) (by omega) (by omega)
theorem rxsRY_20 {X : (Nat → Int → Int) → Prop} {S0 : Nat → Int → Int} {ws : List Int} (hP : rxPRY S0 ws) (hX : ∀ S S1 : Nat → Int → Int, X S → bx_same rxL (bx_mdl rxCRY.2.2.1) S S1 → X S1) : rx_obS X S0 rxCRY.2.2.1 (rxIRY S0 ws) (rxmRY S0 ws) 20 21 rxzRY_20 496 10 11 := by
  intro S r hinv hXS I0 hin hs_ hf_
  have b_ := bx_bds_sat hs_
  have f_ := bx_fcl_ok hs_.1 hf_
  obtain ⟨⟨l8, u8⟩, ⟨l9, u9⟩, ⟨l10, u10⟩, ⟨l11, u11⟩, -⟩ := b_
  have g := rxtRY_20 hP hin I0 hinv l8 u8 l9 u9 l10 u10 l11 u11
  exact ⟨g.1, g.2.1, g.2.2, hX _ _ hXS (rx_same_upR (fun _ _ _ _ _ => rfl) (tc := 0) (n := 120) (g := 77) rfl (by decide +kernel) l10 u10), rx_same_upR hin (tc := 0) (n := 120) (g := 77) rfl (by decide +kernel) l10 u10⟩
theorem rxkRY_22 {S0 : Nat → Int → Int} {ws : List Int} {S : Nat → Int → Int} {base dd : Int} (hP : rxPRY S0 ws) (hin : bx_same rxL (bx_mdl rxCRY.2.2.1) S0 S) (I0 : bx_Inv rxL S) (hinv : rxIRY_22 S0 ws S base dd) (l8 : 0 ≤ base) (u8 : base ≤ 110) (l9 : 0 ≤ dd) (u9 : dd ≤ 1) : rxPRE S [480, 0] ∧ ∀ (S_p : Nat → Int → Int), rxPSRE S [480, 0] S_p none → bx_Inv rxL S_p → bx_same rxL (bx_mdl rxCRE.2.2.1) S S_p → rxIRY_23 S0 ws S_p base dd ∧ rxmRY_23 S0 ws S_p base dd < rxmRY_22 S0 ws S base dd := by
  obtain ⟨h14, h, hm⟩ := hinv
  have b18 := rxBox18 I0
  have h9 := (h.2 h14).2.2.2.1
  refine ⟨⟨h.1.1, h9, h14, b18.1⟩, fun S_p hq I1 hsm => ?_⟩
  obtain ⟨-, q1, q2⟩ := hq
  have h16 : S_p 480 16 = S 480 16 := rx_sameO hsm (p := 480) (j := 16) rfl (by omega) (by decide +kernel) (by decide)
  have h496 : ∀ j : Int, 0 ≤ j → j < 120 → S_p 496 j = S 496 j := fun j j0 j1 => rx_sameR hsm (p := 496) (tc := 0) (n := 120) (g := 77) rfl (by omega) (by decide +kernel) (by decide +kernel) j0 (by omega)
  exact ⟨rxPy_re h (by omega) (by omega) hm h14 hP.2.2.1 q1 h16 h496 q2, by unfold rxmRY_22 rxmRY_23; omega⟩
theorem rxsRY_22 {X : (Nat → Int → Int) → Prop} {S0 : Nat → Int → Int} {ws : List Int} (hP : rxPRY S0 ws) : rx_obK X S0 rxCRY.2.2.1 rxCRE.2.2.1 (rxIRY S0 ws) (rxmRY S0 ws) 22 23 rxzRY_22 rxzRY_23 [.inr (3, (0, 480)), .inr (0, (0, 0))] none rxPRE rxPSRE := by
  intro S r hinv hXS I0 hin hs_ hf_
  have b_ := bx_bds_sat hs_
  have f_ := bx_fcl_ok hs_.1 hf_
  obtain ⟨⟨l8, u8⟩, ⟨l9, u9⟩, -⟩ := b_
  have g := rxkRY_22 hP hin I0 hinv l8 u8 l9 u9
  have ea : List.map (bx_num r) [.inr (3, (0, 480)), .inr (0, (0, 0))] = [480, 0] := by
    simp only [List.map_cons, List.map_nil, bx_xv_ok hs_.1]
    rfl
  rw [ea]
  refine ⟨g.1, fun S_p w r_p hPS hX_p I1 hsm hr hw hs_p => ?_⟩
  have hw : w = none := hPS.1
  subst hw
  have g2 := g.2 S_p hPS I1 hsm
  show rxIRY_23 S0 ws S_p (r_p 8) (r_p 9) ∧ rxmRY_23 S0 ws S_p (r_p 8) (r_p 9) < _
  rw [hr 8 (by decide), hr 9 (by decide)]
  exact g2
theorem rxtRY_24 {S0 : Nat → Int → Int} {ws : List Int} {S : Nat → Int → Int} {base dd a v : Int} (hP : rxPRY S0 ws) (hin : bx_same rxL (bx_mdl rxCRY.2.2.1) S0 S) (I0 : bx_Inv rxL S) (hinv : rxIRY_24 S0 ws S base dd a v) (l8 : 0 ≤ base) (u8 : base ≤ 110) (l9 : 0 ≤ dd) (u9 : dd ≤ 1) (l10 : 4 ≤ a) (u10 : a ≤ 114) (l11 : 0 ≤ v) (u11 : v ≤ 400) : bx_okT rxL (rxL.2.2.1 496 a) v ∧ rxIRY_25 S0 ws (bx_up S 496 a v) base dd a v ∧ rxmRY_25 S0 ws (bx_up S 496 a v) base dd a v < rxmRY_24 S0 ws S base dd a v := by
  obtain ⟨rfl, rfl, h⟩ := hinv
  have hb := h.1.2.2.1
  refine ⟨?_, ⟨rxPy_st h (by omega), by rw [bx_up_at, bx_up_row (by omega)]⟩, by unfold rxmRY_24 rxmRY_25; omega⟩
  rw [hb]
  exact rxDpc h.1.2.2.2.1 h.1.2.2.2.2.1 (by decide) (by omega) (by omega)
theorem rxsRY_24 {X : (Nat → Int → Int) → Prop} {S0 : Nat → Int → Int} {ws : List Int} (hP : rxPRY S0 ws) (hX : ∀ S S1 : Nat → Int → Int, X S → bx_same rxL (bx_mdl rxCRY.2.2.1) S S1 → X S1) : rx_obS X S0 rxCRY.2.2.1 (rxIRY S0 ws) (rxmRY S0 ws) 24 25 rxzRY_24 496 10 11 := by
  intro S r hinv hXS I0 hin hs_ hf_
  have b_ := bx_bds_sat hs_
  have f_ := bx_fcl_ok hs_.1 hf_
  obtain ⟨⟨l8, u8⟩, ⟨l9, u9⟩, ⟨l10, u10⟩, ⟨l11, u11⟩, -⟩ := b_
  have g := rxtRY_24 hP hin I0 hinv l8 u8 l9 u9 l10 u10 l11 u11
  exact ⟨g.1, g.2.1, g.2.2, hX _ _ hXS (rx_same_upR (fun _ _ _ _ _ => rfl) (tc := 0) (n := 120) (g := 77) rfl (by decide +kernel) l10 u10), rx_same_upR hin (tc := 0) (n := 120) (g := 77) rfl (by decide +kernel) l10 u10⟩
theorem rxkRY_26 {S0 : Nat → Int → Int} {ws : List Int} {S : Nat → Int → Int} {base dd : Int} (hP : rxPRY S0 ws) (hin : bx_same rxL (bx_mdl rxCRY.2.2.1) S0 S) (I0 : bx_Inv rxL S) (hinv : rxIRY_26 S0 ws S base dd) (l8 : 0 ≤ base) (u8 : base ≤ 110) (l9 : 0 ≤ dd) (u9 : dd ≤ 1) : rxPNX S [480] ∧ ∀ (S_p : Nat → Int → Int), rxPSNX S [480] S_p none → bx_Inv rxL S_p → bx_same rxL (bx_mdl rxCNX.2.2.1) S S_p → rxIRY_27 S0 ws S_p base dd ∧ rxmRY_27 S0 ws S_p base dd < rxmRY_26 S0 ws S base dd := by
  obtain ⟨h14, h, hm⟩ := hinv
  have b18 := rxBox18 I0
  have t1 := h.1.1.2.1
  have hb := h.1.2.2.1
  have hk := h.1.2.2.2.1
  have hk2 := h.1.2.2.2.2.1
  refine ⟨h.1.1.2.2.1, fun S_p hq I1 hsm => ?_⟩
  obtain ⟨-, q1, q2⟩ := hq
  have h16 : S_p 480 16 = S 480 16 := rx_sameO hsm (p := 480) (j := 16) rfl (by omega) (by decide +kernel) (by decide)
  have h496 : ∀ j : Int, 0 ≤ j → j < 120 → S_p 496 j = S 496 j := fun j j0 j1 => rx_sameR hsm (p := 496) (tc := 0) (n := 120) (g := 77) rfl (by omega) (by decide +kernel) (by decide +kernel) j0 (by omega)
  have h14_p : S_p 480 14 = S 480 14 := rx_sameO hsm (p := 480) (j := 14) rfl (by omega) (by decide +kernel) (by decide)
  have hs := rxSm_of hsm (by decide +kernel)
  exact ⟨⟨h14_p.trans h14, rxPy_nx h (by omega) (by omega) hP.2.2.1 b18.2 q1 hs h14 (by omega) h16 h496, (h496 _ (by omega) (by omega)).trans (hm.trans hs.1.symm)⟩, by unfold rxmRY_26 rxmRY_27; omega⟩
theorem rxsRY_26 {X : (Nat → Int → Int) → Prop} {S0 : Nat → Int → Int} {ws : List Int} (hP : rxPRY S0 ws) : rx_obK X S0 rxCRY.2.2.1 rxCNX.2.2.1 (rxIRY S0 ws) (rxmRY S0 ws) 26 27 rxzRY_26 rxzRY_27 [.inr (3, (0, 480))] none rxPNX rxPSNX := by
  intro S r hinv hXS I0 hin hs_ hf_
  have b_ := bx_bds_sat hs_
  have f_ := bx_fcl_ok hs_.1 hf_
  obtain ⟨⟨l8, u8⟩, ⟨l9, u9⟩, -⟩ := b_
  have g := rxkRY_26 hP hin I0 hinv l8 u8 l9 u9
  have ea : List.map (bx_num r) [.inr (3, (0, 480))] = [480] := by
    simp only [List.map_cons, List.map_nil, bx_xv_ok hs_.1]
    rfl
  rw [ea]
  refine ⟨g.1, fun S_p w r_p hPS hX_p I1 hsm hr hw hs_p => ?_⟩
  have hw : w = none := hPS.1
  subst hw
  have g2 := g.2 S_p hPS I1 hsm
  show rxIRY_27 S0 ws S_p (r_p 8) (r_p 9) ∧ rxmRY_27 S0 ws S_p (r_p 8) (r_p 9) < _
  rw [hr 8 (by decide), hr 9 (by decide)]
  exact g2
theorem rxkRY_28 {S0 : Nat → Int → Int} {ws : List Int} {S : Nat → Int → Int} {base dd : Int} (hP : rxPRY S0 ws) (hin : bx_same rxL (bx_mdl rxCRY.2.2.1) S0 S) (I0 : bx_Inv rxL S) (hinv : rxIRY_28 S0 ws S base dd) (l8 : 0 ≤ base) (u8 : base ≤ 110) (l9 : 0 ≤ dd) (u9 : dd ≤ 1) : rxPRE S [480, 0] ∧ ∀ (S_p : Nat → Int → Int), rxPSRE S [480, 0] S_p none → bx_Inv rxL S_p → bx_same rxL (bx_mdl rxCRE.2.2.1) S S_p → rxIRY_29 S0 ws S_p base dd ∧ rxmRY_29 S0 ws S_p base dd < rxmRY_28 S0 ws S base dd := by
  obtain ⟨h14, h, hm⟩ := hinv
  have b18 := rxBox18 I0
  have h9 := (h.2 h14).2.2.2.1
  refine ⟨⟨h.1.1, h9, h14, b18.1⟩, fun S_p hq I1 hsm => ?_⟩
  obtain ⟨-, q1, q2⟩ := hq
  have h16 : S_p 480 16 = S 480 16 := rx_sameO hsm (p := 480) (j := 16) rfl (by omega) (by decide +kernel) (by decide)
  have h496 : ∀ j : Int, 0 ≤ j → j < 120 → S_p 496 j = S 496 j := fun j j0 j1 => rx_sameR hsm (p := 496) (tc := 0) (n := 120) (g := 77) rfl (by omega) (by decide +kernel) (by decide +kernel) j0 (by omega)
  exact ⟨rxPy_re h (by omega) (by omega) hm h14 hP.2.2.1 q1 h16 h496 q2, by unfold rxmRY_28 rxmRY_29; omega⟩
theorem rxsRY_28 {X : (Nat → Int → Int) → Prop} {S0 : Nat → Int → Int} {ws : List Int} (hP : rxPRY S0 ws) : rx_obK X S0 rxCRY.2.2.1 rxCRE.2.2.1 (rxIRY S0 ws) (rxmRY S0 ws) 28 29 rxzRY_28 rxzRY_29 [.inr (3, (0, 480)), .inr (0, (0, 0))] none rxPRE rxPSRE := by
  intro S r hinv hXS I0 hin hs_ hf_
  have b_ := bx_bds_sat hs_
  have f_ := bx_fcl_ok hs_.1 hf_
  obtain ⟨⟨l8, u8⟩, ⟨l9, u9⟩, -⟩ := b_
  have g := rxkRY_28 hP hin I0 hinv l8 u8 l9 u9
  have ea : List.map (bx_num r) [.inr (3, (0, 480)), .inr (0, (0, 0))] = [480, 0] := by
    simp only [List.map_cons, List.map_nil, bx_xv_ok hs_.1]
    rfl
  rw [ea]
  refine ⟨g.1, fun S_p w r_p hPS hX_p I1 hsm hr hw hs_p => ?_⟩
  have hw : w = none := hPS.1
  subst hw
  have g2 := g.2 S_p hPS I1 hsm
  show rxIRY_29 S0 ws S_p (r_p 8) (r_p 9) ∧ rxmRY_29 S0 ws S_p (r_p 8) (r_p 9) < _
  rw [hr 8 (by decide), hr 9 (by decide)]
  exact g2
theorem rxtRY_30 {S0 : Nat → Int → Int} {ws : List Int} {S : Nat → Int → Int} {base dd a v : Int} (hP : rxPRY S0 ws) (hin : bx_same rxL (bx_mdl rxCRY.2.2.1) S0 S) (I0 : bx_Inv rxL S) (hinv : rxIRY_30 S0 ws S base dd a v) (l8 : 0 ≤ base) (u8 : base ≤ 110) (l9 : 0 ≤ dd) (u9 : dd ≤ 1) (l10 : 5 ≤ a) (u10 : a ≤ 115) (l11 : 0 ≤ v) (u11 : v ≤ 400) : bx_okT rxL (rxL.2.2.1 496 a) v ∧ rxIRY_31 S0 ws (bx_up S 496 a v) base dd a v ∧ rxmRY_31 S0 ws (bx_up S 496 a v) base dd a v < rxmRY_30 S0 ws S base dd a v := by
  obtain ⟨rfl, rfl, h⟩ := hinv
  have hb := h.1.2.2.1
  refine ⟨?_, ⟨rxPy_st h (by omega), by rw [bx_up_at, bx_up_row (by omega)]⟩, by unfold rxmRY_30 rxmRY_31; omega⟩
  rw [hb]
  exact rxDpc h.1.2.2.2.1 h.1.2.2.2.2.1 (by decide) (by omega) (by omega)
theorem rxsRY_30 {X : (Nat → Int → Int) → Prop} {S0 : Nat → Int → Int} {ws : List Int} (hP : rxPRY S0 ws) (hX : ∀ S S1 : Nat → Int → Int, X S → bx_same rxL (bx_mdl rxCRY.2.2.1) S S1 → X S1) : rx_obS X S0 rxCRY.2.2.1 (rxIRY S0 ws) (rxmRY S0 ws) 30 31 rxzRY_30 496 10 11 := by
  intro S r hinv hXS I0 hin hs_ hf_
  have b_ := bx_bds_sat hs_
  have f_ := bx_fcl_ok hs_.1 hf_
  obtain ⟨⟨l8, u8⟩, ⟨l9, u9⟩, ⟨l10, u10⟩, ⟨l11, u11⟩, -⟩ := b_
  have g := rxtRY_30 hP hin I0 hinv l8 u8 l9 u9 l10 u10 l11 u11
  exact ⟨g.1, g.2.1, g.2.2, hX _ _ hXS (rx_same_upR (fun _ _ _ _ _ => rfl) (tc := 0) (n := 120) (g := 77) rfl (by decide +kernel) l10 u10), rx_same_upR hin (tc := 0) (n := 120) (g := 77) rfl (by decide +kernel) l10 u10⟩
theorem rxkRY_32 {S0 : Nat → Int → Int} {ws : List Int} {S : Nat → Int → Int} {base dd : Int} (hP : rxPRY S0 ws) (hin : bx_same rxL (bx_mdl rxCRY.2.2.1) S0 S) (I0 : bx_Inv rxL S) (hinv : rxIRY_32 S0 ws S base dd) (l8 : 0 ≤ base) (u8 : base ≤ 110) (l9 : 0 ≤ dd) (u9 : dd ≤ 1) : rxPNX S [480] ∧ ∀ (S_p : Nat → Int → Int), rxPSNX S [480] S_p none → bx_Inv rxL S_p → bx_same rxL (bx_mdl rxCNX.2.2.1) S S_p → rxIRY_33 S0 ws S_p base dd ∧ rxmRY_33 S0 ws S_p base dd < rxmRY_32 S0 ws S base dd := by
  obtain ⟨h14, h, hm⟩ := hinv
  have b18 := rxBox18 I0
  have t1 := h.1.1.2.1
  have hb := h.1.2.2.1
  have hk := h.1.2.2.2.1
  have hk2 := h.1.2.2.2.2.1
  refine ⟨h.1.1.2.2.1, fun S_p hq I1 hsm => ?_⟩
  obtain ⟨-, q1, q2⟩ := hq
  have h16 : S_p 480 16 = S 480 16 := rx_sameO hsm (p := 480) (j := 16) rfl (by omega) (by decide +kernel) (by decide)
  have h496 : ∀ j : Int, 0 ≤ j → j < 120 → S_p 496 j = S 496 j := fun j j0 j1 => rx_sameR hsm (p := 496) (tc := 0) (n := 120) (g := 77) rfl (by omega) (by decide +kernel) (by decide +kernel) j0 (by omega)
  have h14_p : S_p 480 14 = S 480 14 := rx_sameO hsm (p := 480) (j := 14) rfl (by omega) (by decide +kernel) (by decide)
  have hs := rxSm_of hsm (by decide +kernel)
  exact ⟨⟨h14_p.trans h14, rxPy_nx h (by omega) (by omega) hP.2.2.1 b18.2 q1 hs h14 (by omega) h16 h496, (h496 _ (by omega) (by omega)).trans (hm.trans hs.1.symm)⟩, by unfold rxmRY_32 rxmRY_33; omega⟩
theorem rxsRY_32 {X : (Nat → Int → Int) → Prop} {S0 : Nat → Int → Int} {ws : List Int} (hP : rxPRY S0 ws) : rx_obK X S0 rxCRY.2.2.1 rxCNX.2.2.1 (rxIRY S0 ws) (rxmRY S0 ws) 32 33 rxzRY_32 rxzRY_33 [.inr (3, (0, 480))] none rxPNX rxPSNX := by
  intro S r hinv hXS I0 hin hs_ hf_
  have b_ := bx_bds_sat hs_
  have f_ := bx_fcl_ok hs_.1 hf_
  obtain ⟨⟨l8, u8⟩, ⟨l9, u9⟩, -⟩ := b_
  have g := rxkRY_32 hP hin I0 hinv l8 u8 l9 u9
  have ea : List.map (bx_num r) [.inr (3, (0, 480))] = [480] := by
    simp only [List.map_cons, List.map_nil, bx_xv_ok hs_.1]
    rfl
  rw [ea]
  refine ⟨g.1, fun S_p w r_p hPS hX_p I1 hsm hr hw hs_p => ?_⟩
  have hw : w = none := hPS.1
  subst hw
  have g2 := g.2 S_p hPS I1 hsm
  show rxIRY_33 S0 ws S_p (r_p 8) (r_p 9) ∧ rxmRY_33 S0 ws S_p (r_p 8) (r_p 9) < _
  rw [hr 8 (by decide), hr 9 (by decide)]
  exact g2
theorem rxkRY_34 {S0 : Nat → Int → Int} {ws : List Int} {S : Nat → Int → Int} {base dd : Int} (hP : rxPRY S0 ws) (hin : bx_same rxL (bx_mdl rxCRY.2.2.1) S0 S) (I0 : bx_Inv rxL S) (hinv : rxIRY_34 S0 ws S base dd) (l8 : 0 ≤ base) (u8 : base ≤ 110) (l9 : 0 ≤ dd) (u9 : dd ≤ 1) : rxPRE S [480, 1] ∧ ∀ (S_p : Nat → Int → Int), rxPSRE S [480, 1] S_p none → bx_Inv rxL S_p → bx_same rxL (bx_mdl rxCRE.2.2.1) S S_p → rxIRY_35 S0 ws S_p base dd ∧ rxmRY_35 S0 ws S_p base dd < rxmRY_34 S0 ws S base dd := by
  obtain ⟨h14, h, hm⟩ := hinv
  have b18 := rxBox18 I0
  have h9 := (h.2 h14).2.2.2.1
  refine ⟨⟨h.1.1, h9, h14, b18.1⟩, fun S_p hq I1 hsm => ?_⟩
  obtain ⟨-, q1, q2⟩ := hq
  have h16 : S_p 480 16 = S 480 16 := rx_sameO hsm (p := 480) (j := 16) rfl (by omega) (by decide +kernel) (by decide)
  have h496 : ∀ j : Int, 0 ≤ j → j < 120 → S_p 496 j = S 496 j := fun j j0 j1 => rx_sameR hsm (p := 496) (tc := 0) (n := 120) (g := 77) rfl (by omega) (by decide +kernel) (by decide +kernel) j0 (by omega)
  exact ⟨rxPy_re h (by omega) (by omega) hm h14 hP.2.2.1 q1 h16 h496 q2, by unfold rxmRY_34 rxmRY_35; omega⟩
theorem rxsRY_34 {X : (Nat → Int → Int) → Prop} {S0 : Nat → Int → Int} {ws : List Int} (hP : rxPRY S0 ws) : rx_obK X S0 rxCRY.2.2.1 rxCRE.2.2.1 (rxIRY S0 ws) (rxmRY S0 ws) 34 35 rxzRY_34 rxzRY_35 [.inr (3, (0, 480)), .inr (0, (0, 1))] none rxPRE rxPSRE := by
  intro S r hinv hXS I0 hin hs_ hf_
  have b_ := bx_bds_sat hs_
  have f_ := bx_fcl_ok hs_.1 hf_
  obtain ⟨⟨l8, u8⟩, ⟨l9, u9⟩, -⟩ := b_
  have g := rxkRY_34 hP hin I0 hinv l8 u8 l9 u9
  have ea : List.map (bx_num r) [.inr (3, (0, 480)), .inr (0, (0, 1))] = [480, 1] := by
    simp only [List.map_cons, List.map_nil, bx_xv_ok hs_.1]
    rfl
  rw [ea]
  refine ⟨g.1, fun S_p w r_p hPS hX_p I1 hsm hr hw hs_p => ?_⟩
  have hw : w = none := hPS.1
  subst hw
  have g2 := g.2 S_p hPS I1 hsm
  show rxIRY_35 S0 ws S_p (r_p 8) (r_p 9) ∧ rxmRY_35 S0 ws S_p (r_p 8) (r_p 9) < _
  rw [hr 8 (by decide), hr 9 (by decide)]
  exact g2
theorem rxtRY_36 {S0 : Nat → Int → Int} {ws : List Int} {S : Nat → Int → Int} {base dd a v : Int} (hP : rxPRY S0 ws) (hin : bx_same rxL (bx_mdl rxCRY.2.2.1) S0 S) (I0 : bx_Inv rxL S) (hinv : rxIRY_36 S0 ws S base dd a v) (l8 : 0 ≤ base) (u8 : base ≤ 110) (l9 : 0 ≤ dd) (u9 : dd ≤ 1) (l10 : 6 ≤ a) (u10 : a ≤ 116) (l11 : 0 ≤ v) (u11 : v ≤ 400) : bx_okT rxL (rxL.2.2.1 496 a) v ∧ rxIRY_37 S0 ws (bx_up S 496 a v) base dd a v ∧ rxmRY_37 S0 ws (bx_up S 496 a v) base dd a v < rxmRY_36 S0 ws S base dd a v := by
  obtain ⟨rfl, rfl, h⟩ := hinv
  have hb := h.1.2.2.1
  refine ⟨?_, rxPy_st h (by omega), by unfold rxmRY_36 rxmRY_37; omega⟩
  rw [hb]
  exact rxDpc h.1.2.2.2.1 h.1.2.2.2.2.1 (by decide) (by omega) (by omega)
theorem rxsRY_36 {X : (Nat → Int → Int) → Prop} {S0 : Nat → Int → Int} {ws : List Int} (hP : rxPRY S0 ws) (hX : ∀ S S1 : Nat → Int → Int, X S → bx_same rxL (bx_mdl rxCRY.2.2.1) S S1 → X S1) : rx_obS X S0 rxCRY.2.2.1 (rxIRY S0 ws) (rxmRY S0 ws) 36 37 rxzRY_36 496 10 11 := by
  intro S r hinv hXS I0 hin hs_ hf_
  have b_ := bx_bds_sat hs_
  have f_ := bx_fcl_ok hs_.1 hf_
  obtain ⟨⟨l8, u8⟩, ⟨l9, u9⟩, ⟨l10, u10⟩, ⟨l11, u11⟩, -⟩ := b_
  have g := rxtRY_36 hP hin I0 hinv l8 u8 l9 u9 l10 u10 l11 u11
  exact ⟨g.1, g.2.1, g.2.2, hX _ _ hXS (rx_same_upR (fun _ _ _ _ _ => rfl) (tc := 0) (n := 120) (g := 77) rfl (by decide +kernel) l10 u10), rx_same_upR hin (tc := 0) (n := 120) (g := 77) rfl (by decide +kernel) l10 u10⟩
theorem rxcRY_0_0 {S0 : Nat → Int → Int} {ws : List Int} {S : Nat → Int → Int} {x8 : Int} (hP : rxPRY S0 ws) (hin : bx_same rxL (bx_mdl rxCRY.2.2.1) S0 S) (I0 : bx_Inv rxL S) (hinv : rxIRY_0 S0 ws S) (l8 : 0 ≤ x8) (u8 : x8 ≤ 3) (f0 : x8 ≠ 1) (e0 : S 480 11 = x8) : (True) ∧ (True) ∧ rxIRY_1 S0 ws S 0 ∧ rxmRY_1 S0 ws S 0 < rxmRY_0 S0 ws S := by
  obtain ⟨rfl, hw⟩ := hinv
  exact ⟨trivial, trivial, ⟨rfl, fun q => by omega⟩, by unfold rxmRY_0 rxmRY_1; omega⟩
theorem rxgRY_0_0 {X : (Nat → Int → Int) → Prop} {S0 : Nat → Int → Int} {ws : List Int} (hP : rxPRY S0 ws) : bx_obC rxL X S0 rxCRY.2.2.1 (rxIRY S0 ws) (rxmRY S0 ws) 0 rxzRY_0 rxoRY_0_0 := by
  intro S S_p r r_p hinv hX hin hsm_ hseg
  obtain ⟨I0, I1, h0_, hr_, b_, f_, d_⟩ := bx_cl (evs := [(0, (0, 480), (0, 11), .inr (0, (8, 0)))]) (fvs := [(3, (8, 0), (0, 1), (0, 0))]) hseg (by decide +kernel) (by decide +kernel)
  have hinv : rxIRY_0 S0 ws S := hinv
  obtain ⟨⟨l8, u8⟩, -⟩ := b_
  obtain ⟨f0, -⟩ := f_
  obtain ⟨e0, w_⟩ := d_
  subst w_
  have g := rxcRY_0_0 hP hin I0 hinv l8 u8 f0 e0
  refine ⟨bx_narP_ok (l := []) g.1, bx_nfP_ok h0_ (fvs := []) (by decide +kernel) g.2.1, ?_, ?_⟩
  · show rxIRY_1 S0 ws S_p (bx_val [(0, 0), (0, 0), (0, 0), (0, 0), (0, 0), (0, 0), (0, 0), (0, 0), (0, 0)] r_p 8)
    rw [bx_val_x (n := 8) (e := (0, 0)) h0_ rfl]
    exact g.2.2.1
  · show rxmRY_1 S0 ws S_p (bx_val [(0, 0), (0, 0), (0, 0), (0, 0), (0, 0), (0, 0), (0, 0), (0, 0), (0, 0)] r_p 8) < rxmRY_0 S0 ws S_p
    rw [bx_val_x (n := 8) (e := (0, 0)) h0_ rfl]
    exact g.2.2.2
theorem rxcRY_0_1 {S0 : Nat → Int → Int} {ws : List Int} {S : Nat → Int → Int} {x8 x9 : Int} (hP : rxPRY S0 ws) (hin : bx_same rxL (bx_mdl rxCRY.2.2.1) S0 S) (I0 : bx_Inv rxL S) (hinv : rxIRY_0 S0 ws S) (l8 : 1 ≤ x8) (u8 : x8 ≤ 1) (l9 : (-9223372036854775808) ≤ x9) (u9 : x9 ≤ 9223372036854775807) (f0 : x9 ≠ 302) (e1 : S 480 11 = x8) (e0 : S 480 12 = x9) : (True) ∧ (True) ∧ rxIRY_1 S0 ws S 0 ∧ rxmRY_1 S0 ws S 0 < rxmRY_0 S0 ws S := by
  obtain ⟨rfl, hw⟩ := hinv
  exact ⟨trivial, trivial, ⟨rfl, fun q => by omega⟩, by unfold rxmRY_0 rxmRY_1; omega⟩
theorem rxgRY_0_1 {X : (Nat → Int → Int) → Prop} {S0 : Nat → Int → Int} {ws : List Int} (hP : rxPRY S0 ws) : bx_obC rxL X S0 rxCRY.2.2.1 (rxIRY S0 ws) (rxmRY S0 ws) 0 rxzRY_0 rxoRY_0_1 := by
  intro S S_p r r_p hinv hX hin hsm_ hseg
  obtain ⟨I0, I1, h0_, hr_, b_, f_, d_⟩ := bx_cl (evs := [(0, (0, 480), (0, 12), .inr (1, (9, 0))), (0, (0, 480), (0, 11), .inr (0, (8, 0)))]) (fvs := [(3, (9, 0), (0, 302), (0, 0))]) hseg (by decide +kernel) (by decide +kernel)
  have hinv : rxIRY_0 S0 ws S := hinv
  obtain ⟨⟨l8, u8⟩, ⟨l9, u9⟩, -⟩ := b_
  obtain ⟨f0, -⟩ := f_
  obtain ⟨e0, ⟨e1, w_⟩⟩ := d_
  subst w_
  have g := rxcRY_0_1 hP hin I0 hinv l8 u8 l9 u9 f0 e1 e0
  refine ⟨bx_narP_ok (l := []) g.1, bx_nfP_ok h0_ (fvs := []) (by decide +kernel) g.2.1, ?_, ?_⟩
  · show rxIRY_1 S0 ws S_p (bx_val [(0, 0), (0, 0), (0, 0), (0, 0), (0, 0), (0, 0), (0, 0), (0, 0), (0, 0)] r_p 8)
    rw [bx_val_x (n := 8) (e := (0, 0)) h0_ rfl]
    exact g.2.2.1
  · show rxmRY_1 S0 ws S_p (bx_val [(0, 0), (0, 0), (0, 0), (0, 0), (0, 0), (0, 0), (0, 0), (0, 0), (0, 0)] r_p 8) < rxmRY_0 S0 ws S_p
    rw [bx_val_x (n := 8) (e := (0, 0)) h0_ rfl]
    exact g.2.2.2
theorem rxcRY_0_2 {S0 : Nat → Int → Int} {ws : List Int} {S : Nat → Int → Int} {x8 x9 x10 : Int} (hP : rxPRY S0 ws) (hin : bx_same rxL (bx_mdl rxCRY.2.2.1) S0 S) (I0 : bx_Inv rxL S) (hinv : rxIRY_0 S0 ws S) (l8 : 1 ≤ x8) (u8 : x8 ≤ 1) (l9 : 302 ≤ x9) (u9 : x9 ≤ 302) (l10 : 0 ≤ x10) (u10 : x10 ≤ 11) (e2 : S 480 11 = x8) (e1 : S 480 12 = x9) (e0 : S 480 16 = x10) : (True) ∧ (True) ∧ rxIRY_1 S0 ws S 1 ∧ rxmRY_1 S0 ws S 1 < rxmRY_0 S0 ws S := by
  obtain ⟨rfl, hw⟩ := hinv
  exact ⟨trivial, trivial, ⟨rfl, fun q => by omega⟩, by unfold rxmRY_0 rxmRY_1; omega⟩
theorem rxgRY_0_2 {X : (Nat → Int → Int) → Prop} {S0 : Nat → Int → Int} {ws : List Int} (hP : rxPRY S0 ws) : bx_obC rxL X S0 rxCRY.2.2.1 (rxIRY S0 ws) (rxmRY S0 ws) 0 rxzRY_0 rxoRY_0_2 := by
  intro S S_p r r_p hinv hX hin hsm_ hseg
  obtain ⟨I0, I1, h0_, hr_, b_, f_, d_⟩ := bx_cl (evs := [(0, (0, 480), (0, 16), .inr (0, (10, 0))), (0, (0, 480), (0, 12), .inr (1, (9, 0))), (0, (0, 480), (0, 11), .inr (0, (8, 0)))]) (fvs := []) hseg (by decide +kernel) (by decide +kernel)
  have hinv : rxIRY_0 S0 ws S := hinv
  obtain ⟨⟨l8, u8⟩, ⟨l9, u9⟩, ⟨l10, u10⟩, -⟩ := b_
  obtain ⟨e0, ⟨e1, ⟨e2, w_⟩⟩⟩ := d_
  subst w_
  have g := rxcRY_0_2 hP hin I0 hinv l8 u8 l9 u9 l10 u10 e2 e1 e0
  refine ⟨bx_narP_ok (l := []) g.1, bx_nfP_ok h0_ (fvs := []) (by decide +kernel) g.2.1, ?_, ?_⟩
  · show rxIRY_1 S0 ws S_p (bx_val [(0, 0), (0, 0), (0, 0), (0, 0), (0, 0), (0, 0), (0, 0), (0, 0), (0, 1)] r_p 8)
    rw [bx_val_x (n := 8) (e := (0, 1)) h0_ rfl]
    exact g.2.2.1
  · show rxmRY_1 S0 ws S_p (bx_val [(0, 0), (0, 0), (0, 0), (0, 0), (0, 0), (0, 0), (0, 0), (0, 0), (0, 1)] r_p 8) < rxmRY_0 S0 ws S_p
    rw [bx_val_x (n := 8) (e := (0, 1)) h0_ rfl]
    exact g.2.2.2
theorem rxcRY_0_3 {S0 : Nat → Int → Int} {ws : List Int} {S : Nat → Int → Int} {x8 x9 x10 : Int} (hP : rxPRY S0 ws) (hin : bx_same rxL (bx_mdl rxCRY.2.2.1) S0 S) (I0 : bx_Inv rxL S) (hinv : rxIRY_0 S0 ws S) (l8 : 1 ≤ x8) (u8 : x8 ≤ 1) (l9 : 302 ≤ x9) (u9 : x9 ≤ 302) (l10 : 12 ≤ x10) (u10 : x10 ≤ 12) (e2 : S 480 11 = x8) (e1 : S 480 12 = x9) (e0 : S 480 16 = x10) : (True) ∧ (True) ∧ rxIRY_1 S0 ws S 0 ∧ rxmRY_1 S0 ws S 0 < rxmRY_0 S0 ws S := by
  obtain ⟨rfl, hw⟩ := hinv
  exact ⟨trivial, trivial, ⟨rfl, fun q => by omega⟩, by unfold rxmRY_0 rxmRY_1; omega⟩
theorem rxgRY_0_3 {X : (Nat → Int → Int) → Prop} {S0 : Nat → Int → Int} {ws : List Int} (hP : rxPRY S0 ws) : bx_obC rxL X S0 rxCRY.2.2.1 (rxIRY S0 ws) (rxmRY S0 ws) 0 rxzRY_0 rxoRY_0_3 := by
  intro S S_p r r_p hinv hX hin hsm_ hseg
  obtain ⟨I0, I1, h0_, hr_, b_, f_, d_⟩ := bx_cl (evs := [(0, (0, 480), (0, 16), .inr (0, (10, 0))), (0, (0, 480), (0, 12), .inr (1, (9, 0))), (0, (0, 480), (0, 11), .inr (0, (8, 0)))]) (fvs := []) hseg (by decide +kernel) (by decide +kernel)
  have hinv : rxIRY_0 S0 ws S := hinv
  obtain ⟨⟨l8, u8⟩, ⟨l9, u9⟩, ⟨l10, u10⟩, -⟩ := b_
  obtain ⟨e0, ⟨e1, ⟨e2, w_⟩⟩⟩ := d_
  subst w_
  have g := rxcRY_0_3 hP hin I0 hinv l8 u8 l9 u9 l10 u10 e2 e1 e0
  refine ⟨bx_narP_ok (l := []) g.1, bx_nfP_ok h0_ (fvs := []) (by decide +kernel) g.2.1, ?_, ?_⟩
  · show rxIRY_1 S0 ws S_p (bx_val [(0, 0), (0, 0), (0, 0), (0, 0), (0, 0), (0, 0), (0, 0), (0, 0), (0, 0)] r_p 8)
    rw [bx_val_x (n := 8) (e := (0, 0)) h0_ rfl]
    exact g.2.2.1
  · show rxmRY_1 S0 ws S_p (bx_val [(0, 0), (0, 0), (0, 0), (0, 0), (0, 0), (0, 0), (0, 0), (0, 0), (0, 0)] r_p 8) < rxmRY_0 S0 ws S_p
    rw [bx_val_x (n := 8) (e := (0, 0)) h0_ rfl]
    exact g.2.2.2
theorem rxcRY_2_0 {S0 : Nat → Int → Int} {ws : List Int} {S : Nat → Int → Int} {is x9 x10 : Int} (hP : rxPRY S0 ws) (hin : bx_same rxL (bx_mdl rxCRY.2.2.1) S0 S) (I0 : bx_Inv rxL S) (hinv : rxIRY_2 S0 ws S is) (l8 : 0 ≤ is) (u8 : is ≤ 1) (l9 : 0 ≤ x9) (u9 : x9 ≤ 0) (l10 : 0 ≤ x10) (u10 : x10 ≤ 12) (e1 : S 480 14 = x9) (e0 : S 480 16 = x10) : ((0 ≤ x10 ∧ x10 ≤ 11) ∧ True) ∧ (True) ∧ rxIRY_3 S0 ws S x10 ∧ rxmRY_3 S0 ws S x10 < rxmRY_2 S0 ws S is := by
  obtain ⟨h1, h2, h3, h4, h5, h6⟩ := hinv
  have g := h6 (by omega)
  exact ⟨⟨by omega, trivial⟩, trivial, ⟨by omega, h1, h2, h3, h4, h5⟩, by unfold rxmRY_2 rxmRY_3; omega⟩
theorem rxgRY_2_0 {X : (Nat → Int → Int) → Prop} {S0 : Nat → Int → Int} {ws : List Int} (hP : rxPRY S0 ws) : bx_obC rxL X S0 rxCRY.2.2.1 (rxIRY S0 ws) (rxmRY S0 ws) 2 rxzRY_2 rxoRY_2_0 := by
  intro S S_p r r_p hinv hX hin hsm_ hseg
  obtain ⟨I0, I1, h0_, hr_, b_, f_, d_⟩ := bx_cl (evs := [(0, (0, 480), (0, 16), .inr (0, (10, 0))), (0, (0, 480), (0, 14), .inr (0, (9, 0)))]) (fvs := []) hseg (by decide +kernel) (by decide +kernel)
  have hinv : rxIRY_2 S0 ws S (r 8) := hinv
  rw [← hr_ 8 (by decide)] at hinv
  obtain ⟨⟨l8, u8⟩, ⟨l9, u9⟩, ⟨l10, u10⟩, -⟩ := b_
  obtain ⟨e0, ⟨e1, w_⟩⟩ := d_
  subst w_
  have g := rxcRY_2_0 hP hin I0 hinv l8 u8 l9 u9 l10 u10 e1 e0
  refine ⟨bx_narP_ok (l := [(10, 0, 11)]) g.1, bx_nfP_ok h0_ (fvs := []) (by decide +kernel) g.2.1, ?_, ?_⟩
  · show rxIRY_3 S0 ws S_p (bx_val [(0, 0), (0, 0), (0, 0), (0, 0), (0, 0), (0, 0), (0, 0), (0, 0), (10, 0)] r_p 8)
    rw [bx_val_x (n := 8) (e := (10, 0)) h0_ rfl]
    exact g.2.2.1
  · show rxmRY_3 S0 ws S_p (bx_val [(0, 0), (0, 0), (0, 0), (0, 0), (0, 0), (0, 0), (0, 0), (0, 0), (10, 0)] r_p 8) < rxmRY_2 S0 ws S_p (r 8)
    rw [bx_val_x (n := 8) (e := (10, 0)) h0_ rfl, ← hr_ 8 (by decide)]
    exact g.2.2.2
theorem rxdRY_2_0 {S0 : Nat → Int → Int} {ws : List Int} {S : Nat → Int → Int} {is x9 : Int} (hP : rxPRY S0 ws) (hin : bx_same rxL (bx_mdl rxCRY.2.2.1) S0 S) (hin2 : bx_same rxL (bx_mdl rxCRY.2.2.1) S S) (I0 : bx_Inv rxL S) (I1 : bx_Inv rxL S) (hinv : rxIRY_2 S0 ws S is) (l8 : 0 ≤ is) (u8 : is ≤ 1) (l9 : 1 ≤ x9) (u9 : x9 ≤ 1) (f0 : x9 ≠ 0) (e0 : S 480 14 = x9) : (True) ∧ rxPSRY S0 ws S none := by
  obtain ⟨h1, h2, h3, h4, h5, h6⟩ := hinv
  exact ⟨trivial, rfl, ⟨h1, fun q => by omega⟩, fun q => by omega⟩
theorem rxfRY_2_0 {X : (Nat → Int → Int) → Prop} {S0 : Nat → Int → Int} {ws : List Int} (hP : rxPRY S0 ws) : bx_obE rxL X S0 rxCRY.2.2.1 (rxIRY S0 ws) (rxPSRY S0 ws) 2 rxzRY_2 rxeRY_2_0 := by
  intro S S_p r r_p hinv hX hin hsm_ hseg
  obtain ⟨I0, I1, h0_, hr_, b_, f_, d_⟩ := bx_cl (evs := [(0, (0, 480), (0, 14), .inr (0, (9, 0)))]) (fvs := [(3, (9, 0), (0, 0), (0, 0))]) hseg (by decide +kernel) (by decide +kernel)
  have hinv : rxIRY_2 S0 ws S (r 8) := hinv
  rw [← hr_ 8 (by decide)] at hinv
  obtain ⟨⟨l8, u8⟩, ⟨l9, u9⟩, -⟩ := b_
  obtain ⟨f0, -⟩ := f_
  obtain ⟨e0, w_⟩ := d_
  subst w_
  have g := rxdRY_2_0 hP hin hsm_ I0 I1 hinv l8 u8 l9 u9 f0 e0
  refine ⟨bx_narP_ok (l := []) g.1, ?_⟩
  exact g.2
theorem rxcRY_3_0 {S0 : Nat → Int → Int} {ws : List Int} {S : Nat → Int → Int} {nc x9 x10 : Int} (hP : rxPRY S0 ws) (hin : bx_same rxL (bx_mdl rxCRY.2.2.1) S0 S) (I0 : bx_Inv rxL S) (hinv : rxIRY_3 S0 ws S nc) (l8 : 0 ≤ nc) (u8 : nc ≤ 11) (l9 : 0 ≤ x9) (u9 : x9 ≤ 110) (l10 : 0 ≤ x10) (u10 : x10 ≤ 12) (f0 : x9 = 10 * (nc)) (e0 : S 480 16 = x10) : ((0 ≤ x10 ∧ x10 ≤ 11) ∧ True) ∧ (True) ∧ rxIRY_4 S0 ws S x9 x10 ∧ rxmRY_4 S0 ws S x9 x10 < rxmRY_3 S0 ws S nc := by
  obtain ⟨h0, h1, h2, h3, h4, h5⟩ := hinv
  exact ⟨⟨by omega, trivial⟩, trivial, ⟨by omega, by omega, h1, h2, h3, h4, h5⟩, by unfold rxmRY_3 rxmRY_4; omega⟩
theorem rxgRY_3_0 {X : (Nat → Int → Int) → Prop} {S0 : Nat → Int → Int} {ws : List Int} (hP : rxPRY S0 ws) : bx_obC rxL X S0 rxCRY.2.2.1 (rxIRY S0 ws) (rxmRY S0 ws) 3 rxzRY_3 rxoRY_3_0 := by
  intro S S_p r r_p hinv hX hin hsm_ hseg
  obtain ⟨I0, I1, h0_, hr_, b_, f_, d_⟩ := bx_cl (evs := [(0, (0, 480), (0, 16), .inr (0, (10, 0)))]) (fvs := [(4, (9, 0), (8, 0), (0, 10))]) hseg (by decide +kernel) (by decide +kernel)
  have hinv : rxIRY_3 S0 ws S (r 8) := hinv
  rw [← hr_ 8 (by decide)] at hinv
  obtain ⟨⟨l8, u8⟩, ⟨l9, u9⟩, ⟨l10, u10⟩, -⟩ := b_
  obtain ⟨f0, -⟩ := f_
  obtain ⟨e0, w_⟩ := d_
  subst w_
  have g := rxcRY_3_0 hP hin I0 hinv l8 u8 l9 u9 l10 u10 f0 e0
  refine ⟨bx_narP_ok (l := [(10, 0, 11)]) g.1, bx_nfP_ok h0_ (fvs := []) (by decide +kernel) g.2.1, ?_, ?_⟩
  · show rxIRY_4 S0 ws S_p (bx_val [(0, 0), (0, 0), (0, 0), (0, 0), (0, 0), (0, 0), (0, 0), (0, 0), (9, 0), (10, 0)] r_p 8) (bx_val [(0, 0), (0, 0), (0, 0), (0, 0), (0, 0), (0, 0), (0, 0), (0, 0), (9, 0), (10, 0)] r_p 9)
    rw [bx_val_x (n := 8) (e := (9, 0)) h0_ rfl, bx_val_x (n := 9) (e := (10, 0)) h0_ rfl]
    exact g.2.2.1
  · show rxmRY_4 S0 ws S_p (bx_val [(0, 0), (0, 0), (0, 0), (0, 0), (0, 0), (0, 0), (0, 0), (0, 0), (9, 0), (10, 0)] r_p 8) (bx_val [(0, 0), (0, 0), (0, 0), (0, 0), (0, 0), (0, 0), (0, 0), (0, 0), (9, 0), (10, 0)] r_p 9) < rxmRY_3 S0 ws S_p (r 8)
    rw [bx_val_x (n := 8) (e := (9, 0)) h0_ rfl, bx_val_x (n := 9) (e := (10, 0)) h0_ rfl, ← hr_ 8 (by decide)]
    exact g.2.2.2
theorem rxcRY_4_0 {S0 : Nat → Int → Int} {ws : List Int} {S : Nat → Int → Int} {base nc : Int} (hP : rxPRY S0 ws) (hin : bx_same rxL (bx_mdl rxCRY.2.2.1) S0 S) (I0 : bx_Inv rxL S) (hinv : rxIRY_4 S0 ws S base nc) (l8 : 0 ≤ base) (u8 : base ≤ 110) (l9 : 0 ≤ nc) (u9 : nc ≤ 11) : (True) ∧ (True) ∧ rxIRY_5 S0 ws (bx_up S 480 16 (nc + 1)) base base ∧ rxmRY_5 S0 ws (bx_up S 480 16 (nc + 1)) base base < rxmRY_4 S0 ws S base nc := by
  obtain ⟨h0, hb, h1, h2, h3, h4, h5⟩ := hinv
  have e : ∀ i : Int, i ≠ 16 → (bx_up S 480 16 (nc + 1)) 480 i = S 480 i := fun i hi => by simp [bx_up, hi]
  have f9 := e 9 (by omega)
  refine ⟨trivial, trivial, ⟨⟨⟨?_, ?_, by omega, by omega, by omega, fun j j0 j1 => ?_⟩, ⟨?_, ?_, ?_, fun i i0 i1 => ?_⟩, by omega⟩, by omega⟩, by unfold rxmRY_4 rxmRY_5; omega⟩
  · unfold rxTk at h1 ⊢
    rw [e 8 (by omega), e 9 (by omega), e 10 (by omega), e 11 (by omega), e 12 (by omega)]
    exact h1
  · simp [bx_up]
    omega
  · rw [← h5 j j0 (by omega)]
    simp [bx_up]
  · rw [e 18 (by omega)]
    exact h2.1
  · rw [e 24 (by omega)]
    exact h2.2.1
  · rw [e 25 (by omega)]
    exact h2.2.2.1
  · have g := h2.2.2.2 i i0 i1
    rw [← g.1, ← g.2.1, ← g.2.2.1, ← g.2.2.2]
    exact ⟨by simp [bx_up], by simp [bx_up], by simp [bx_up], by simp [bx_up]⟩
theorem rxgRY_4_0 {X : (Nat → Int → Int) → Prop} {S0 : Nat → Int → Int} {ws : List Int} (hP : rxPRY S0 ws) : bx_obC rxL X S0 rxCRY.2.2.1 (rxIRY S0 ws) (rxmRY S0 ws) 4 rxzRY_4 rxoRY_4_0 := by
  intro S S_p r r_p hinv hX hin hsm_ hseg
  obtain ⟨I0, I1, h0_, hr_, b_, f_, d_⟩ := bx_cl (evs := [(1, (0, 480), (0, 16), .inr (0, (9, 1)))]) (fvs := []) hseg (by decide +kernel) (by decide +kernel)
  have hinv : rxIRY_4 S0 ws S (r 8) (r 9) := hinv
  rw [← hr_ 8 (by decide), ← hr_ 9 (by decide)] at hinv
  obtain ⟨⟨l8, u8⟩, ⟨l9, u9⟩, -⟩ := b_
  obtain ⟨T0, w_, w0⟩ := d_
  subst w0
  subst w_
  have g := rxcRY_4_0 hP hin I0 hinv l8 u8 l9 u9
  refine ⟨bx_narP_ok (l := []) g.1, bx_nfP_ok h0_ (fvs := []) (by decide +kernel) g.2.1, ?_, ?_⟩
  · show rxIRY_5 S0 ws (bx_up T0 480 (16) (r_p 9 + 1)) (bx_val [(0, 0), (0, 0), (0, 0), (0, 0), (0, 0), (0, 0), (0, 0), (0, 0), (8, 0), (8, 0)] r_p 8) (bx_val [(0, 0), (0, 0), (0, 0), (0, 0), (0, 0), (0, 0), (0, 0), (0, 0), (8, 0), (8, 0)] r_p 9)
    rw [bx_val_x (n := 8) (e := (8, 0)) h0_ rfl, bx_val_x (n := 9) (e := (8, 0)) h0_ rfl]
    exact g.2.2.1
  · show rxmRY_5 S0 ws (bx_up T0 480 (16) (r_p 9 + 1)) (bx_val [(0, 0), (0, 0), (0, 0), (0, 0), (0, 0), (0, 0), (0, 0), (0, 0), (8, 0), (8, 0)] r_p 8) (bx_val [(0, 0), (0, 0), (0, 0), (0, 0), (0, 0), (0, 0), (0, 0), (0, 0), (8, 0), (8, 0)] r_p 9) < rxmRY_4 S0 ws T0 (r 8) (r 9)
    rw [bx_val_x (n := 8) (e := (8, 0)) h0_ rfl, bx_val_x (n := 9) (e := (8, 0)) h0_ rfl, ← hr_ 8 (by decide), ← hr_ 9 (by decide)]
    exact g.2.2.2
theorem rxcRY_7_0 {S0 : Nat → Int → Int} {ws : List Int} {S : Nat → Int → Int} {base a v : Int} (hP : rxPRY S0 ws) (hin : bx_same rxL (bx_mdl rxCRY.2.2.1) S0 S) (I0 : bx_Inv rxL S) (hinv : rxIRY_7 S0 ws S base a v) (l8 : 0 ≤ base) (u8 : base ≤ 110) (l9 : 0 ≤ a) (u9 : a ≤ 110) (l10 : (-2147483648) ≤ v) (u10 : v ≤ 2147483647) : (True) ∧ (True) ∧ rxIRY_8 S0 ws S base ∧ rxmRY_8 S0 ws S base < rxmRY_7 S0 ws S base a v := by
  exact ⟨trivial, trivial, hinv, by unfold rxmRY_7 rxmRY_8; omega⟩
theorem rxgRY_7_0 {X : (Nat → Int → Int) → Prop} {S0 : Nat → Int → Int} {ws : List Int} (hP : rxPRY S0 ws) : bx_obC rxL X S0 rxCRY.2.2.1 (rxIRY S0 ws) (rxmRY S0 ws) 7 rxzRY_7 rxoRY_7_0 := by
  intro S S_p r r_p hinv hX hin hsm_ hseg
  obtain ⟨I0, I1, h0_, hr_, b_, f_, d_⟩ := bx_cl (evs := []) (fvs := []) hseg (by decide +kernel) (by decide +kernel)
  have hinv : rxIRY_7 S0 ws S (r 8) (r 9) (r 10) := hinv
  rw [← hr_ 8 (by decide), ← hr_ 9 (by decide), ← hr_ 10 (by decide)] at hinv
  obtain ⟨⟨l8, u8⟩, ⟨l9, u9⟩, ⟨l10, u10⟩, -⟩ := b_
  have w_ := d_
  subst w_
  have g := rxcRY_7_0 hP hin I0 hinv l8 u8 l9 u9 l10 u10
  refine ⟨bx_narP_ok (l := []) g.1, bx_nfP_ok h0_ (fvs := []) (by decide +kernel) g.2.1, ?_, ?_⟩
  · show rxIRY_8 S0 ws S_p (bx_val [(0, 0), (0, 0), (0, 0), (0, 0), (0, 0), (0, 0), (0, 0), (0, 0), (8, 0)] r_p 8)
    rw [bx_val_x (n := 8) (e := (8, 0)) h0_ rfl]
    exact g.2.2.1
  · show rxmRY_8 S0 ws S_p (bx_val [(0, 0), (0, 0), (0, 0), (0, 0), (0, 0), (0, 0), (0, 0), (0, 0), (8, 0)] r_p 8) < rxmRY_7 S0 ws S_p (r 8) (r 9) (r 10)
    rw [bx_val_x (n := 8) (e := (8, 0)) h0_ rfl, ← hr_ 8 (by decide), ← hr_ 9 (by decide), ← hr_ 10 (by decide)]
    exact g.2.2.2
theorem rxcRY_10_0 {S0 : Nat → Int → Int} {ws : List Int} {S : Nat → Int → Int} {base is x10 : Int} (hP : rxPRY S0 ws) (hin : bx_same rxL (bx_mdl rxCRY.2.2.1) S0 S) (I0 : bx_Inv rxL S) (hinv : rxIRY_10 S0 ws S base is) (l8 : 0 ≤ base) (u8 : base ≤ 110) (l9 : 0 ≤ is) (u9 : is ≤ 1) (l10 : 1 ≤ x10) (u10 : x10 ≤ 1) (f0 : x10 ≠ 0) (e0 : S 480 14 = x10) : (True) ∧ (True) ∧ rxIRY_14 S0 ws S base (base + 1) 0 ∧ rxmRY_14 S0 ws S base (base + 1) 0 < rxmRY_10 S0 ws S base is := by
  exact ⟨trivial, trivial, ⟨hinv, by omega⟩, by unfold rxmRY_10 rxmRY_14; omega⟩
theorem rxgRY_10_0 {X : (Nat → Int → Int) → Prop} {S0 : Nat → Int → Int} {ws : List Int} (hP : rxPRY S0 ws) : bx_obC rxL X S0 rxCRY.2.2.1 (rxIRY S0 ws) (rxmRY S0 ws) 10 rxzRY_10 rxoRY_10_0 := by
  intro S S_p r r_p hinv hX hin hsm_ hseg
  obtain ⟨I0, I1, h0_, hr_, b_, f_, d_⟩ := bx_cl (evs := [(0, (0, 480), (0, 14), .inr (0, (10, 0)))]) (fvs := [(3, (10, 0), (0, 0), (0, 0))]) hseg (by decide +kernel) (by decide +kernel)
  have hinv : rxIRY_10 S0 ws S (r 8) (r 9) := hinv
  rw [← hr_ 8 (by decide), ← hr_ 9 (by decide)] at hinv
  obtain ⟨⟨l8, u8⟩, ⟨l9, u9⟩, ⟨l10, u10⟩, -⟩ := b_
  obtain ⟨f0, -⟩ := f_
  obtain ⟨e0, w_⟩ := d_
  subst w_
  have g := rxcRY_10_0 hP hin I0 hinv l8 u8 l9 u9 l10 u10 f0 e0
  refine ⟨bx_narP_ok (l := []) g.1, bx_nfP_ok h0_ (fvs := []) (by decide +kernel) g.2.1, ?_, ?_⟩
  · show rxIRY_14 S0 ws S_p (bx_val [(0, 0), (0, 0), (0, 0), (0, 0), (0, 0), (0, 0), (0, 0), (0, 0), (8, 0), (8, 1), (0, 0)] r_p 8) (bx_val [(0, 0), (0, 0), (0, 0), (0, 0), (0, 0), (0, 0), (0, 0), (0, 0), (8, 0), (8, 1), (0, 0)] r_p 9) (bx_val [(0, 0), (0, 0), (0, 0), (0, 0), (0, 0), (0, 0), (0, 0), (0, 0), (8, 0), (8, 1), (0, 0)] r_p 10)
    rw [bx_val_x (n := 8) (e := (8, 0)) h0_ rfl, bx_val_x (n := 9) (e := (8, 1)) h0_ rfl, bx_val_x (n := 10) (e := (0, 0)) h0_ rfl]
    exact g.2.2.1
  · show rxmRY_14 S0 ws S_p (bx_val [(0, 0), (0, 0), (0, 0), (0, 0), (0, 0), (0, 0), (0, 0), (0, 0), (8, 0), (8, 1), (0, 0)] r_p 8) (bx_val [(0, 0), (0, 0), (0, 0), (0, 0), (0, 0), (0, 0), (0, 0), (0, 0), (8, 0), (8, 1), (0, 0)] r_p 9) (bx_val [(0, 0), (0, 0), (0, 0), (0, 0), (0, 0), (0, 0), (0, 0), (0, 0), (8, 0), (8, 1), (0, 0)] r_p 10) < rxmRY_10 S0 ws S_p (r 8) (r 9)
    rw [bx_val_x (n := 8) (e := (8, 0)) h0_ rfl, bx_val_x (n := 9) (e := (8, 1)) h0_ rfl, bx_val_x (n := 10) (e := (0, 0)) h0_ rfl, ← hr_ 8 (by decide), ← hr_ 9 (by decide)]
    exact g.2.2.2
theorem rxcRY_10_1 {S0 : Nat → Int → Int} {ws : List Int} {S : Nat → Int → Int} {base is x10 : Int} (hP : rxPRY S0 ws) (hin : bx_same rxL (bx_mdl rxCRY.2.2.1) S0 S) (I0 : bx_Inv rxL S) (hinv : rxIRY_10 S0 ws S base is) (l8 : 0 ≤ base) (u8 : base ≤ 110) (l9 : 0 ≤ is) (u9 : is ≤ 1) (l10 : 0 ≤ x10) (u10 : x10 ≤ 0) (e0 : S 480 14 = x10) : (True) ∧ (True) ∧ rxIRY_11 S0 ws S base (base + 1) ∧ rxmRY_11 S0 ws S base (base + 1) < rxmRY_10 S0 ws S base is := by
  exact ⟨trivial, trivial, ⟨hinv, by omega⟩, by unfold rxmRY_10 rxmRY_11; omega⟩
theorem rxgRY_10_1 {X : (Nat → Int → Int) → Prop} {S0 : Nat → Int → Int} {ws : List Int} (hP : rxPRY S0 ws) : bx_obC rxL X S0 rxCRY.2.2.1 (rxIRY S0 ws) (rxmRY S0 ws) 10 rxzRY_10 rxoRY_10_1 := by
  intro S S_p r r_p hinv hX hin hsm_ hseg
  obtain ⟨I0, I1, h0_, hr_, b_, f_, d_⟩ := bx_cl (evs := [(0, (0, 480), (0, 14), .inr (0, (10, 0)))]) (fvs := []) hseg (by decide +kernel) (by decide +kernel)
  have hinv : rxIRY_10 S0 ws S (r 8) (r 9) := hinv
  rw [← hr_ 8 (by decide), ← hr_ 9 (by decide)] at hinv
  obtain ⟨⟨l8, u8⟩, ⟨l9, u9⟩, ⟨l10, u10⟩, -⟩ := b_
  obtain ⟨e0, w_⟩ := d_
  subst w_
  have g := rxcRY_10_1 hP hin I0 hinv l8 u8 l9 u9 l10 u10 e0
  refine ⟨bx_narP_ok (l := []) g.1, bx_nfP_ok h0_ (fvs := []) (by decide +kernel) g.2.1, ?_, ?_⟩
  · show rxIRY_11 S0 ws S_p (bx_val [(0, 0), (0, 0), (0, 0), (0, 0), (0, 0), (0, 0), (0, 0), (0, 0), (8, 0), (8, 1)] r_p 8) (bx_val [(0, 0), (0, 0), (0, 0), (0, 0), (0, 0), (0, 0), (0, 0), (0, 0), (8, 0), (8, 1)] r_p 9)
    rw [bx_val_x (n := 8) (e := (8, 0)) h0_ rfl, bx_val_x (n := 9) (e := (8, 1)) h0_ rfl]
    exact g.2.2.1
  · show rxmRY_11 S0 ws S_p (bx_val [(0, 0), (0, 0), (0, 0), (0, 0), (0, 0), (0, 0), (0, 0), (0, 0), (8, 0), (8, 1)] r_p 8) (bx_val [(0, 0), (0, 0), (0, 0), (0, 0), (0, 0), (0, 0), (0, 0), (0, 0), (8, 0), (8, 1)] r_p 9) < rxmRY_10 S0 ws S_p (r 8) (r 9)
    rw [bx_val_x (n := 8) (e := (8, 0)) h0_ rfl, bx_val_x (n := 9) (e := (8, 1)) h0_ rfl, ← hr_ 8 (by decide), ← hr_ 9 (by decide)]
    exact g.2.2.2
theorem rxcRY_13_0 {S0 : Nat → Int → Int} {ws : List Int} {S : Nat → Int → Int} {base a v x11 : Int} (hP : rxPRY S0 ws) (hin : bx_same rxL (bx_mdl rxCRY.2.2.1) S0 S) (I0 : bx_Inv rxL S) (hinv : rxIRY_13 S0 ws S base a v) (l8 : 0 ≤ base) (u8 : base ≤ 110) (l9 : 1 ≤ a) (u9 : a ≤ 111) (l10 : (-2147483648) ≤ v) (u10 : v ≤ 2147483647) (l11 : 0 ≤ x11) (u11 : x11 ≤ 3) (f0 : x11 ≠ 1) (f1 : x11 ≠ 1) (e0 : S 480 11 = x11) : (True) ∧ (True) ∧ rxIRY_16 S0 ws S base 0 0 ∧ rxmRY_16 S0 ws S base 0 0 < rxmRY_13 S0 ws S base a v := by
  exact ⟨trivial, trivial, hinv, by unfold rxmRY_13 rxmRY_16; omega⟩
theorem rxgRY_13_0 {X : (Nat → Int → Int) → Prop} {S0 : Nat → Int → Int} {ws : List Int} (hP : rxPRY S0 ws) : bx_obC rxL X S0 rxCRY.2.2.1 (rxIRY S0 ws) (rxmRY S0 ws) 13 rxzRY_13 rxoRY_13_0 := by
  intro S S_p r r_p hinv hX hin hsm_ hseg
  obtain ⟨I0, I1, h0_, hr_, b_, f_, d_⟩ := bx_cl (evs := [(0, (0, 480), (0, 11), .inr (0, (11, 0)))]) (fvs := [(3, (11, 0), (0, 1), (0, 0)), (3, (11, 0), (0, 1), (0, 0))]) hseg (by decide +kernel) (by decide +kernel)
  have hinv : rxIRY_13 S0 ws S (r 8) (r 9) (r 10) := hinv
  rw [← hr_ 8 (by decide), ← hr_ 9 (by decide), ← hr_ 10 (by decide)] at hinv
  obtain ⟨⟨l8, u8⟩, ⟨l9, u9⟩, ⟨l10, u10⟩, ⟨l11, u11⟩, -⟩ := b_
  obtain ⟨f0, f1, -⟩ := f_
  obtain ⟨e0, w_⟩ := d_
  subst w_
  have g := rxcRY_13_0 hP hin I0 hinv l8 u8 l9 u9 l10 u10 l11 u11 f0 f1 e0
  refine ⟨bx_narP_ok (l := []) g.1, bx_nfP_ok h0_ (fvs := []) (by decide +kernel) g.2.1, ?_, ?_⟩
  · show rxIRY_16 S0 ws S_p (bx_val [(0, 0), (0, 0), (0, 0), (0, 0), (0, 0), (0, 0), (0, 0), (0, 0), (8, 0), (0, 0), (0, 0)] r_p 8) (bx_val [(0, 0), (0, 0), (0, 0), (0, 0), (0, 0), (0, 0), (0, 0), (0, 0), (8, 0), (0, 0), (0, 0)] r_p 9) (bx_val [(0, 0), (0, 0), (0, 0), (0, 0), (0, 0), (0, 0), (0, 0), (0, 0), (8, 0), (0, 0), (0, 0)] r_p 10)
    rw [bx_val_x (n := 8) (e := (8, 0)) h0_ rfl, bx_val_x (n := 9) (e := (0, 0)) h0_ rfl, bx_val_x (n := 10) (e := (0, 0)) h0_ rfl]
    exact g.2.2.1
  · show rxmRY_16 S0 ws S_p (bx_val [(0, 0), (0, 0), (0, 0), (0, 0), (0, 0), (0, 0), (0, 0), (0, 0), (8, 0), (0, 0), (0, 0)] r_p 8) (bx_val [(0, 0), (0, 0), (0, 0), (0, 0), (0, 0), (0, 0), (0, 0), (0, 0), (8, 0), (0, 0), (0, 0)] r_p 9) (bx_val [(0, 0), (0, 0), (0, 0), (0, 0), (0, 0), (0, 0), (0, 0), (0, 0), (8, 0), (0, 0), (0, 0)] r_p 10) < rxmRY_13 S0 ws S_p (r 8) (r 9) (r 10)
    rw [bx_val_x (n := 8) (e := (8, 0)) h0_ rfl, bx_val_x (n := 9) (e := (0, 0)) h0_ rfl, bx_val_x (n := 10) (e := (0, 0)) h0_ rfl, ← hr_ 8 (by decide), ← hr_ 9 (by decide), ← hr_ 10 (by decide)]
    exact g.2.2.2
theorem rxcRY_13_1 {S0 : Nat → Int → Int} {ws : List Int} {S : Nat → Int → Int} {base a v x11 x12 : Int} (hP : rxPRY S0 ws) (hin : bx_same rxL (bx_mdl rxCRY.2.2.1) S0 S) (I0 : bx_Inv rxL S) (hinv : rxIRY_13 S0 ws S base a v) (l8 : 0 ≤ base) (u8 : base ≤ 110) (l9 : 1 ≤ a) (u9 : a ≤ 111) (l10 : (-2147483648) ≤ v) (u10 : v ≤ 2147483647) (l11 : 1 ≤ x11) (u11 : x11 ≤ 1) (l12 : (-9223372036854775808) ≤ x12) (u12 : x12 ≤ 9223372036854775807) (f0 : x12 ≠ 19513) (f1 : x12 ≠ 284264) (e1 : S 480 11 = x11) (e0 : S 480 12 = x12) : (True) ∧ (True) ∧ rxIRY_16 S0 ws S base 0 0 ∧ rxmRY_16 S0 ws S base 0 0 < rxmRY_13 S0 ws S base a v := by
  exact ⟨trivial, trivial, hinv, by unfold rxmRY_13 rxmRY_16; omega⟩
theorem rxgRY_13_1 {X : (Nat → Int → Int) → Prop} {S0 : Nat → Int → Int} {ws : List Int} (hP : rxPRY S0 ws) : bx_obC rxL X S0 rxCRY.2.2.1 (rxIRY S0 ws) (rxmRY S0 ws) 13 rxzRY_13 rxoRY_13_1 := by
  intro S S_p r r_p hinv hX hin hsm_ hseg
  obtain ⟨I0, I1, h0_, hr_, b_, f_, d_⟩ := bx_cl (evs := [(0, (0, 480), (0, 12), .inr (1, (12, 0))), (0, (0, 480), (0, 11), .inr (0, (11, 0)))]) (fvs := [(3, (12, 0), (0, 19513), (0, 0)), (3, (12, 0), (0, 284264), (0, 0))]) hseg (by decide +kernel) (by decide +kernel)
  have hinv : rxIRY_13 S0 ws S (r 8) (r 9) (r 10) := hinv
  rw [← hr_ 8 (by decide), ← hr_ 9 (by decide), ← hr_ 10 (by decide)] at hinv
  obtain ⟨⟨l8, u8⟩, ⟨l9, u9⟩, ⟨l10, u10⟩, ⟨l11, u11⟩, ⟨l12, u12⟩, -⟩ := b_
  obtain ⟨f0, f1, -⟩ := f_
  obtain ⟨e0, ⟨e1, w_⟩⟩ := d_
  subst w_
  have g := rxcRY_13_1 hP hin I0 hinv l8 u8 l9 u9 l10 u10 l11 u11 l12 u12 f0 f1 e1 e0
  refine ⟨bx_narP_ok (l := []) g.1, bx_nfP_ok h0_ (fvs := []) (by decide +kernel) g.2.1, ?_, ?_⟩
  · show rxIRY_16 S0 ws S_p (bx_val [(0, 0), (0, 0), (0, 0), (0, 0), (0, 0), (0, 0), (0, 0), (0, 0), (8, 0), (0, 0), (0, 0)] r_p 8) (bx_val [(0, 0), (0, 0), (0, 0), (0, 0), (0, 0), (0, 0), (0, 0), (0, 0), (8, 0), (0, 0), (0, 0)] r_p 9) (bx_val [(0, 0), (0, 0), (0, 0), (0, 0), (0, 0), (0, 0), (0, 0), (0, 0), (8, 0), (0, 0), (0, 0)] r_p 10)
    rw [bx_val_x (n := 8) (e := (8, 0)) h0_ rfl, bx_val_x (n := 9) (e := (0, 0)) h0_ rfl, bx_val_x (n := 10) (e := (0, 0)) h0_ rfl]
    exact g.2.2.1
  · show rxmRY_16 S0 ws S_p (bx_val [(0, 0), (0, 0), (0, 0), (0, 0), (0, 0), (0, 0), (0, 0), (0, 0), (8, 0), (0, 0), (0, 0)] r_p 8) (bx_val [(0, 0), (0, 0), (0, 0), (0, 0), (0, 0), (0, 0), (0, 0), (0, 0), (8, 0), (0, 0), (0, 0)] r_p 9) (bx_val [(0, 0), (0, 0), (0, 0), (0, 0), (0, 0), (0, 0), (0, 0), (0, 0), (8, 0), (0, 0), (0, 0)] r_p 10) < rxmRY_13 S0 ws S_p (r 8) (r 9) (r 10)
    rw [bx_val_x (n := 8) (e := (8, 0)) h0_ rfl, bx_val_x (n := 9) (e := (0, 0)) h0_ rfl, bx_val_x (n := 10) (e := (0, 0)) h0_ rfl, ← hr_ 8 (by decide), ← hr_ 9 (by decide), ← hr_ 10 (by decide)]
    exact g.2.2.2
theorem rxcRY_13_2 {S0 : Nat → Int → Int} {ws : List Int} {S : Nat → Int → Int} {base a v x11 x12 : Int} (hP : rxPRY S0 ws) (hin : bx_same rxL (bx_mdl rxCRY.2.2.1) S0 S) (I0 : bx_Inv rxL S) (hinv : rxIRY_13 S0 ws S base a v) (l8 : 0 ≤ base) (u8 : base ≤ 110) (l9 : 1 ≤ a) (u9 : a ≤ 111) (l10 : (-2147483648) ≤ v) (u10 : v ≤ 2147483647) (l11 : 1 ≤ x11) (u11 : x11 ≤ 1) (l12 : 19513 ≤ x12) (u12 : x12 ≤ 19513) (f0 : x12 ≠ 284264) (e1 : S 480 11 = x11) (e0 : S 480 12 = x12) : (True) ∧ (True) ∧ rxIRY_16 S0 ws S base 0 1 ∧ rxmRY_16 S0 ws S base 0 1 < rxmRY_13 S0 ws S base a v := by
  exact ⟨trivial, trivial, hinv, by unfold rxmRY_13 rxmRY_16; omega⟩
theorem rxgRY_13_2 {X : (Nat → Int → Int) → Prop} {S0 : Nat → Int → Int} {ws : List Int} (hP : rxPRY S0 ws) : bx_obC rxL X S0 rxCRY.2.2.1 (rxIRY S0 ws) (rxmRY S0 ws) 13 rxzRY_13 rxoRY_13_2 := by
  intro S S_p r r_p hinv hX hin hsm_ hseg
  obtain ⟨I0, I1, h0_, hr_, b_, f_, d_⟩ := bx_cl (evs := [(0, (0, 480), (0, 12), .inr (1, (12, 0))), (0, (0, 480), (0, 11), .inr (0, (11, 0)))]) (fvs := [(3, (12, 0), (0, 284264), (0, 0))]) hseg (by decide +kernel) (by decide +kernel)
  have hinv : rxIRY_13 S0 ws S (r 8) (r 9) (r 10) := hinv
  rw [← hr_ 8 (by decide), ← hr_ 9 (by decide), ← hr_ 10 (by decide)] at hinv
  obtain ⟨⟨l8, u8⟩, ⟨l9, u9⟩, ⟨l10, u10⟩, ⟨l11, u11⟩, ⟨l12, u12⟩, -⟩ := b_
  obtain ⟨f0, -⟩ := f_
  obtain ⟨e0, ⟨e1, w_⟩⟩ := d_
  subst w_
  have g := rxcRY_13_2 hP hin I0 hinv l8 u8 l9 u9 l10 u10 l11 u11 l12 u12 f0 e1 e0
  refine ⟨bx_narP_ok (l := []) g.1, bx_nfP_ok h0_ (fvs := []) (by decide +kernel) g.2.1, ?_, ?_⟩
  · show rxIRY_16 S0 ws S_p (bx_val [(0, 0), (0, 0), (0, 0), (0, 0), (0, 0), (0, 0), (0, 0), (0, 0), (8, 0), (0, 0), (0, 1)] r_p 8) (bx_val [(0, 0), (0, 0), (0, 0), (0, 0), (0, 0), (0, 0), (0, 0), (0, 0), (8, 0), (0, 0), (0, 1)] r_p 9) (bx_val [(0, 0), (0, 0), (0, 0), (0, 0), (0, 0), (0, 0), (0, 0), (0, 0), (8, 0), (0, 0), (0, 1)] r_p 10)
    rw [bx_val_x (n := 8) (e := (8, 0)) h0_ rfl, bx_val_x (n := 9) (e := (0, 0)) h0_ rfl, bx_val_x (n := 10) (e := (0, 1)) h0_ rfl]
    exact g.2.2.1
  · show rxmRY_16 S0 ws S_p (bx_val [(0, 0), (0, 0), (0, 0), (0, 0), (0, 0), (0, 0), (0, 0), (0, 0), (8, 0), (0, 0), (0, 1)] r_p 8) (bx_val [(0, 0), (0, 0), (0, 0), (0, 0), (0, 0), (0, 0), (0, 0), (0, 0), (8, 0), (0, 0), (0, 1)] r_p 9) (bx_val [(0, 0), (0, 0), (0, 0), (0, 0), (0, 0), (0, 0), (0, 0), (0, 0), (8, 0), (0, 0), (0, 1)] r_p 10) < rxmRY_13 S0 ws S_p (r 8) (r 9) (r 10)
    rw [bx_val_x (n := 8) (e := (8, 0)) h0_ rfl, bx_val_x (n := 9) (e := (0, 0)) h0_ rfl, bx_val_x (n := 10) (e := (0, 1)) h0_ rfl, ← hr_ 8 (by decide), ← hr_ 9 (by decide), ← hr_ 10 (by decide)]
    exact g.2.2.2
theorem rxcRY_13_3 {S0 : Nat → Int → Int} {ws : List Int} {S : Nat → Int → Int} {base a v x11 x12 : Int} (hP : rxPRY S0 ws) (hin : bx_same rxL (bx_mdl rxCRY.2.2.1) S0 S) (I0 : bx_Inv rxL S) (hinv : rxIRY_13 S0 ws S base a v) (l8 : 0 ≤ base) (u8 : base ≤ 110) (l9 : 1 ≤ a) (u9 : a ≤ 111) (l10 : (-2147483648) ≤ v) (u10 : v ≤ 2147483647) (l11 : 1 ≤ x11) (u11 : x11 ≤ 1) (l12 : 284264 ≤ x12) (u12 : x12 ≤ 284264) (e1 : S 480 11 = x11) (e0 : S 480 12 = x12) : (True) ∧ (True) ∧ rxIRY_16 S0 ws S base 1 1 ∧ rxmRY_16 S0 ws S base 1 1 < rxmRY_13 S0 ws S base a v := by
  exact ⟨trivial, trivial, hinv, by unfold rxmRY_13 rxmRY_16; omega⟩
theorem rxgRY_13_3 {X : (Nat → Int → Int) → Prop} {S0 : Nat → Int → Int} {ws : List Int} (hP : rxPRY S0 ws) : bx_obC rxL X S0 rxCRY.2.2.1 (rxIRY S0 ws) (rxmRY S0 ws) 13 rxzRY_13 rxoRY_13_3 := by
  intro S S_p r r_p hinv hX hin hsm_ hseg
  obtain ⟨I0, I1, h0_, hr_, b_, f_, d_⟩ := bx_cl (evs := [(0, (0, 480), (0, 12), .inr (1, (12, 0))), (0, (0, 480), (0, 11), .inr (0, (11, 0)))]) (fvs := []) hseg (by decide +kernel) (by decide +kernel)
  have hinv : rxIRY_13 S0 ws S (r 8) (r 9) (r 10) := hinv
  rw [← hr_ 8 (by decide), ← hr_ 9 (by decide), ← hr_ 10 (by decide)] at hinv
  obtain ⟨⟨l8, u8⟩, ⟨l9, u9⟩, ⟨l10, u10⟩, ⟨l11, u11⟩, ⟨l12, u12⟩, -⟩ := b_
  obtain ⟨e0, ⟨e1, w_⟩⟩ := d_
  subst w_
  have g := rxcRY_13_3 hP hin I0 hinv l8 u8 l9 u9 l10 u10 l11 u11 l12 u12 e1 e0
  refine ⟨bx_narP_ok (l := []) g.1, bx_nfP_ok h0_ (fvs := []) (by decide +kernel) g.2.1, ?_, ?_⟩
  · show rxIRY_16 S0 ws S_p (bx_val [(0, 0), (0, 0), (0, 0), (0, 0), (0, 0), (0, 0), (0, 0), (0, 0), (8, 0), (0, 1), (0, 1)] r_p 8) (bx_val [(0, 0), (0, 0), (0, 0), (0, 0), (0, 0), (0, 0), (0, 0), (0, 0), (8, 0), (0, 1), (0, 1)] r_p 9) (bx_val [(0, 0), (0, 0), (0, 0), (0, 0), (0, 0), (0, 0), (0, 0), (0, 0), (8, 0), (0, 1), (0, 1)] r_p 10)
    rw [bx_val_x (n := 8) (e := (8, 0)) h0_ rfl, bx_val_x (n := 9) (e := (0, 1)) h0_ rfl, bx_val_x (n := 10) (e := (0, 1)) h0_ rfl]
    exact g.2.2.1
  · show rxmRY_16 S0 ws S_p (bx_val [(0, 0), (0, 0), (0, 0), (0, 0), (0, 0), (0, 0), (0, 0), (0, 0), (8, 0), (0, 1), (0, 1)] r_p 8) (bx_val [(0, 0), (0, 0), (0, 0), (0, 0), (0, 0), (0, 0), (0, 0), (0, 0), (8, 0), (0, 1), (0, 1)] r_p 9) (bx_val [(0, 0), (0, 0), (0, 0), (0, 0), (0, 0), (0, 0), (0, 0), (0, 0), (8, 0), (0, 1), (0, 1)] r_p 10) < rxmRY_13 S0 ws S_p (r 8) (r 9) (r 10)
    rw [bx_val_x (n := 8) (e := (8, 0)) h0_ rfl, bx_val_x (n := 9) (e := (0, 1)) h0_ rfl, bx_val_x (n := 10) (e := (0, 1)) h0_ rfl, ← hr_ 8 (by decide), ← hr_ 9 (by decide), ← hr_ 10 (by decide)]
    exact g.2.2.2
theorem rxcRY_15_0 {S0 : Nat → Int → Int} {ws : List Int} {S : Nat → Int → Int} {base a v x11 : Int} (hP : rxPRY S0 ws) (hin : bx_same rxL (bx_mdl rxCRY.2.2.1) S0 S) (I0 : bx_Inv rxL S) (hinv : rxIRY_15 S0 ws S base a v) (l8 : 0 ≤ base) (u8 : base ≤ 110) (l9 : 1 ≤ a) (u9 : a ≤ 111) (l10 : 0 ≤ v) (u10 : v ≤ 0) (l11 : 0 ≤ x11) (u11 : x11 ≤ 3) (f0 : x11 ≠ 1) (f1 : x11 ≠ 1) (e0 : S 480 11 = x11) : (True) ∧ (True) ∧ rxIRY_16 S0 ws S base 0 0 ∧ rxmRY_16 S0 ws S base 0 0 < rxmRY_15 S0 ws S base a v := by
  exact ⟨trivial, trivial, hinv, by unfold rxmRY_15 rxmRY_16; omega⟩
theorem rxgRY_15_0 {X : (Nat → Int → Int) → Prop} {S0 : Nat → Int → Int} {ws : List Int} (hP : rxPRY S0 ws) : bx_obC rxL X S0 rxCRY.2.2.1 (rxIRY S0 ws) (rxmRY S0 ws) 15 rxzRY_15 rxoRY_15_0 := by
  intro S S_p r r_p hinv hX hin hsm_ hseg
  obtain ⟨I0, I1, h0_, hr_, b_, f_, d_⟩ := bx_cl (evs := [(0, (0, 480), (0, 11), .inr (0, (11, 0)))]) (fvs := [(3, (11, 0), (0, 1), (0, 0)), (3, (11, 0), (0, 1), (0, 0))]) hseg (by decide +kernel) (by decide +kernel)
  have hinv : rxIRY_15 S0 ws S (r 8) (r 9) (r 10) := hinv
  rw [← hr_ 8 (by decide), ← hr_ 9 (by decide), ← hr_ 10 (by decide)] at hinv
  obtain ⟨⟨l8, u8⟩, ⟨l9, u9⟩, ⟨l10, u10⟩, ⟨l11, u11⟩, -⟩ := b_
  obtain ⟨f0, f1, -⟩ := f_
  obtain ⟨e0, w_⟩ := d_
  subst w_
  have g := rxcRY_15_0 hP hin I0 hinv l8 u8 l9 u9 l10 u10 l11 u11 f0 f1 e0
  refine ⟨bx_narP_ok (l := []) g.1, bx_nfP_ok h0_ (fvs := []) (by decide +kernel) g.2.1, ?_, ?_⟩
  · show rxIRY_16 S0 ws S_p (bx_val [(0, 0), (0, 0), (0, 0), (0, 0), (0, 0), (0, 0), (0, 0), (0, 0), (8, 0), (0, 0), (0, 0)] r_p 8) (bx_val [(0, 0), (0, 0), (0, 0), (0, 0), (0, 0), (0, 0), (0, 0), (0, 0), (8, 0), (0, 0), (0, 0)] r_p 9) (bx_val [(0, 0), (0, 0), (0, 0), (0, 0), (0, 0), (0, 0), (0, 0), (0, 0), (8, 0), (0, 0), (0, 0)] r_p 10)
    rw [bx_val_x (n := 8) (e := (8, 0)) h0_ rfl, bx_val_x (n := 9) (e := (0, 0)) h0_ rfl, bx_val_x (n := 10) (e := (0, 0)) h0_ rfl]
    exact g.2.2.1
  · show rxmRY_16 S0 ws S_p (bx_val [(0, 0), (0, 0), (0, 0), (0, 0), (0, 0), (0, 0), (0, 0), (0, 0), (8, 0), (0, 0), (0, 0)] r_p 8) (bx_val [(0, 0), (0, 0), (0, 0), (0, 0), (0, 0), (0, 0), (0, 0), (0, 0), (8, 0), (0, 0), (0, 0)] r_p 9) (bx_val [(0, 0), (0, 0), (0, 0), (0, 0), (0, 0), (0, 0), (0, 0), (0, 0), (8, 0), (0, 0), (0, 0)] r_p 10) < rxmRY_15 S0 ws S_p (r 8) (r 9) (r 10)
    rw [bx_val_x (n := 8) (e := (8, 0)) h0_ rfl, bx_val_x (n := 9) (e := (0, 0)) h0_ rfl, bx_val_x (n := 10) (e := (0, 0)) h0_ rfl, ← hr_ 8 (by decide), ← hr_ 9 (by decide), ← hr_ 10 (by decide)]
    exact g.2.2.2
theorem rxcRY_15_1 {S0 : Nat → Int → Int} {ws : List Int} {S : Nat → Int → Int} {base a v x11 x12 : Int} (hP : rxPRY S0 ws) (hin : bx_same rxL (bx_mdl rxCRY.2.2.1) S0 S) (I0 : bx_Inv rxL S) (hinv : rxIRY_15 S0 ws S base a v) (l8 : 0 ≤ base) (u8 : base ≤ 110) (l9 : 1 ≤ a) (u9 : a ≤ 111) (l10 : 0 ≤ v) (u10 : v ≤ 0) (l11 : 1 ≤ x11) (u11 : x11 ≤ 1) (l12 : (-9223372036854775808) ≤ x12) (u12 : x12 ≤ 9223372036854775807) (f0 : x12 ≠ 19513) (f1 : x12 ≠ 284264) (e1 : S 480 11 = x11) (e0 : S 480 12 = x12) : (True) ∧ (True) ∧ rxIRY_16 S0 ws S base 0 0 ∧ rxmRY_16 S0 ws S base 0 0 < rxmRY_15 S0 ws S base a v := by
  exact ⟨trivial, trivial, hinv, by unfold rxmRY_15 rxmRY_16; omega⟩
theorem rxgRY_15_1 {X : (Nat → Int → Int) → Prop} {S0 : Nat → Int → Int} {ws : List Int} (hP : rxPRY S0 ws) : bx_obC rxL X S0 rxCRY.2.2.1 (rxIRY S0 ws) (rxmRY S0 ws) 15 rxzRY_15 rxoRY_15_1 := by
  intro S S_p r r_p hinv hX hin hsm_ hseg
  obtain ⟨I0, I1, h0_, hr_, b_, f_, d_⟩ := bx_cl (evs := [(0, (0, 480), (0, 12), .inr (1, (12, 0))), (0, (0, 480), (0, 11), .inr (0, (11, 0)))]) (fvs := [(3, (12, 0), (0, 19513), (0, 0)), (3, (12, 0), (0, 284264), (0, 0))]) hseg (by decide +kernel) (by decide +kernel)
  have hinv : rxIRY_15 S0 ws S (r 8) (r 9) (r 10) := hinv
  rw [← hr_ 8 (by decide), ← hr_ 9 (by decide), ← hr_ 10 (by decide)] at hinv
  obtain ⟨⟨l8, u8⟩, ⟨l9, u9⟩, ⟨l10, u10⟩, ⟨l11, u11⟩, ⟨l12, u12⟩, -⟩ := b_
  obtain ⟨f0, f1, -⟩ := f_
  obtain ⟨e0, ⟨e1, w_⟩⟩ := d_
  subst w_
  have g := rxcRY_15_1 hP hin I0 hinv l8 u8 l9 u9 l10 u10 l11 u11 l12 u12 f0 f1 e1 e0
  refine ⟨bx_narP_ok (l := []) g.1, bx_nfP_ok h0_ (fvs := []) (by decide +kernel) g.2.1, ?_, ?_⟩
  · show rxIRY_16 S0 ws S_p (bx_val [(0, 0), (0, 0), (0, 0), (0, 0), (0, 0), (0, 0), (0, 0), (0, 0), (8, 0), (0, 0), (0, 0)] r_p 8) (bx_val [(0, 0), (0, 0), (0, 0), (0, 0), (0, 0), (0, 0), (0, 0), (0, 0), (8, 0), (0, 0), (0, 0)] r_p 9) (bx_val [(0, 0), (0, 0), (0, 0), (0, 0), (0, 0), (0, 0), (0, 0), (0, 0), (8, 0), (0, 0), (0, 0)] r_p 10)
    rw [bx_val_x (n := 8) (e := (8, 0)) h0_ rfl, bx_val_x (n := 9) (e := (0, 0)) h0_ rfl, bx_val_x (n := 10) (e := (0, 0)) h0_ rfl]
    exact g.2.2.1
  · show rxmRY_16 S0 ws S_p (bx_val [(0, 0), (0, 0), (0, 0), (0, 0), (0, 0), (0, 0), (0, 0), (0, 0), (8, 0), (0, 0), (0, 0)] r_p 8) (bx_val [(0, 0), (0, 0), (0, 0), (0, 0), (0, 0), (0, 0), (0, 0), (0, 0), (8, 0), (0, 0), (0, 0)] r_p 9) (bx_val [(0, 0), (0, 0), (0, 0), (0, 0), (0, 0), (0, 0), (0, 0), (0, 0), (8, 0), (0, 0), (0, 0)] r_p 10) < rxmRY_15 S0 ws S_p (r 8) (r 9) (r 10)
    rw [bx_val_x (n := 8) (e := (8, 0)) h0_ rfl, bx_val_x (n := 9) (e := (0, 0)) h0_ rfl, bx_val_x (n := 10) (e := (0, 0)) h0_ rfl, ← hr_ 8 (by decide), ← hr_ 9 (by decide), ← hr_ 10 (by decide)]
    exact g.2.2.2
theorem rxcRY_15_2 {S0 : Nat → Int → Int} {ws : List Int} {S : Nat → Int → Int} {base a v x11 x12 : Int} (hP : rxPRY S0 ws) (hin : bx_same rxL (bx_mdl rxCRY.2.2.1) S0 S) (I0 : bx_Inv rxL S) (hinv : rxIRY_15 S0 ws S base a v) (l8 : 0 ≤ base) (u8 : base ≤ 110) (l9 : 1 ≤ a) (u9 : a ≤ 111) (l10 : 0 ≤ v) (u10 : v ≤ 0) (l11 : 1 ≤ x11) (u11 : x11 ≤ 1) (l12 : 19513 ≤ x12) (u12 : x12 ≤ 19513) (f0 : x12 ≠ 284264) (e1 : S 480 11 = x11) (e0 : S 480 12 = x12) : (True) ∧ (True) ∧ rxIRY_16 S0 ws S base 0 1 ∧ rxmRY_16 S0 ws S base 0 1 < rxmRY_15 S0 ws S base a v := by
  exact ⟨trivial, trivial, hinv, by unfold rxmRY_15 rxmRY_16; omega⟩
theorem rxgRY_15_2 {X : (Nat → Int → Int) → Prop} {S0 : Nat → Int → Int} {ws : List Int} (hP : rxPRY S0 ws) : bx_obC rxL X S0 rxCRY.2.2.1 (rxIRY S0 ws) (rxmRY S0 ws) 15 rxzRY_15 rxoRY_15_2 := by
  intro S S_p r r_p hinv hX hin hsm_ hseg
  obtain ⟨I0, I1, h0_, hr_, b_, f_, d_⟩ := bx_cl (evs := [(0, (0, 480), (0, 12), .inr (1, (12, 0))), (0, (0, 480), (0, 11), .inr (0, (11, 0)))]) (fvs := [(3, (12, 0), (0, 284264), (0, 0))]) hseg (by decide +kernel) (by decide +kernel)
  have hinv : rxIRY_15 S0 ws S (r 8) (r 9) (r 10) := hinv
  rw [← hr_ 8 (by decide), ← hr_ 9 (by decide), ← hr_ 10 (by decide)] at hinv
  obtain ⟨⟨l8, u8⟩, ⟨l9, u9⟩, ⟨l10, u10⟩, ⟨l11, u11⟩, ⟨l12, u12⟩, -⟩ := b_
  obtain ⟨f0, -⟩ := f_
  obtain ⟨e0, ⟨e1, w_⟩⟩ := d_
  subst w_
  have g := rxcRY_15_2 hP hin I0 hinv l8 u8 l9 u9 l10 u10 l11 u11 l12 u12 f0 e1 e0
  refine ⟨bx_narP_ok (l := []) g.1, bx_nfP_ok h0_ (fvs := []) (by decide +kernel) g.2.1, ?_, ?_⟩
  · show rxIRY_16 S0 ws S_p (bx_val [(0, 0), (0, 0), (0, 0), (0, 0), (0, 0), (0, 0), (0, 0), (0, 0), (8, 0), (0, 0), (0, 1)] r_p 8) (bx_val [(0, 0), (0, 0), (0, 0), (0, 0), (0, 0), (0, 0), (0, 0), (0, 0), (8, 0), (0, 0), (0, 1)] r_p 9) (bx_val [(0, 0), (0, 0), (0, 0), (0, 0), (0, 0), (0, 0), (0, 0), (0, 0), (8, 0), (0, 0), (0, 1)] r_p 10)
    rw [bx_val_x (n := 8) (e := (8, 0)) h0_ rfl, bx_val_x (n := 9) (e := (0, 0)) h0_ rfl, bx_val_x (n := 10) (e := (0, 1)) h0_ rfl]
    exact g.2.2.1
  · show rxmRY_16 S0 ws S_p (bx_val [(0, 0), (0, 0), (0, 0), (0, 0), (0, 0), (0, 0), (0, 0), (0, 0), (8, 0), (0, 0), (0, 1)] r_p 8) (bx_val [(0, 0), (0, 0), (0, 0), (0, 0), (0, 0), (0, 0), (0, 0), (0, 0), (8, 0), (0, 0), (0, 1)] r_p 9) (bx_val [(0, 0), (0, 0), (0, 0), (0, 0), (0, 0), (0, 0), (0, 0), (0, 0), (8, 0), (0, 0), (0, 1)] r_p 10) < rxmRY_15 S0 ws S_p (r 8) (r 9) (r 10)
    rw [bx_val_x (n := 8) (e := (8, 0)) h0_ rfl, bx_val_x (n := 9) (e := (0, 0)) h0_ rfl, bx_val_x (n := 10) (e := (0, 1)) h0_ rfl, ← hr_ 8 (by decide), ← hr_ 9 (by decide), ← hr_ 10 (by decide)]
    exact g.2.2.2
theorem rxcRY_15_3 {S0 : Nat → Int → Int} {ws : List Int} {S : Nat → Int → Int} {base a v x11 x12 : Int} (hP : rxPRY S0 ws) (hin : bx_same rxL (bx_mdl rxCRY.2.2.1) S0 S) (I0 : bx_Inv rxL S) (hinv : rxIRY_15 S0 ws S base a v) (l8 : 0 ≤ base) (u8 : base ≤ 110) (l9 : 1 ≤ a) (u9 : a ≤ 111) (l10 : 0 ≤ v) (u10 : v ≤ 0) (l11 : 1 ≤ x11) (u11 : x11 ≤ 1) (l12 : 284264 ≤ x12) (u12 : x12 ≤ 284264) (e1 : S 480 11 = x11) (e0 : S 480 12 = x12) : (True) ∧ (True) ∧ rxIRY_16 S0 ws S base 1 1 ∧ rxmRY_16 S0 ws S base 1 1 < rxmRY_15 S0 ws S base a v := by
  exact ⟨trivial, trivial, hinv, by unfold rxmRY_15 rxmRY_16; omega⟩
theorem rxgRY_15_3 {X : (Nat → Int → Int) → Prop} {S0 : Nat → Int → Int} {ws : List Int} (hP : rxPRY S0 ws) : bx_obC rxL X S0 rxCRY.2.2.1 (rxIRY S0 ws) (rxmRY S0 ws) 15 rxzRY_15 rxoRY_15_3 := by
  intro S S_p r r_p hinv hX hin hsm_ hseg
  obtain ⟨I0, I1, h0_, hr_, b_, f_, d_⟩ := bx_cl (evs := [(0, (0, 480), (0, 12), .inr (1, (12, 0))), (0, (0, 480), (0, 11), .inr (0, (11, 0)))]) (fvs := []) hseg (by decide +kernel) (by decide +kernel)
  have hinv : rxIRY_15 S0 ws S (r 8) (r 9) (r 10) := hinv
  rw [← hr_ 8 (by decide), ← hr_ 9 (by decide), ← hr_ 10 (by decide)] at hinv
  obtain ⟨⟨l8, u8⟩, ⟨l9, u9⟩, ⟨l10, u10⟩, ⟨l11, u11⟩, ⟨l12, u12⟩, -⟩ := b_
  obtain ⟨e0, ⟨e1, w_⟩⟩ := d_
  subst w_
  have g := rxcRY_15_3 hP hin I0 hinv l8 u8 l9 u9 l10 u10 l11 u11 l12 u12 e1 e0
  refine ⟨bx_narP_ok (l := []) g.1, bx_nfP_ok h0_ (fvs := []) (by decide +kernel) g.2.1, ?_, ?_⟩
  · show rxIRY_16 S0 ws S_p (bx_val [(0, 0), (0, 0), (0, 0), (0, 0), (0, 0), (0, 0), (0, 0), (0, 0), (8, 0), (0, 1), (0, 1)] r_p 8) (bx_val [(0, 0), (0, 0), (0, 0), (0, 0), (0, 0), (0, 0), (0, 0), (0, 0), (8, 0), (0, 1), (0, 1)] r_p 9) (bx_val [(0, 0), (0, 0), (0, 0), (0, 0), (0, 0), (0, 0), (0, 0), (0, 0), (8, 0), (0, 1), (0, 1)] r_p 10)
    rw [bx_val_x (n := 8) (e := (8, 0)) h0_ rfl, bx_val_x (n := 9) (e := (0, 1)) h0_ rfl, bx_val_x (n := 10) (e := (0, 1)) h0_ rfl]
    exact g.2.2.1
  · show rxmRY_16 S0 ws S_p (bx_val [(0, 0), (0, 0), (0, 0), (0, 0), (0, 0), (0, 0), (0, 0), (0, 0), (8, 0), (0, 1), (0, 1)] r_p 8) (bx_val [(0, 0), (0, 0), (0, 0), (0, 0), (0, 0), (0, 0), (0, 0), (0, 0), (8, 0), (0, 1), (0, 1)] r_p 9) (bx_val [(0, 0), (0, 0), (0, 0), (0, 0), (0, 0), (0, 0), (0, 0), (0, 0), (8, 0), (0, 1), (0, 1)] r_p 10) < rxmRY_15 S0 ws S_p (r 8) (r 9) (r 10)
    rw [bx_val_x (n := 8) (e := (8, 0)) h0_ rfl, bx_val_x (n := 9) (e := (0, 1)) h0_ rfl, bx_val_x (n := 10) (e := (0, 1)) h0_ rfl, ← hr_ 8 (by decide), ← hr_ 9 (by decide), ← hr_ 10 (by decide)]
    exact g.2.2.2
theorem rxcRY_17_0 {S0 : Nat → Int → Int} {ws : List Int} {S : Nat → Int → Int} {base dd is : Int} (hP : rxPRY S0 ws) (hin : bx_same rxL (bx_mdl rxCRY.2.2.1) S0 S) (I0 : bx_Inv rxL S) (hinv : rxIRY_17 S0 ws S base dd is) (l8 : 0 ≤ base) (u8 : base ≤ 110) (l9 : 1 ≤ dd) (u9 : dd ≤ 1) (l10 : 0 ≤ is) (u10 : is ≤ 1) (f0 : dd ≠ 0) : (True) ∧ (True) ∧ rxIRY_18 S0 ws S base dd (base + 2) 1 ∧ rxmRY_18 S0 ws S base dd (base + 2) 1 < rxmRY_17 S0 ws S base dd is := by
  exact ⟨trivial, trivial, ⟨hinv, by omega⟩, by unfold rxmRY_17 rxmRY_18; omega⟩
theorem rxgRY_17_0 {X : (Nat → Int → Int) → Prop} {S0 : Nat → Int → Int} {ws : List Int} (hP : rxPRY S0 ws) : bx_obC rxL X S0 rxCRY.2.2.1 (rxIRY S0 ws) (rxmRY S0 ws) 17 rxzRY_17 rxoRY_17_0 := by
  intro S S_p r r_p hinv hX hin hsm_ hseg
  obtain ⟨I0, I1, h0_, hr_, b_, f_, d_⟩ := bx_cl (evs := []) (fvs := [(3, (9, 0), (0, 0), (0, 0))]) hseg (by decide +kernel) (by decide +kernel)
  have hinv : rxIRY_17 S0 ws S (r 8) (r 9) (r 10) := hinv
  rw [← hr_ 8 (by decide), ← hr_ 9 (by decide), ← hr_ 10 (by decide)] at hinv
  obtain ⟨⟨l8, u8⟩, ⟨l9, u9⟩, ⟨l10, u10⟩, -⟩ := b_
  obtain ⟨f0, -⟩ := f_
  have w_ := d_
  subst w_
  have g := rxcRY_17_0 hP hin I0 hinv l8 u8 l9 u9 l10 u10 f0
  refine ⟨bx_narP_ok (l := []) g.1, bx_nfP_ok h0_ (fvs := []) (by decide +kernel) g.2.1, ?_, ?_⟩
  · show rxIRY_18 S0 ws S_p (bx_val [(0, 0), (0, 0), (0, 0), (0, 0), (0, 0), (0, 0), (0, 0), (0, 0), (8, 0), (9, 0), (8, 2), (0, 1)] r_p 8) (bx_val [(0, 0), (0, 0), (0, 0), (0, 0), (0, 0), (0, 0), (0, 0), (0, 0), (8, 0), (9, 0), (8, 2), (0, 1)] r_p 9) (bx_val [(0, 0), (0, 0), (0, 0), (0, 0), (0, 0), (0, 0), (0, 0), (0, 0), (8, 0), (9, 0), (8, 2), (0, 1)] r_p 10) (bx_val [(0, 0), (0, 0), (0, 0), (0, 0), (0, 0), (0, 0), (0, 0), (0, 0), (8, 0), (9, 0), (8, 2), (0, 1)] r_p 11)
    rw [bx_val_x (n := 8) (e := (8, 0)) h0_ rfl, bx_val_x (n := 9) (e := (9, 0)) h0_ rfl, bx_val_x (n := 10) (e := (8, 2)) h0_ rfl, bx_val_x (n := 11) (e := (0, 1)) h0_ rfl]
    exact g.2.2.1
  · show rxmRY_18 S0 ws S_p (bx_val [(0, 0), (0, 0), (0, 0), (0, 0), (0, 0), (0, 0), (0, 0), (0, 0), (8, 0), (9, 0), (8, 2), (0, 1)] r_p 8) (bx_val [(0, 0), (0, 0), (0, 0), (0, 0), (0, 0), (0, 0), (0, 0), (0, 0), (8, 0), (9, 0), (8, 2), (0, 1)] r_p 9) (bx_val [(0, 0), (0, 0), (0, 0), (0, 0), (0, 0), (0, 0), (0, 0), (0, 0), (8, 0), (9, 0), (8, 2), (0, 1)] r_p 10) (bx_val [(0, 0), (0, 0), (0, 0), (0, 0), (0, 0), (0, 0), (0, 0), (0, 0), (8, 0), (9, 0), (8, 2), (0, 1)] r_p 11) < rxmRY_17 S0 ws S_p (r 8) (r 9) (r 10)
    rw [bx_val_x (n := 8) (e := (8, 0)) h0_ rfl, bx_val_x (n := 9) (e := (9, 0)) h0_ rfl, bx_val_x (n := 10) (e := (8, 2)) h0_ rfl, bx_val_x (n := 11) (e := (0, 1)) h0_ rfl, ← hr_ 8 (by decide), ← hr_ 9 (by decide), ← hr_ 10 (by decide)]
    exact g.2.2.2
theorem rxcRY_17_1 {S0 : Nat → Int → Int} {ws : List Int} {S : Nat → Int → Int} {base dd is : Int} (hP : rxPRY S0 ws) (hin : bx_same rxL (bx_mdl rxCRY.2.2.1) S0 S) (I0 : bx_Inv rxL S) (hinv : rxIRY_17 S0 ws S base dd is) (l8 : 0 ≤ base) (u8 : base ≤ 110) (l9 : 0 ≤ dd) (u9 : dd ≤ 0) (l10 : 0 ≤ is) (u10 : is ≤ 1) : (True) ∧ (True) ∧ rxIRY_18 S0 ws S base dd (base + 2) 0 ∧ rxmRY_18 S0 ws S base dd (base + 2) 0 < rxmRY_17 S0 ws S base dd is := by
  exact ⟨trivial, trivial, ⟨hinv, by omega⟩, by unfold rxmRY_17 rxmRY_18; omega⟩
theorem rxgRY_17_1 {X : (Nat → Int → Int) → Prop} {S0 : Nat → Int → Int} {ws : List Int} (hP : rxPRY S0 ws) : bx_obC rxL X S0 rxCRY.2.2.1 (rxIRY S0 ws) (rxmRY S0 ws) 17 rxzRY_17 rxoRY_17_1 := by
  intro S S_p r r_p hinv hX hin hsm_ hseg
  obtain ⟨I0, I1, h0_, hr_, b_, f_, d_⟩ := bx_cl (evs := []) (fvs := []) hseg (by decide +kernel) (by decide +kernel)
  have hinv : rxIRY_17 S0 ws S (r 8) (r 9) (r 10) := hinv
  rw [← hr_ 8 (by decide), ← hr_ 9 (by decide), ← hr_ 10 (by decide)] at hinv
  obtain ⟨⟨l8, u8⟩, ⟨l9, u9⟩, ⟨l10, u10⟩, -⟩ := b_
  have w_ := d_
  subst w_
  have g := rxcRY_17_1 hP hin I0 hinv l8 u8 l9 u9 l10 u10
  refine ⟨bx_narP_ok (l := []) g.1, bx_nfP_ok h0_ (fvs := []) (by decide +kernel) g.2.1, ?_, ?_⟩
  · show rxIRY_18 S0 ws S_p (bx_val [(0, 0), (0, 0), (0, 0), (0, 0), (0, 0), (0, 0), (0, 0), (0, 0), (8, 0), (9, 0), (8, 2), (0, 0)] r_p 8) (bx_val [(0, 0), (0, 0), (0, 0), (0, 0), (0, 0), (0, 0), (0, 0), (0, 0), (8, 0), (9, 0), (8, 2), (0, 0)] r_p 9) (bx_val [(0, 0), (0, 0), (0, 0), (0, 0), (0, 0), (0, 0), (0, 0), (0, 0), (8, 0), (9, 0), (8, 2), (0, 0)] r_p 10) (bx_val [(0, 0), (0, 0), (0, 0), (0, 0), (0, 0), (0, 0), (0, 0), (0, 0), (8, 0), (9, 0), (8, 2), (0, 0)] r_p 11)
    rw [bx_val_x (n := 8) (e := (8, 0)) h0_ rfl, bx_val_x (n := 9) (e := (9, 0)) h0_ rfl, bx_val_x (n := 10) (e := (8, 2)) h0_ rfl, bx_val_x (n := 11) (e := (0, 0)) h0_ rfl]
    exact g.2.2.1
  · show rxmRY_18 S0 ws S_p (bx_val [(0, 0), (0, 0), (0, 0), (0, 0), (0, 0), (0, 0), (0, 0), (0, 0), (8, 0), (9, 0), (8, 2), (0, 0)] r_p 8) (bx_val [(0, 0), (0, 0), (0, 0), (0, 0), (0, 0), (0, 0), (0, 0), (0, 0), (8, 0), (9, 0), (8, 2), (0, 0)] r_p 9) (bx_val [(0, 0), (0, 0), (0, 0), (0, 0), (0, 0), (0, 0), (0, 0), (0, 0), (8, 0), (9, 0), (8, 2), (0, 0)] r_p 10) (bx_val [(0, 0), (0, 0), (0, 0), (0, 0), (0, 0), (0, 0), (0, 0), (0, 0), (8, 0), (9, 0), (8, 2), (0, 0)] r_p 11) < rxmRY_17 S0 ws S_p (r 8) (r 9) (r 10)
    rw [bx_val_x (n := 8) (e := (8, 0)) h0_ rfl, bx_val_x (n := 9) (e := (9, 0)) h0_ rfl, bx_val_x (n := 10) (e := (8, 2)) h0_ rfl, bx_val_x (n := 11) (e := (0, 0)) h0_ rfl, ← hr_ 8 (by decide), ← hr_ 9 (by decide), ← hr_ 10 (by decide)]
    exact g.2.2.2
theorem rxcRY_19_0 {S0 : Nat → Int → Int} {ws : List Int} {S : Nat → Int → Int} {base dd a v x12 : Int} (hP : rxPRY S0 ws) (hin : bx_same rxL (bx_mdl rxCRY.2.2.1) S0 S) (I0 : bx_Inv rxL S) (hinv : rxIRY_19 S0 ws S base dd a v) (l8 : 0 ≤ base) (u8 : base ≤ 110) (l9 : 0 ≤ dd) (u9 : dd ≤ 1) (l10 : 2 ≤ a) (u10 : a ≤ 112) (l11 : 0 ≤ v) (u11 : v ≤ 1) (l12 : 0 ≤ x12) (u12 : x12 ≤ 400) (e0 : S 480 18 = x12) : (True) ∧ (True) ∧ rxIRY_20 S0 ws S base dd (base + 3) x12 ∧ rxmRY_20 S0 ws S base dd (base + 3) x12 < rxmRY_19 S0 ws S base dd a v := by
  exact ⟨trivial, trivial, ⟨hinv, by omega, by omega⟩, by unfold rxmRY_19 rxmRY_20; omega⟩
theorem rxgRY_19_0 {X : (Nat → Int → Int) → Prop} {S0 : Nat → Int → Int} {ws : List Int} (hP : rxPRY S0 ws) : bx_obC rxL X S0 rxCRY.2.2.1 (rxIRY S0 ws) (rxmRY S0 ws) 19 rxzRY_19 rxoRY_19_0 := by
  intro S S_p r r_p hinv hX hin hsm_ hseg
  obtain ⟨I0, I1, h0_, hr_, b_, f_, d_⟩ := bx_cl (evs := [(0, (0, 480), (0, 18), .inr (0, (12, 0)))]) (fvs := []) hseg (by decide +kernel) (by decide +kernel)
  have hinv : rxIRY_19 S0 ws S (r 8) (r 9) (r 10) (r 11) := hinv
  rw [← hr_ 8 (by decide), ← hr_ 9 (by decide), ← hr_ 10 (by decide), ← hr_ 11 (by decide)] at hinv
  obtain ⟨⟨l8, u8⟩, ⟨l9, u9⟩, ⟨l10, u10⟩, ⟨l11, u11⟩, ⟨l12, u12⟩, -⟩ := b_
  obtain ⟨e0, w_⟩ := d_
  subst w_
  have g := rxcRY_19_0 hP hin I0 hinv l8 u8 l9 u9 l10 u10 l11 u11 l12 u12 e0
  refine ⟨bx_narP_ok (l := []) g.1, bx_nfP_ok h0_ (fvs := []) (by decide +kernel) g.2.1, ?_, ?_⟩
  · show rxIRY_20 S0 ws S_p (bx_val [(0, 0), (0, 0), (0, 0), (0, 0), (0, 0), (0, 0), (0, 0), (0, 0), (8, 0), (9, 0), (8, 3), (12, 0)] r_p 8) (bx_val [(0, 0), (0, 0), (0, 0), (0, 0), (0, 0), (0, 0), (0, 0), (0, 0), (8, 0), (9, 0), (8, 3), (12, 0)] r_p 9) (bx_val [(0, 0), (0, 0), (0, 0), (0, 0), (0, 0), (0, 0), (0, 0), (0, 0), (8, 0), (9, 0), (8, 3), (12, 0)] r_p 10) (bx_val [(0, 0), (0, 0), (0, 0), (0, 0), (0, 0), (0, 0), (0, 0), (0, 0), (8, 0), (9, 0), (8, 3), (12, 0)] r_p 11)
    rw [bx_val_x (n := 8) (e := (8, 0)) h0_ rfl, bx_val_x (n := 9) (e := (9, 0)) h0_ rfl, bx_val_x (n := 10) (e := (8, 3)) h0_ rfl, bx_val_x (n := 11) (e := (12, 0)) h0_ rfl]
    exact g.2.2.1
  · show rxmRY_20 S0 ws S_p (bx_val [(0, 0), (0, 0), (0, 0), (0, 0), (0, 0), (0, 0), (0, 0), (0, 0), (8, 0), (9, 0), (8, 3), (12, 0)] r_p 8) (bx_val [(0, 0), (0, 0), (0, 0), (0, 0), (0, 0), (0, 0), (0, 0), (0, 0), (8, 0), (9, 0), (8, 3), (12, 0)] r_p 9) (bx_val [(0, 0), (0, 0), (0, 0), (0, 0), (0, 0), (0, 0), (0, 0), (0, 0), (8, 0), (9, 0), (8, 3), (12, 0)] r_p 10) (bx_val [(0, 0), (0, 0), (0, 0), (0, 0), (0, 0), (0, 0), (0, 0), (0, 0), (8, 0), (9, 0), (8, 3), (12, 0)] r_p 11) < rxmRY_19 S0 ws S_p (r 8) (r 9) (r 10) (r 11)
    rw [bx_val_x (n := 8) (e := (8, 0)) h0_ rfl, bx_val_x (n := 9) (e := (9, 0)) h0_ rfl, bx_val_x (n := 10) (e := (8, 3)) h0_ rfl, bx_val_x (n := 11) (e := (12, 0)) h0_ rfl, ← hr_ 8 (by decide), ← hr_ 9 (by decide), ← hr_ 10 (by decide), ← hr_ 11 (by decide)]
    exact g.2.2.2
theorem rxcRY_21_0 {S0 : Nat → Int → Int} {ws : List Int} {S : Nat → Int → Int} {base dd a v x12 : Int} (hP : rxPRY S0 ws) (hin : bx_same rxL (bx_mdl rxCRY.2.2.1) S0 S) (I0 : bx_Inv rxL S) (hinv : rxIRY_21 S0 ws S base dd a v) (l8 : 0 ≤ base) (u8 : base ≤ 110) (l9 : 0 ≤ dd) (u9 : dd ≤ 0) (l10 : 3 ≤ a) (u10 : a ≤ 113) (l11 : 0 ≤ v) (u11 : v ≤ 400) (l12 : 0 ≤ x12) (u12 : x12 ≤ 0) (e0 : S 480 14 = x12) : (True) ∧ (True) ∧ rxIRY_22 S0 ws S base dd ∧ rxmRY_22 S0 ws S base dd < rxmRY_21 S0 ws S base dd a v := by
  exact ⟨trivial, trivial, ⟨by omega, hinv⟩, by unfold rxmRY_21 rxmRY_22; omega⟩
theorem rxgRY_21_0 {X : (Nat → Int → Int) → Prop} {S0 : Nat → Int → Int} {ws : List Int} (hP : rxPRY S0 ws) : bx_obC rxL X S0 rxCRY.2.2.1 (rxIRY S0 ws) (rxmRY S0 ws) 21 rxzRY_21 rxoRY_21_0 := by
  intro S S_p r r_p hinv hX hin hsm_ hseg
  obtain ⟨I0, I1, h0_, hr_, b_, f_, d_⟩ := bx_cl (evs := [(0, (0, 480), (0, 14), .inr (0, (12, 0)))]) (fvs := []) hseg (by decide +kernel) (by decide +kernel)
  have hinv : rxIRY_21 S0 ws S (r 8) (r 9) (r 10) (r 11) := hinv
  rw [← hr_ 8 (by decide), ← hr_ 9 (by decide), ← hr_ 10 (by decide), ← hr_ 11 (by decide)] at hinv
  obtain ⟨⟨l8, u8⟩, ⟨l9, u9⟩, ⟨l10, u10⟩, ⟨l11, u11⟩, ⟨l12, u12⟩, -⟩ := b_
  obtain ⟨e0, w_⟩ := d_
  subst w_
  have g := rxcRY_21_0 hP hin I0 hinv l8 u8 l9 u9 l10 u10 l11 u11 l12 u12 e0
  refine ⟨bx_narP_ok (l := []) g.1, bx_nfP_ok h0_ (fvs := []) (by decide +kernel) g.2.1, ?_, ?_⟩
  · show rxIRY_22 S0 ws S_p (bx_val [(0, 0), (0, 0), (0, 0), (0, 0), (0, 0), (0, 0), (0, 0), (0, 0), (8, 0), (9, 0)] r_p 8) (bx_val [(0, 0), (0, 0), (0, 0), (0, 0), (0, 0), (0, 0), (0, 0), (0, 0), (8, 0), (9, 0)] r_p 9)
    rw [bx_val_x (n := 8) (e := (8, 0)) h0_ rfl, bx_val_x (n := 9) (e := (9, 0)) h0_ rfl]
    exact g.2.2.1
  · show rxmRY_22 S0 ws S_p (bx_val [(0, 0), (0, 0), (0, 0), (0, 0), (0, 0), (0, 0), (0, 0), (0, 0), (8, 0), (9, 0)] r_p 8) (bx_val [(0, 0), (0, 0), (0, 0), (0, 0), (0, 0), (0, 0), (0, 0), (0, 0), (8, 0), (9, 0)] r_p 9) < rxmRY_21 S0 ws S_p (r 8) (r 9) (r 10) (r 11)
    rw [bx_val_x (n := 8) (e := (8, 0)) h0_ rfl, bx_val_x (n := 9) (e := (9, 0)) h0_ rfl, ← hr_ 8 (by decide), ← hr_ 9 (by decide), ← hr_ 10 (by decide), ← hr_ 11 (by decide)]
    exact g.2.2.2
theorem rxcRY_21_1 {S0 : Nat → Int → Int} {ws : List Int} {S : Nat → Int → Int} {base dd a v x12 x13 : Int} (hP : rxPRY S0 ws) (hin : bx_same rxL (bx_mdl rxCRY.2.2.1) S0 S) (I0 : bx_Inv rxL S) (hinv : rxIRY_21 S0 ws S base dd a v) (l8 : 0 ≤ base) (u8 : base ≤ 110) (l9 : 1 ≤ dd) (u9 : dd ≤ 1) (l10 : 3 ≤ a) (u10 : a ≤ 113) (l11 : 0 ≤ v) (u11 : v ≤ 400) (l12 : 0 ≤ x12) (u12 : x12 ≤ 0) (l13 : 0 ≤ x13) (u13 : x13 ≤ 400) (f0 : dd ≠ 0) (e1 : S 480 14 = x12) (e0 : S 480 18 = x13) : (True) ∧ (True) ∧ rxIRY_24 S0 ws S base dd (base + 4) x13 ∧ rxmRY_24 S0 ws S base dd (base + 4) x13 < rxmRY_21 S0 ws S base dd a v := by
  exact ⟨trivial, trivial, ⟨by omega, by omega, hinv.1⟩, by unfold rxmRY_21 rxmRY_24; omega⟩
theorem rxgRY_21_1 {X : (Nat → Int → Int) → Prop} {S0 : Nat → Int → Int} {ws : List Int} (hP : rxPRY S0 ws) : bx_obC rxL X S0 rxCRY.2.2.1 (rxIRY S0 ws) (rxmRY S0 ws) 21 rxzRY_21 rxoRY_21_1 := by
  intro S S_p r r_p hinv hX hin hsm_ hseg
  obtain ⟨I0, I1, h0_, hr_, b_, f_, d_⟩ := bx_cl (evs := [(0, (0, 480), (0, 18), .inr (0, (13, 0))), (0, (0, 480), (0, 14), .inr (0, (12, 0)))]) (fvs := [(3, (9, 0), (0, 0), (0, 0))]) hseg (by decide +kernel) (by decide +kernel)
  have hinv : rxIRY_21 S0 ws S (r 8) (r 9) (r 10) (r 11) := hinv
  rw [← hr_ 8 (by decide), ← hr_ 9 (by decide), ← hr_ 10 (by decide), ← hr_ 11 (by decide)] at hinv
  obtain ⟨⟨l8, u8⟩, ⟨l9, u9⟩, ⟨l10, u10⟩, ⟨l11, u11⟩, ⟨l12, u12⟩, ⟨l13, u13⟩, -⟩ := b_
  obtain ⟨f0, -⟩ := f_
  obtain ⟨e0, ⟨e1, w_⟩⟩ := d_
  subst w_
  have g := rxcRY_21_1 hP hin I0 hinv l8 u8 l9 u9 l10 u10 l11 u11 l12 u12 l13 u13 f0 e1 e0
  refine ⟨bx_narP_ok (l := []) g.1, bx_nfP_ok h0_ (fvs := []) (by decide +kernel) g.2.1, ?_, ?_⟩
  · show rxIRY_24 S0 ws S_p (bx_val [(0, 0), (0, 0), (0, 0), (0, 0), (0, 0), (0, 0), (0, 0), (0, 0), (8, 0), (9, 0), (8, 4), (13, 0)] r_p 8) (bx_val [(0, 0), (0, 0), (0, 0), (0, 0), (0, 0), (0, 0), (0, 0), (0, 0), (8, 0), (9, 0), (8, 4), (13, 0)] r_p 9) (bx_val [(0, 0), (0, 0), (0, 0), (0, 0), (0, 0), (0, 0), (0, 0), (0, 0), (8, 0), (9, 0), (8, 4), (13, 0)] r_p 10) (bx_val [(0, 0), (0, 0), (0, 0), (0, 0), (0, 0), (0, 0), (0, 0), (0, 0), (8, 0), (9, 0), (8, 4), (13, 0)] r_p 11)
    rw [bx_val_x (n := 8) (e := (8, 0)) h0_ rfl, bx_val_x (n := 9) (e := (9, 0)) h0_ rfl, bx_val_x (n := 10) (e := (8, 4)) h0_ rfl, bx_val_x (n := 11) (e := (13, 0)) h0_ rfl]
    exact g.2.2.1
  · show rxmRY_24 S0 ws S_p (bx_val [(0, 0), (0, 0), (0, 0), (0, 0), (0, 0), (0, 0), (0, 0), (0, 0), (8, 0), (9, 0), (8, 4), (13, 0)] r_p 8) (bx_val [(0, 0), (0, 0), (0, 0), (0, 0), (0, 0), (0, 0), (0, 0), (0, 0), (8, 0), (9, 0), (8, 4), (13, 0)] r_p 9) (bx_val [(0, 0), (0, 0), (0, 0), (0, 0), (0, 0), (0, 0), (0, 0), (0, 0), (8, 0), (9, 0), (8, 4), (13, 0)] r_p 10) (bx_val [(0, 0), (0, 0), (0, 0), (0, 0), (0, 0), (0, 0), (0, 0), (0, 0), (8, 0), (9, 0), (8, 4), (13, 0)] r_p 11) < rxmRY_21 S0 ws S_p (r 8) (r 9) (r 10) (r 11)
    rw [bx_val_x (n := 8) (e := (8, 0)) h0_ rfl, bx_val_x (n := 9) (e := (9, 0)) h0_ rfl, bx_val_x (n := 10) (e := (8, 4)) h0_ rfl, bx_val_x (n := 11) (e := (13, 0)) h0_ rfl, ← hr_ 8 (by decide), ← hr_ 9 (by decide), ← hr_ 10 (by decide), ← hr_ 11 (by decide)]
    exact g.2.2.2
theorem rxcRY_21_2 {S0 : Nat → Int → Int} {ws : List Int} {S : Nat → Int → Int} {base dd a v x12 x13 : Int} (hP : rxPRY S0 ws) (hin : bx_same rxL (bx_mdl rxCRY.2.2.1) S0 S) (I0 : bx_Inv rxL S) (hinv : rxIRY_21 S0 ws S base dd a v) (l8 : 0 ≤ base) (u8 : base ≤ 110) (l9 : 0 ≤ dd) (u9 : dd ≤ 1) (l10 : 3 ≤ a) (u10 : a ≤ 113) (l11 : 0 ≤ v) (u11 : v ≤ 400) (l12 : 1 ≤ x12) (u12 : x12 ≤ 1) (l13 : 0 ≤ x13) (u13 : x13 ≤ 400) (f0 : x12 ≠ 0) (e1 : S 480 14 = x12) (e0 : S 480 18 = x13) : (True) ∧ (True) ∧ rxIRY_24 S0 ws S base dd (base + 4) x13 ∧ rxmRY_24 S0 ws S base dd (base + 4) x13 < rxmRY_21 S0 ws S base dd a v := by
  exact ⟨trivial, trivial, ⟨by omega, by omega, hinv.1⟩, by unfold rxmRY_21 rxmRY_24; omega⟩
theorem rxgRY_21_2 {X : (Nat → Int → Int) → Prop} {S0 : Nat → Int → Int} {ws : List Int} (hP : rxPRY S0 ws) : bx_obC rxL X S0 rxCRY.2.2.1 (rxIRY S0 ws) (rxmRY S0 ws) 21 rxzRY_21 rxoRY_21_2 := by
  intro S S_p r r_p hinv hX hin hsm_ hseg
  obtain ⟨I0, I1, h0_, hr_, b_, f_, d_⟩ := bx_cl (evs := [(0, (0, 480), (0, 18), .inr (0, (13, 0))), (0, (0, 480), (0, 14), .inr (0, (12, 0)))]) (fvs := [(3, (12, 0), (0, 0), (0, 0))]) hseg (by decide +kernel) (by decide +kernel)
  have hinv : rxIRY_21 S0 ws S (r 8) (r 9) (r 10) (r 11) := hinv
  rw [← hr_ 8 (by decide), ← hr_ 9 (by decide), ← hr_ 10 (by decide), ← hr_ 11 (by decide)] at hinv
  obtain ⟨⟨l8, u8⟩, ⟨l9, u9⟩, ⟨l10, u10⟩, ⟨l11, u11⟩, ⟨l12, u12⟩, ⟨l13, u13⟩, -⟩ := b_
  obtain ⟨f0, -⟩ := f_
  obtain ⟨e0, ⟨e1, w_⟩⟩ := d_
  subst w_
  have g := rxcRY_21_2 hP hin I0 hinv l8 u8 l9 u9 l10 u10 l11 u11 l12 u12 l13 u13 f0 e1 e0
  refine ⟨bx_narP_ok (l := []) g.1, bx_nfP_ok h0_ (fvs := []) (by decide +kernel) g.2.1, ?_, ?_⟩
  · show rxIRY_24 S0 ws S_p (bx_val [(0, 0), (0, 0), (0, 0), (0, 0), (0, 0), (0, 0), (0, 0), (0, 0), (8, 0), (9, 0), (8, 4), (13, 0)] r_p 8) (bx_val [(0, 0), (0, 0), (0, 0), (0, 0), (0, 0), (0, 0), (0, 0), (0, 0), (8, 0), (9, 0), (8, 4), (13, 0)] r_p 9) (bx_val [(0, 0), (0, 0), (0, 0), (0, 0), (0, 0), (0, 0), (0, 0), (0, 0), (8, 0), (9, 0), (8, 4), (13, 0)] r_p 10) (bx_val [(0, 0), (0, 0), (0, 0), (0, 0), (0, 0), (0, 0), (0, 0), (0, 0), (8, 0), (9, 0), (8, 4), (13, 0)] r_p 11)
    rw [bx_val_x (n := 8) (e := (8, 0)) h0_ rfl, bx_val_x (n := 9) (e := (9, 0)) h0_ rfl, bx_val_x (n := 10) (e := (8, 4)) h0_ rfl, bx_val_x (n := 11) (e := (13, 0)) h0_ rfl]
    exact g.2.2.1
  · show rxmRY_24 S0 ws S_p (bx_val [(0, 0), (0, 0), (0, 0), (0, 0), (0, 0), (0, 0), (0, 0), (0, 0), (8, 0), (9, 0), (8, 4), (13, 0)] r_p 8) (bx_val [(0, 0), (0, 0), (0, 0), (0, 0), (0, 0), (0, 0), (0, 0), (0, 0), (8, 0), (9, 0), (8, 4), (13, 0)] r_p 9) (bx_val [(0, 0), (0, 0), (0, 0), (0, 0), (0, 0), (0, 0), (0, 0), (0, 0), (8, 0), (9, 0), (8, 4), (13, 0)] r_p 10) (bx_val [(0, 0), (0, 0), (0, 0), (0, 0), (0, 0), (0, 0), (0, 0), (0, 0), (8, 0), (9, 0), (8, 4), (13, 0)] r_p 11) < rxmRY_21 S0 ws S_p (r 8) (r 9) (r 10) (r 11)
    rw [bx_val_x (n := 8) (e := (8, 0)) h0_ rfl, bx_val_x (n := 9) (e := (9, 0)) h0_ rfl, bx_val_x (n := 10) (e := (8, 4)) h0_ rfl, bx_val_x (n := 11) (e := (13, 0)) h0_ rfl, ← hr_ 8 (by decide), ← hr_ 9 (by decide), ← hr_ 10 (by decide), ← hr_ 11 (by decide)]
    exact g.2.2.2
theorem rxcRY_23_0 {S0 : Nat → Int → Int} {ws : List Int} {S : Nat → Int → Int} {base dd x10 : Int} (hP : rxPRY S0 ws) (hin : bx_same rxL (bx_mdl rxCRY.2.2.1) S0 S) (I0 : bx_Inv rxL S) (hinv : rxIRY_23 S0 ws S base dd) (l8 : 0 ≤ base) (u8 : base ≤ 110) (l9 : 0 ≤ dd) (u9 : dd ≤ 1) (l10 : 0 ≤ x10) (u10 : x10 ≤ 400) (e0 : S 480 18 = x10) : (True) ∧ (True) ∧ rxIRY_24 S0 ws S base dd (base + 4) x10 ∧ rxmRY_24 S0 ws S base dd (base + 4) x10 < rxmRY_23 S0 ws S base dd := by
  exact ⟨trivial, trivial, ⟨by omega, by omega, hinv⟩, by unfold rxmRY_23 rxmRY_24; omega⟩
theorem rxgRY_23_0 {X : (Nat → Int → Int) → Prop} {S0 : Nat → Int → Int} {ws : List Int} (hP : rxPRY S0 ws) : bx_obC rxL X S0 rxCRY.2.2.1 (rxIRY S0 ws) (rxmRY S0 ws) 23 rxzRY_23 rxoRY_23_0 := by
  intro S S_p r r_p hinv hX hin hsm_ hseg
  obtain ⟨I0, I1, h0_, hr_, b_, f_, d_⟩ := bx_cl (evs := [(0, (0, 480), (0, 18), .inr (0, (10, 0)))]) (fvs := []) hseg (by decide +kernel) (by decide +kernel)
  have hinv : rxIRY_23 S0 ws S (r 8) (r 9) := hinv
  rw [← hr_ 8 (by decide), ← hr_ 9 (by decide)] at hinv
  obtain ⟨⟨l8, u8⟩, ⟨l9, u9⟩, ⟨l10, u10⟩, -⟩ := b_
  obtain ⟨e0, w_⟩ := d_
  subst w_
  have g := rxcRY_23_0 hP hin I0 hinv l8 u8 l9 u9 l10 u10 e0
  refine ⟨bx_narP_ok (l := []) g.1, bx_nfP_ok h0_ (fvs := []) (by decide +kernel) g.2.1, ?_, ?_⟩
  · show rxIRY_24 S0 ws S_p (bx_val [(0, 0), (0, 0), (0, 0), (0, 0), (0, 0), (0, 0), (0, 0), (0, 0), (8, 0), (9, 0), (8, 4), (10, 0)] r_p 8) (bx_val [(0, 0), (0, 0), (0, 0), (0, 0), (0, 0), (0, 0), (0, 0), (0, 0), (8, 0), (9, 0), (8, 4), (10, 0)] r_p 9) (bx_val [(0, 0), (0, 0), (0, 0), (0, 0), (0, 0), (0, 0), (0, 0), (0, 0), (8, 0), (9, 0), (8, 4), (10, 0)] r_p 10) (bx_val [(0, 0), (0, 0), (0, 0), (0, 0), (0, 0), (0, 0), (0, 0), (0, 0), (8, 0), (9, 0), (8, 4), (10, 0)] r_p 11)
    rw [bx_val_x (n := 8) (e := (8, 0)) h0_ rfl, bx_val_x (n := 9) (e := (9, 0)) h0_ rfl, bx_val_x (n := 10) (e := (8, 4)) h0_ rfl, bx_val_x (n := 11) (e := (10, 0)) h0_ rfl]
    exact g.2.2.1
  · show rxmRY_24 S0 ws S_p (bx_val [(0, 0), (0, 0), (0, 0), (0, 0), (0, 0), (0, 0), (0, 0), (0, 0), (8, 0), (9, 0), (8, 4), (10, 0)] r_p 8) (bx_val [(0, 0), (0, 0), (0, 0), (0, 0), (0, 0), (0, 0), (0, 0), (0, 0), (8, 0), (9, 0), (8, 4), (10, 0)] r_p 9) (bx_val [(0, 0), (0, 0), (0, 0), (0, 0), (0, 0), (0, 0), (0, 0), (0, 0), (8, 0), (9, 0), (8, 4), (10, 0)] r_p 10) (bx_val [(0, 0), (0, 0), (0, 0), (0, 0), (0, 0), (0, 0), (0, 0), (0, 0), (8, 0), (9, 0), (8, 4), (10, 0)] r_p 11) < rxmRY_23 S0 ws S_p (r 8) (r 9)
    rw [bx_val_x (n := 8) (e := (8, 0)) h0_ rfl, bx_val_x (n := 9) (e := (9, 0)) h0_ rfl, bx_val_x (n := 10) (e := (8, 4)) h0_ rfl, bx_val_x (n := 11) (e := (10, 0)) h0_ rfl, ← hr_ 8 (by decide), ← hr_ 9 (by decide)]
    exact g.2.2.2
theorem rxcRY_25_0 {S0 : Nat → Int → Int} {ws : List Int} {S : Nat → Int → Int} {base dd a v x12 x13 x14 : Int} (hP : rxPRY S0 ws) (hin : bx_same rxL (bx_mdl rxCRY.2.2.1) S0 S) (I0 : bx_Inv rxL S) (hinv : rxIRY_25 S0 ws S base dd a v) (l8 : 0 ≤ base) (u8 : base ≤ 110) (l9 : 0 ≤ dd) (u9 : dd ≤ 0) (l10 : 4 ≤ a) (u10 : a ≤ 114) (l11 : 0 ≤ v) (u11 : v ≤ 400) (l12 : 0 ≤ x12) (u12 : x12 ≤ 0) (l13 : 0 ≤ x13) (u13 : x13 ≤ 3) (l14 : 0 ≤ x14) (u14 : x14 ≤ 400) (f0 : x13 ≠ 1) (e2 : S 480 14 = x12) (e1 : S 480 11 = x13) (e0 : S 480 18 = x14) : (True) ∧ (True) ∧ rxIRY_30 S0 ws S base dd (base + 5) x14 ∧ rxmRY_30 S0 ws S base dd (base + 5) x14 < rxmRY_25 S0 ws S base dd a v := by
  exact ⟨trivial, trivial, ⟨by omega, by omega, hinv.1⟩, by unfold rxmRY_25 rxmRY_30; omega⟩
theorem rxgRY_25_0 {X : (Nat → Int → Int) → Prop} {S0 : Nat → Int → Int} {ws : List Int} (hP : rxPRY S0 ws) : bx_obC rxL X S0 rxCRY.2.2.1 (rxIRY S0 ws) (rxmRY S0 ws) 25 rxzRY_25 rxoRY_25_0 := by
  intro S S_p r r_p hinv hX hin hsm_ hseg
  obtain ⟨I0, I1, h0_, hr_, b_, f_, d_⟩ := bx_cl (evs := [(0, (0, 480), (0, 18), .inr (0, (14, 0))), (0, (0, 480), (0, 11), .inr (0, (13, 0))), (0, (0, 480), (0, 14), .inr (0, (12, 0)))]) (fvs := [(3, (13, 0), (0, 1), (0, 0))]) hseg (by decide +kernel) (by decide +kernel)
  have hinv : rxIRY_25 S0 ws S (r 8) (r 9) (r 10) (r 11) := hinv
  rw [← hr_ 8 (by decide), ← hr_ 9 (by decide), ← hr_ 10 (by decide), ← hr_ 11 (by decide)] at hinv
  obtain ⟨⟨l8, u8⟩, ⟨l9, u9⟩, ⟨l10, u10⟩, ⟨l11, u11⟩, ⟨l12, u12⟩, ⟨l13, u13⟩, ⟨l14, u14⟩, -⟩ := b_
  obtain ⟨f0, -⟩ := f_
  obtain ⟨e0, ⟨e1, ⟨e2, w_⟩⟩⟩ := d_
  subst w_
  have g := rxcRY_25_0 hP hin I0 hinv l8 u8 l9 u9 l10 u10 l11 u11 l12 u12 l13 u13 l14 u14 f0 e2 e1 e0
  refine ⟨bx_narP_ok (l := []) g.1, bx_nfP_ok h0_ (fvs := []) (by decide +kernel) g.2.1, ?_, ?_⟩
  · show rxIRY_30 S0 ws S_p (bx_val [(0, 0), (0, 0), (0, 0), (0, 0), (0, 0), (0, 0), (0, 0), (0, 0), (8, 0), (9, 0), (8, 5), (14, 0)] r_p 8) (bx_val [(0, 0), (0, 0), (0, 0), (0, 0), (0, 0), (0, 0), (0, 0), (0, 0), (8, 0), (9, 0), (8, 5), (14, 0)] r_p 9) (bx_val [(0, 0), (0, 0), (0, 0), (0, 0), (0, 0), (0, 0), (0, 0), (0, 0), (8, 0), (9, 0), (8, 5), (14, 0)] r_p 10) (bx_val [(0, 0), (0, 0), (0, 0), (0, 0), (0, 0), (0, 0), (0, 0), (0, 0), (8, 0), (9, 0), (8, 5), (14, 0)] r_p 11)
    rw [bx_val_x (n := 8) (e := (8, 0)) h0_ rfl, bx_val_x (n := 9) (e := (9, 0)) h0_ rfl, bx_val_x (n := 10) (e := (8, 5)) h0_ rfl, bx_val_x (n := 11) (e := (14, 0)) h0_ rfl]
    exact g.2.2.1
  · show rxmRY_30 S0 ws S_p (bx_val [(0, 0), (0, 0), (0, 0), (0, 0), (0, 0), (0, 0), (0, 0), (0, 0), (8, 0), (9, 0), (8, 5), (14, 0)] r_p 8) (bx_val [(0, 0), (0, 0), (0, 0), (0, 0), (0, 0), (0, 0), (0, 0), (0, 0), (8, 0), (9, 0), (8, 5), (14, 0)] r_p 9) (bx_val [(0, 0), (0, 0), (0, 0), (0, 0), (0, 0), (0, 0), (0, 0), (0, 0), (8, 0), (9, 0), (8, 5), (14, 0)] r_p 10) (bx_val [(0, 0), (0, 0), (0, 0), (0, 0), (0, 0), (0, 0), (0, 0), (0, 0), (8, 0), (9, 0), (8, 5), (14, 0)] r_p 11) < rxmRY_25 S0 ws S_p (r 8) (r 9) (r 10) (r 11)
    rw [bx_val_x (n := 8) (e := (8, 0)) h0_ rfl, bx_val_x (n := 9) (e := (9, 0)) h0_ rfl, bx_val_x (n := 10) (e := (8, 5)) h0_ rfl, bx_val_x (n := 11) (e := (14, 0)) h0_ rfl, ← hr_ 8 (by decide), ← hr_ 9 (by decide), ← hr_ 10 (by decide), ← hr_ 11 (by decide)]
    exact g.2.2.2
theorem rxcRY_25_1 {S0 : Nat → Int → Int} {ws : List Int} {S : Nat → Int → Int} {base dd a v x12 x13 x14 x15 : Int} (hP : rxPRY S0 ws) (hin : bx_same rxL (bx_mdl rxCRY.2.2.1) S0 S) (I0 : bx_Inv rxL S) (hinv : rxIRY_25 S0 ws S base dd a v) (l8 : 0 ≤ base) (u8 : base ≤ 110) (l9 : 0 ≤ dd) (u9 : dd ≤ 0) (l10 : 4 ≤ a) (u10 : a ≤ 114) (l11 : 0 ≤ v) (u11 : v ≤ 400) (l12 : 0 ≤ x12) (u12 : x12 ≤ 0) (l13 : 1 ≤ x13) (u13 : x13 ≤ 1) (l14 : (-9223372036854775808) ≤ x14) (u14 : x14 ≤ 9223372036854775807) (l15 : 0 ≤ x15) (u15 : x15 ≤ 400) (f0 : x14 ≠ 239) (e3 : S 480 14 = x12) (e2 : S 480 11 = x13) (e1 : S 480 12 = x14) (e0 : S 480 18 = x15) : (True) ∧ (True) ∧ rxIRY_30 S0 ws S base dd (base + 5) x15 ∧ rxmRY_30 S0 ws S base dd (base + 5) x15 < rxmRY_25 S0 ws S base dd a v := by
  exact ⟨trivial, trivial, ⟨by omega, by omega, hinv.1⟩, by unfold rxmRY_25 rxmRY_30; omega⟩
theorem rxgRY_25_1 {X : (Nat → Int → Int) → Prop} {S0 : Nat → Int → Int} {ws : List Int} (hP : rxPRY S0 ws) : bx_obC rxL X S0 rxCRY.2.2.1 (rxIRY S0 ws) (rxmRY S0 ws) 25 rxzRY_25 rxoRY_25_1 := by
  intro S S_p r r_p hinv hX hin hsm_ hseg
  obtain ⟨I0, I1, h0_, hr_, b_, f_, d_⟩ := bx_cl (evs := [(0, (0, 480), (0, 18), .inr (0, (15, 0))), (0, (0, 480), (0, 12), .inr (1, (14, 0))), (0, (0, 480), (0, 11), .inr (0, (13, 0))), (0, (0, 480), (0, 14), .inr (0, (12, 0)))]) (fvs := [(3, (14, 0), (0, 239), (0, 0))]) hseg (by decide +kernel) (by decide +kernel)
  have hinv : rxIRY_25 S0 ws S (r 8) (r 9) (r 10) (r 11) := hinv
  rw [← hr_ 8 (by decide), ← hr_ 9 (by decide), ← hr_ 10 (by decide), ← hr_ 11 (by decide)] at hinv
  obtain ⟨⟨l8, u8⟩, ⟨l9, u9⟩, ⟨l10, u10⟩, ⟨l11, u11⟩, ⟨l12, u12⟩, ⟨l13, u13⟩, ⟨l14, u14⟩, ⟨l15, u15⟩, -⟩ := b_
  obtain ⟨f0, -⟩ := f_
  obtain ⟨e0, ⟨e1, ⟨e2, ⟨e3, w_⟩⟩⟩⟩ := d_
  subst w_
  have g := rxcRY_25_1 hP hin I0 hinv l8 u8 l9 u9 l10 u10 l11 u11 l12 u12 l13 u13 l14 u14 l15 u15 f0 e3 e2 e1 e0
  refine ⟨bx_narP_ok (l := []) g.1, bx_nfP_ok h0_ (fvs := []) (by decide +kernel) g.2.1, ?_, ?_⟩
  · show rxIRY_30 S0 ws S_p (bx_val [(0, 0), (0, 0), (0, 0), (0, 0), (0, 0), (0, 0), (0, 0), (0, 0), (8, 0), (9, 0), (8, 5), (15, 0)] r_p 8) (bx_val [(0, 0), (0, 0), (0, 0), (0, 0), (0, 0), (0, 0), (0, 0), (0, 0), (8, 0), (9, 0), (8, 5), (15, 0)] r_p 9) (bx_val [(0, 0), (0, 0), (0, 0), (0, 0), (0, 0), (0, 0), (0, 0), (0, 0), (8, 0), (9, 0), (8, 5), (15, 0)] r_p 10) (bx_val [(0, 0), (0, 0), (0, 0), (0, 0), (0, 0), (0, 0), (0, 0), (0, 0), (8, 0), (9, 0), (8, 5), (15, 0)] r_p 11)
    rw [bx_val_x (n := 8) (e := (8, 0)) h0_ rfl, bx_val_x (n := 9) (e := (9, 0)) h0_ rfl, bx_val_x (n := 10) (e := (8, 5)) h0_ rfl, bx_val_x (n := 11) (e := (15, 0)) h0_ rfl]
    exact g.2.2.1
  · show rxmRY_30 S0 ws S_p (bx_val [(0, 0), (0, 0), (0, 0), (0, 0), (0, 0), (0, 0), (0, 0), (0, 0), (8, 0), (9, 0), (8, 5), (15, 0)] r_p 8) (bx_val [(0, 0), (0, 0), (0, 0), (0, 0), (0, 0), (0, 0), (0, 0), (0, 0), (8, 0), (9, 0), (8, 5), (15, 0)] r_p 9) (bx_val [(0, 0), (0, 0), (0, 0), (0, 0), (0, 0), (0, 0), (0, 0), (0, 0), (8, 0), (9, 0), (8, 5), (15, 0)] r_p 10) (bx_val [(0, 0), (0, 0), (0, 0), (0, 0), (0, 0), (0, 0), (0, 0), (0, 0), (8, 0), (9, 0), (8, 5), (15, 0)] r_p 11) < rxmRY_25 S0 ws S_p (r 8) (r 9) (r 10) (r 11)
    rw [bx_val_x (n := 8) (e := (8, 0)) h0_ rfl, bx_val_x (n := 9) (e := (9, 0)) h0_ rfl, bx_val_x (n := 10) (e := (8, 5)) h0_ rfl, bx_val_x (n := 11) (e := (15, 0)) h0_ rfl, ← hr_ 8 (by decide), ← hr_ 9 (by decide), ← hr_ 10 (by decide), ← hr_ 11 (by decide)]
    exact g.2.2.2
theorem rxcRY_25_2 {S0 : Nat → Int → Int} {ws : List Int} {S : Nat → Int → Int} {base dd a v x12 x13 x14 : Int} (hP : rxPRY S0 ws) (hin : bx_same rxL (bx_mdl rxCRY.2.2.1) S0 S) (I0 : bx_Inv rxL S) (hinv : rxIRY_25 S0 ws S base dd a v) (l8 : 0 ≤ base) (u8 : base ≤ 110) (l9 : 0 ≤ dd) (u9 : dd ≤ 0) (l10 : 4 ≤ a) (u10 : a ≤ 114) (l11 : 0 ≤ v) (u11 : v ≤ 400) (l12 : 0 ≤ x12) (u12 : x12 ≤ 0) (l13 : 1 ≤ x13) (u13 : x13 ≤ 1) (l14 : 239 ≤ x14) (u14 : x14 ≤ 239) (e2 : S 480 14 = x12) (e1 : S 480 11 = x13) (e0 : S 480 12 = x14) : (True) ∧ (True) ∧ rxIRY_26 S0 ws S base dd ∧ rxmRY_26 S0 ws S base dd < rxmRY_25 S0 ws S base dd a v := by
  exact ⟨trivial, trivial, ⟨by omega, hinv⟩, by unfold rxmRY_25 rxmRY_26; omega⟩
theorem rxgRY_25_2 {X : (Nat → Int → Int) → Prop} {S0 : Nat → Int → Int} {ws : List Int} (hP : rxPRY S0 ws) : bx_obC rxL X S0 rxCRY.2.2.1 (rxIRY S0 ws) (rxmRY S0 ws) 25 rxzRY_25 rxoRY_25_2 := by
  intro S S_p r r_p hinv hX hin hsm_ hseg
  obtain ⟨I0, I1, h0_, hr_, b_, f_, d_⟩ := bx_cl (evs := [(0, (0, 480), (0, 12), .inr (1, (14, 0))), (0, (0, 480), (0, 11), .inr (0, (13, 0))), (0, (0, 480), (0, 14), .inr (0, (12, 0)))]) (fvs := []) hseg (by decide +kernel) (by decide +kernel)
  have hinv : rxIRY_25 S0 ws S (r 8) (r 9) (r 10) (r 11) := hinv
  rw [← hr_ 8 (by decide), ← hr_ 9 (by decide), ← hr_ 10 (by decide), ← hr_ 11 (by decide)] at hinv
  obtain ⟨⟨l8, u8⟩, ⟨l9, u9⟩, ⟨l10, u10⟩, ⟨l11, u11⟩, ⟨l12, u12⟩, ⟨l13, u13⟩, ⟨l14, u14⟩, -⟩ := b_
  obtain ⟨e0, ⟨e1, ⟨e2, w_⟩⟩⟩ := d_
  subst w_
  have g := rxcRY_25_2 hP hin I0 hinv l8 u8 l9 u9 l10 u10 l11 u11 l12 u12 l13 u13 l14 u14 e2 e1 e0
  refine ⟨bx_narP_ok (l := []) g.1, bx_nfP_ok h0_ (fvs := []) (by decide +kernel) g.2.1, ?_, ?_⟩
  · show rxIRY_26 S0 ws S_p (bx_val [(0, 0), (0, 0), (0, 0), (0, 0), (0, 0), (0, 0), (0, 0), (0, 0), (8, 0), (9, 0)] r_p 8) (bx_val [(0, 0), (0, 0), (0, 0), (0, 0), (0, 0), (0, 0), (0, 0), (0, 0), (8, 0), (9, 0)] r_p 9)
    rw [bx_val_x (n := 8) (e := (8, 0)) h0_ rfl, bx_val_x (n := 9) (e := (9, 0)) h0_ rfl]
    exact g.2.2.1
  · show rxmRY_26 S0 ws S_p (bx_val [(0, 0), (0, 0), (0, 0), (0, 0), (0, 0), (0, 0), (0, 0), (0, 0), (8, 0), (9, 0)] r_p 8) (bx_val [(0, 0), (0, 0), (0, 0), (0, 0), (0, 0), (0, 0), (0, 0), (0, 0), (8, 0), (9, 0)] r_p 9) < rxmRY_25 S0 ws S_p (r 8) (r 9) (r 10) (r 11)
    rw [bx_val_x (n := 8) (e := (8, 0)) h0_ rfl, bx_val_x (n := 9) (e := (9, 0)) h0_ rfl, ← hr_ 8 (by decide), ← hr_ 9 (by decide), ← hr_ 10 (by decide), ← hr_ 11 (by decide)]
    exact g.2.2.2
theorem rxcRY_25_3 {S0 : Nat → Int → Int} {ws : List Int} {S : Nat → Int → Int} {base dd a v x12 x13 : Int} (hP : rxPRY S0 ws) (hin : bx_same rxL (bx_mdl rxCRY.2.2.1) S0 S) (I0 : bx_Inv rxL S) (hinv : rxIRY_25 S0 ws S base dd a v) (l8 : 0 ≤ base) (u8 : base ≤ 110) (l9 : 1 ≤ dd) (u9 : dd ≤ 1) (l10 : 4 ≤ a) (u10 : a ≤ 114) (l11 : 0 ≤ v) (u11 : v ≤ 400) (l12 : 0 ≤ x12) (u12 : x12 ≤ 0) (l13 : 0 ≤ x13) (u13 : x13 ≤ 400) (f0 : dd ≠ 0) (e1 : S 480 14 = x12) (e0 : S 480 18 = x13) : (True) ∧ (True) ∧ rxIRY_30 S0 ws S base dd (base + 5) x13 ∧ rxmRY_30 S0 ws S base dd (base + 5) x13 < rxmRY_25 S0 ws S base dd a v := by
  exact ⟨trivial, trivial, ⟨by omega, by omega, hinv.1⟩, by unfold rxmRY_25 rxmRY_30; omega⟩
theorem rxgRY_25_3 {X : (Nat → Int → Int) → Prop} {S0 : Nat → Int → Int} {ws : List Int} (hP : rxPRY S0 ws) : bx_obC rxL X S0 rxCRY.2.2.1 (rxIRY S0 ws) (rxmRY S0 ws) 25 rxzRY_25 rxoRY_25_3 := by
  intro S S_p r r_p hinv hX hin hsm_ hseg
  obtain ⟨I0, I1, h0_, hr_, b_, f_, d_⟩ := bx_cl (evs := [(0, (0, 480), (0, 18), .inr (0, (13, 0))), (0, (0, 480), (0, 14), .inr (0, (12, 0)))]) (fvs := [(3, (9, 0), (0, 0), (0, 0))]) hseg (by decide +kernel) (by decide +kernel)
  have hinv : rxIRY_25 S0 ws S (r 8) (r 9) (r 10) (r 11) := hinv
  rw [← hr_ 8 (by decide), ← hr_ 9 (by decide), ← hr_ 10 (by decide), ← hr_ 11 (by decide)] at hinv
  obtain ⟨⟨l8, u8⟩, ⟨l9, u9⟩, ⟨l10, u10⟩, ⟨l11, u11⟩, ⟨l12, u12⟩, ⟨l13, u13⟩, -⟩ := b_
  obtain ⟨f0, -⟩ := f_
  obtain ⟨e0, ⟨e1, w_⟩⟩ := d_
  subst w_
  have g := rxcRY_25_3 hP hin I0 hinv l8 u8 l9 u9 l10 u10 l11 u11 l12 u12 l13 u13 f0 e1 e0
  refine ⟨bx_narP_ok (l := []) g.1, bx_nfP_ok h0_ (fvs := []) (by decide +kernel) g.2.1, ?_, ?_⟩
  · show rxIRY_30 S0 ws S_p (bx_val [(0, 0), (0, 0), (0, 0), (0, 0), (0, 0), (0, 0), (0, 0), (0, 0), (8, 0), (9, 0), (8, 5), (13, 0)] r_p 8) (bx_val [(0, 0), (0, 0), (0, 0), (0, 0), (0, 0), (0, 0), (0, 0), (0, 0), (8, 0), (9, 0), (8, 5), (13, 0)] r_p 9) (bx_val [(0, 0), (0, 0), (0, 0), (0, 0), (0, 0), (0, 0), (0, 0), (0, 0), (8, 0), (9, 0), (8, 5), (13, 0)] r_p 10) (bx_val [(0, 0), (0, 0), (0, 0), (0, 0), (0, 0), (0, 0), (0, 0), (0, 0), (8, 0), (9, 0), (8, 5), (13, 0)] r_p 11)
    rw [bx_val_x (n := 8) (e := (8, 0)) h0_ rfl, bx_val_x (n := 9) (e := (9, 0)) h0_ rfl, bx_val_x (n := 10) (e := (8, 5)) h0_ rfl, bx_val_x (n := 11) (e := (13, 0)) h0_ rfl]
    exact g.2.2.1
  · show rxmRY_30 S0 ws S_p (bx_val [(0, 0), (0, 0), (0, 0), (0, 0), (0, 0), (0, 0), (0, 0), (0, 0), (8, 0), (9, 0), (8, 5), (13, 0)] r_p 8) (bx_val [(0, 0), (0, 0), (0, 0), (0, 0), (0, 0), (0, 0), (0, 0), (0, 0), (8, 0), (9, 0), (8, 5), (13, 0)] r_p 9) (bx_val [(0, 0), (0, 0), (0, 0), (0, 0), (0, 0), (0, 0), (0, 0), (0, 0), (8, 0), (9, 0), (8, 5), (13, 0)] r_p 10) (bx_val [(0, 0), (0, 0), (0, 0), (0, 0), (0, 0), (0, 0), (0, 0), (0, 0), (8, 0), (9, 0), (8, 5), (13, 0)] r_p 11) < rxmRY_25 S0 ws S_p (r 8) (r 9) (r 10) (r 11)
    rw [bx_val_x (n := 8) (e := (8, 0)) h0_ rfl, bx_val_x (n := 9) (e := (9, 0)) h0_ rfl, bx_val_x (n := 10) (e := (8, 5)) h0_ rfl, bx_val_x (n := 11) (e := (13, 0)) h0_ rfl, ← hr_ 8 (by decide), ← hr_ 9 (by decide), ← hr_ 10 (by decide), ← hr_ 11 (by decide)]
    exact g.2.2.2
theorem rxcRY_25_4 {S0 : Nat → Int → Int} {ws : List Int} {S : Nat → Int → Int} {base dd a v x12 x13 : Int} (hP : rxPRY S0 ws) (hin : bx_same rxL (bx_mdl rxCRY.2.2.1) S0 S) (I0 : bx_Inv rxL S) (hinv : rxIRY_25 S0 ws S base dd a v) (l8 : 0 ≤ base) (u8 : base ≤ 110) (l9 : 0 ≤ dd) (u9 : dd ≤ 1) (l10 : 4 ≤ a) (u10 : a ≤ 114) (l11 : 0 ≤ v) (u11 : v ≤ 400) (l12 : 1 ≤ x12) (u12 : x12 ≤ 1) (l13 : 0 ≤ x13) (u13 : x13 ≤ 400) (f0 : x12 ≠ 0) (e1 : S 480 14 = x12) (e0 : S 480 18 = x13) : (True) ∧ (True) ∧ rxIRY_30 S0 ws S base dd (base + 5) x13 ∧ rxmRY_30 S0 ws S base dd (base + 5) x13 < rxmRY_25 S0 ws S base dd a v := by
  exact ⟨trivial, trivial, ⟨by omega, by omega, hinv.1⟩, by unfold rxmRY_25 rxmRY_30; omega⟩
theorem rxgRY_25_4 {X : (Nat → Int → Int) → Prop} {S0 : Nat → Int → Int} {ws : List Int} (hP : rxPRY S0 ws) : bx_obC rxL X S0 rxCRY.2.2.1 (rxIRY S0 ws) (rxmRY S0 ws) 25 rxzRY_25 rxoRY_25_4 := by
  intro S S_p r r_p hinv hX hin hsm_ hseg
  obtain ⟨I0, I1, h0_, hr_, b_, f_, d_⟩ := bx_cl (evs := [(0, (0, 480), (0, 18), .inr (0, (13, 0))), (0, (0, 480), (0, 14), .inr (0, (12, 0)))]) (fvs := [(3, (12, 0), (0, 0), (0, 0))]) hseg (by decide +kernel) (by decide +kernel)
  have hinv : rxIRY_25 S0 ws S (r 8) (r 9) (r 10) (r 11) := hinv
  rw [← hr_ 8 (by decide), ← hr_ 9 (by decide), ← hr_ 10 (by decide), ← hr_ 11 (by decide)] at hinv
  obtain ⟨⟨l8, u8⟩, ⟨l9, u9⟩, ⟨l10, u10⟩, ⟨l11, u11⟩, ⟨l12, u12⟩, ⟨l13, u13⟩, -⟩ := b_
  obtain ⟨f0, -⟩ := f_
  obtain ⟨e0, ⟨e1, w_⟩⟩ := d_
  subst w_
  have g := rxcRY_25_4 hP hin I0 hinv l8 u8 l9 u9 l10 u10 l11 u11 l12 u12 l13 u13 f0 e1 e0
  refine ⟨bx_narP_ok (l := []) g.1, bx_nfP_ok h0_ (fvs := []) (by decide +kernel) g.2.1, ?_, ?_⟩
  · show rxIRY_30 S0 ws S_p (bx_val [(0, 0), (0, 0), (0, 0), (0, 0), (0, 0), (0, 0), (0, 0), (0, 0), (8, 0), (9, 0), (8, 5), (13, 0)] r_p 8) (bx_val [(0, 0), (0, 0), (0, 0), (0, 0), (0, 0), (0, 0), (0, 0), (0, 0), (8, 0), (9, 0), (8, 5), (13, 0)] r_p 9) (bx_val [(0, 0), (0, 0), (0, 0), (0, 0), (0, 0), (0, 0), (0, 0), (0, 0), (8, 0), (9, 0), (8, 5), (13, 0)] r_p 10) (bx_val [(0, 0), (0, 0), (0, 0), (0, 0), (0, 0), (0, 0), (0, 0), (0, 0), (8, 0), (9, 0), (8, 5), (13, 0)] r_p 11)
    rw [bx_val_x (n := 8) (e := (8, 0)) h0_ rfl, bx_val_x (n := 9) (e := (9, 0)) h0_ rfl, bx_val_x (n := 10) (e := (8, 5)) h0_ rfl, bx_val_x (n := 11) (e := (13, 0)) h0_ rfl]
    exact g.2.2.1
  · show rxmRY_30 S0 ws S_p (bx_val [(0, 0), (0, 0), (0, 0), (0, 0), (0, 0), (0, 0), (0, 0), (0, 0), (8, 0), (9, 0), (8, 5), (13, 0)] r_p 8) (bx_val [(0, 0), (0, 0), (0, 0), (0, 0), (0, 0), (0, 0), (0, 0), (0, 0), (8, 0), (9, 0), (8, 5), (13, 0)] r_p 9) (bx_val [(0, 0), (0, 0), (0, 0), (0, 0), (0, 0), (0, 0), (0, 0), (0, 0), (8, 0), (9, 0), (8, 5), (13, 0)] r_p 10) (bx_val [(0, 0), (0, 0), (0, 0), (0, 0), (0, 0), (0, 0), (0, 0), (0, 0), (8, 0), (9, 0), (8, 5), (13, 0)] r_p 11) < rxmRY_25 S0 ws S_p (r 8) (r 9) (r 10) (r 11)
    rw [bx_val_x (n := 8) (e := (8, 0)) h0_ rfl, bx_val_x (n := 9) (e := (9, 0)) h0_ rfl, bx_val_x (n := 10) (e := (8, 5)) h0_ rfl, bx_val_x (n := 11) (e := (13, 0)) h0_ rfl, ← hr_ 8 (by decide), ← hr_ 9 (by decide), ← hr_ 10 (by decide), ← hr_ 11 (by decide)]
    exact g.2.2.2
theorem rxcRY_27_0 {S0 : Nat → Int → Int} {ws : List Int} {S : Nat → Int → Int} {base dd : Int} (hP : rxPRY S0 ws) (hin : bx_same rxL (bx_mdl rxCRY.2.2.1) S0 S) (I0 : bx_Inv rxL S) (hinv : rxIRY_27 S0 ws S base dd) (l8 : 0 ≤ base) (u8 : base ≤ 110) (l9 : 0 ≤ dd) (u9 : dd ≤ 1) : (True) ∧ (True) ∧ rxIRY_28 S0 ws S base dd ∧ rxmRY_28 S0 ws S base dd < rxmRY_27 S0 ws S base dd := by
  exact ⟨trivial, trivial, hinv, by unfold rxmRY_27 rxmRY_28; omega⟩
theorem rxgRY_27_0 {X : (Nat → Int → Int) → Prop} {S0 : Nat → Int → Int} {ws : List Int} (hP : rxPRY S0 ws) : bx_obC rxL X S0 rxCRY.2.2.1 (rxIRY S0 ws) (rxmRY S0 ws) 27 rxzRY_27 rxoRY_27_0 := by
  intro S S_p r r_p hinv hX hin hsm_ hseg
  obtain ⟨I0, I1, h0_, hr_, b_, f_, d_⟩ := bx_cl (evs := []) (fvs := []) hseg (by decide +kernel) (by decide +kernel)
  have hinv : rxIRY_27 S0 ws S (r 8) (r 9) := hinv
  rw [← hr_ 8 (by decide), ← hr_ 9 (by decide)] at hinv
  obtain ⟨⟨l8, u8⟩, ⟨l9, u9⟩, -⟩ := b_
  have w_ := d_
  subst w_
  have g := rxcRY_27_0 hP hin I0 hinv l8 u8 l9 u9
  refine ⟨bx_narP_ok (l := []) g.1, bx_nfP_ok h0_ (fvs := []) (by decide +kernel) g.2.1, ?_, ?_⟩
  · show rxIRY_28 S0 ws S_p (bx_val [(0, 0), (0, 0), (0, 0), (0, 0), (0, 0), (0, 0), (0, 0), (0, 0), (8, 0), (9, 0)] r_p 8) (bx_val [(0, 0), (0, 0), (0, 0), (0, 0), (0, 0), (0, 0), (0, 0), (0, 0), (8, 0), (9, 0)] r_p 9)
    rw [bx_val_x (n := 8) (e := (8, 0)) h0_ rfl, bx_val_x (n := 9) (e := (9, 0)) h0_ rfl]
    exact g.2.2.1
  · show rxmRY_28 S0 ws S_p (bx_val [(0, 0), (0, 0), (0, 0), (0, 0), (0, 0), (0, 0), (0, 0), (0, 0), (8, 0), (9, 0)] r_p 8) (bx_val [(0, 0), (0, 0), (0, 0), (0, 0), (0, 0), (0, 0), (0, 0), (0, 0), (8, 0), (9, 0)] r_p 9) < rxmRY_27 S0 ws S_p (r 8) (r 9)
    rw [bx_val_x (n := 8) (e := (8, 0)) h0_ rfl, bx_val_x (n := 9) (e := (9, 0)) h0_ rfl, ← hr_ 8 (by decide), ← hr_ 9 (by decide)]
    exact g.2.2.2
theorem rxcRY_29_0 {S0 : Nat → Int → Int} {ws : List Int} {S : Nat → Int → Int} {base dd x10 : Int} (hP : rxPRY S0 ws) (hin : bx_same rxL (bx_mdl rxCRY.2.2.1) S0 S) (I0 : bx_Inv rxL S) (hinv : rxIRY_29 S0 ws S base dd) (l8 : 0 ≤ base) (u8 : base ≤ 110) (l9 : 0 ≤ dd) (u9 : dd ≤ 1) (l10 : 0 ≤ x10) (u10 : x10 ≤ 400) (e0 : S 480 18 = x10) : (True) ∧ (True) ∧ rxIRY_30 S0 ws S base dd (base + 5) x10 ∧ rxmRY_30 S0 ws S base dd (base + 5) x10 < rxmRY_29 S0 ws S base dd := by
  exact ⟨trivial, trivial, ⟨by omega, by omega, hinv⟩, by unfold rxmRY_29 rxmRY_30; omega⟩
theorem rxgRY_29_0 {X : (Nat → Int → Int) → Prop} {S0 : Nat → Int → Int} {ws : List Int} (hP : rxPRY S0 ws) : bx_obC rxL X S0 rxCRY.2.2.1 (rxIRY S0 ws) (rxmRY S0 ws) 29 rxzRY_29 rxoRY_29_0 := by
  intro S S_p r r_p hinv hX hin hsm_ hseg
  obtain ⟨I0, I1, h0_, hr_, b_, f_, d_⟩ := bx_cl (evs := [(0, (0, 480), (0, 18), .inr (0, (10, 0)))]) (fvs := []) hseg (by decide +kernel) (by decide +kernel)
  have hinv : rxIRY_29 S0 ws S (r 8) (r 9) := hinv
  rw [← hr_ 8 (by decide), ← hr_ 9 (by decide)] at hinv
  obtain ⟨⟨l8, u8⟩, ⟨l9, u9⟩, ⟨l10, u10⟩, -⟩ := b_
  obtain ⟨e0, w_⟩ := d_
  subst w_
  have g := rxcRY_29_0 hP hin I0 hinv l8 u8 l9 u9 l10 u10 e0
  refine ⟨bx_narP_ok (l := []) g.1, bx_nfP_ok h0_ (fvs := []) (by decide +kernel) g.2.1, ?_, ?_⟩
  · show rxIRY_30 S0 ws S_p (bx_val [(0, 0), (0, 0), (0, 0), (0, 0), (0, 0), (0, 0), (0, 0), (0, 0), (8, 0), (9, 0), (8, 5), (10, 0)] r_p 8) (bx_val [(0, 0), (0, 0), (0, 0), (0, 0), (0, 0), (0, 0), (0, 0), (0, 0), (8, 0), (9, 0), (8, 5), (10, 0)] r_p 9) (bx_val [(0, 0), (0, 0), (0, 0), (0, 0), (0, 0), (0, 0), (0, 0), (0, 0), (8, 0), (9, 0), (8, 5), (10, 0)] r_p 10) (bx_val [(0, 0), (0, 0), (0, 0), (0, 0), (0, 0), (0, 0), (0, 0), (0, 0), (8, 0), (9, 0), (8, 5), (10, 0)] r_p 11)
    rw [bx_val_x (n := 8) (e := (8, 0)) h0_ rfl, bx_val_x (n := 9) (e := (9, 0)) h0_ rfl, bx_val_x (n := 10) (e := (8, 5)) h0_ rfl, bx_val_x (n := 11) (e := (10, 0)) h0_ rfl]
    exact g.2.2.1
  · show rxmRY_30 S0 ws S_p (bx_val [(0, 0), (0, 0), (0, 0), (0, 0), (0, 0), (0, 0), (0, 0), (0, 0), (8, 0), (9, 0), (8, 5), (10, 0)] r_p 8) (bx_val [(0, 0), (0, 0), (0, 0), (0, 0), (0, 0), (0, 0), (0, 0), (0, 0), (8, 0), (9, 0), (8, 5), (10, 0)] r_p 9) (bx_val [(0, 0), (0, 0), (0, 0), (0, 0), (0, 0), (0, 0), (0, 0), (0, 0), (8, 0), (9, 0), (8, 5), (10, 0)] r_p 10) (bx_val [(0, 0), (0, 0), (0, 0), (0, 0), (0, 0), (0, 0), (0, 0), (0, 0), (8, 0), (9, 0), (8, 5), (10, 0)] r_p 11) < rxmRY_29 S0 ws S_p (r 8) (r 9)
    rw [bx_val_x (n := 8) (e := (8, 0)) h0_ rfl, bx_val_x (n := 9) (e := (9, 0)) h0_ rfl, bx_val_x (n := 10) (e := (8, 5)) h0_ rfl, bx_val_x (n := 11) (e := (10, 0)) h0_ rfl, ← hr_ 8 (by decide), ← hr_ 9 (by decide)]
    exact g.2.2.2
theorem rxcRY_31_0 {S0 : Nat → Int → Int} {ws : List Int} {S : Nat → Int → Int} {base dd a v x12 x13 x14 : Int} (hP : rxPRY S0 ws) (hin : bx_same rxL (bx_mdl rxCRY.2.2.1) S0 S) (I0 : bx_Inv rxL S) (hinv : rxIRY_31 S0 ws S base dd a v) (l8 : 0 ≤ base) (u8 : base ≤ 110) (l9 : 0 ≤ dd) (u9 : dd ≤ 1) (l10 : 5 ≤ a) (u10 : a ≤ 115) (l11 : 0 ≤ v) (u11 : v ≤ 400) (l12 : 0 ≤ x12) (u12 : x12 ≤ 0) (l13 : 0 ≤ x13) (u13 : x13 ≤ 3) (l14 : 0 ≤ x14) (u14 : x14 ≤ 400) (f0 : x13 ≠ 1) (e2 : S 480 14 = x12) (e1 : S 480 11 = x13) (e0 : S 480 18 = x14) : (True) ∧ (True) ∧ rxIRY_36 S0 ws S base dd (base + 6) x14 ∧ rxmRY_36 S0 ws S base dd (base + 6) x14 < rxmRY_31 S0 ws S base dd a v := by
  exact ⟨trivial, trivial, ⟨by omega, by omega, hinv.1⟩, by unfold rxmRY_31 rxmRY_36; omega⟩
theorem rxgRY_31_0 {X : (Nat → Int → Int) → Prop} {S0 : Nat → Int → Int} {ws : List Int} (hP : rxPRY S0 ws) : bx_obC rxL X S0 rxCRY.2.2.1 (rxIRY S0 ws) (rxmRY S0 ws) 31 rxzRY_31 rxoRY_31_0 := by
  intro S S_p r r_p hinv hX hin hsm_ hseg
  obtain ⟨I0, I1, h0_, hr_, b_, f_, d_⟩ := bx_cl (evs := [(0, (0, 480), (0, 18), .inr (0, (14, 0))), (0, (0, 480), (0, 11), .inr (0, (13, 0))), (0, (0, 480), (0, 14), .inr (0, (12, 0)))]) (fvs := [(3, (13, 0), (0, 1), (0, 0))]) hseg (by decide +kernel) (by decide +kernel)
  have hinv : rxIRY_31 S0 ws S (r 8) (r 9) (r 10) (r 11) := hinv
  rw [← hr_ 8 (by decide), ← hr_ 9 (by decide), ← hr_ 10 (by decide), ← hr_ 11 (by decide)] at hinv
  obtain ⟨⟨l8, u8⟩, ⟨l9, u9⟩, ⟨l10, u10⟩, ⟨l11, u11⟩, ⟨l12, u12⟩, ⟨l13, u13⟩, ⟨l14, u14⟩, -⟩ := b_
  obtain ⟨f0, -⟩ := f_
  obtain ⟨e0, ⟨e1, ⟨e2, w_⟩⟩⟩ := d_
  subst w_
  have g := rxcRY_31_0 hP hin I0 hinv l8 u8 l9 u9 l10 u10 l11 u11 l12 u12 l13 u13 l14 u14 f0 e2 e1 e0
  refine ⟨bx_narP_ok (l := []) g.1, bx_nfP_ok h0_ (fvs := []) (by decide +kernel) g.2.1, ?_, ?_⟩
  · show rxIRY_36 S0 ws S_p (bx_val [(0, 0), (0, 0), (0, 0), (0, 0), (0, 0), (0, 0), (0, 0), (0, 0), (8, 0), (9, 0), (8, 6), (14, 0)] r_p 8) (bx_val [(0, 0), (0, 0), (0, 0), (0, 0), (0, 0), (0, 0), (0, 0), (0, 0), (8, 0), (9, 0), (8, 6), (14, 0)] r_p 9) (bx_val [(0, 0), (0, 0), (0, 0), (0, 0), (0, 0), (0, 0), (0, 0), (0, 0), (8, 0), (9, 0), (8, 6), (14, 0)] r_p 10) (bx_val [(0, 0), (0, 0), (0, 0), (0, 0), (0, 0), (0, 0), (0, 0), (0, 0), (8, 0), (9, 0), (8, 6), (14, 0)] r_p 11)
    rw [bx_val_x (n := 8) (e := (8, 0)) h0_ rfl, bx_val_x (n := 9) (e := (9, 0)) h0_ rfl, bx_val_x (n := 10) (e := (8, 6)) h0_ rfl, bx_val_x (n := 11) (e := (14, 0)) h0_ rfl]
    exact g.2.2.1
  · show rxmRY_36 S0 ws S_p (bx_val [(0, 0), (0, 0), (0, 0), (0, 0), (0, 0), (0, 0), (0, 0), (0, 0), (8, 0), (9, 0), (8, 6), (14, 0)] r_p 8) (bx_val [(0, 0), (0, 0), (0, 0), (0, 0), (0, 0), (0, 0), (0, 0), (0, 0), (8, 0), (9, 0), (8, 6), (14, 0)] r_p 9) (bx_val [(0, 0), (0, 0), (0, 0), (0, 0), (0, 0), (0, 0), (0, 0), (0, 0), (8, 0), (9, 0), (8, 6), (14, 0)] r_p 10) (bx_val [(0, 0), (0, 0), (0, 0), (0, 0), (0, 0), (0, 0), (0, 0), (0, 0), (8, 0), (9, 0), (8, 6), (14, 0)] r_p 11) < rxmRY_31 S0 ws S_p (r 8) (r 9) (r 10) (r 11)
    rw [bx_val_x (n := 8) (e := (8, 0)) h0_ rfl, bx_val_x (n := 9) (e := (9, 0)) h0_ rfl, bx_val_x (n := 10) (e := (8, 6)) h0_ rfl, bx_val_x (n := 11) (e := (14, 0)) h0_ rfl, ← hr_ 8 (by decide), ← hr_ 9 (by decide), ← hr_ 10 (by decide), ← hr_ 11 (by decide)]
    exact g.2.2.2
theorem rxcRY_31_1 {S0 : Nat → Int → Int} {ws : List Int} {S : Nat → Int → Int} {base dd a v x12 x13 x14 x15 : Int} (hP : rxPRY S0 ws) (hin : bx_same rxL (bx_mdl rxCRY.2.2.1) S0 S) (I0 : bx_Inv rxL S) (hinv : rxIRY_31 S0 ws S base dd a v) (l8 : 0 ≤ base) (u8 : base ≤ 110) (l9 : 0 ≤ dd) (u9 : dd ≤ 1) (l10 : 5 ≤ a) (u10 : a ≤ 115) (l11 : 0 ≤ v) (u11 : v ≤ 400) (l12 : 0 ≤ x12) (u12 : x12 ≤ 0) (l13 : 1 ≤ x13) (u13 : x13 ≤ 1) (l14 : (-9223372036854775808) ≤ x14) (u14 : x14 ≤ 9223372036854775807) (l15 : 0 ≤ x15) (u15 : x15 ≤ 400) (f0 : x14 ≠ 294) (e3 : S 480 14 = x12) (e2 : S 480 11 = x13) (e1 : S 480 12 = x14) (e0 : S 480 18 = x15) : (True) ∧ (True) ∧ rxIRY_36 S0 ws S base dd (base + 6) x15 ∧ rxmRY_36 S0 ws S base dd (base + 6) x15 < rxmRY_31 S0 ws S base dd a v := by
  exact ⟨trivial, trivial, ⟨by omega, by omega, hinv.1⟩, by unfold rxmRY_31 rxmRY_36; omega⟩
theorem rxgRY_31_1 {X : (Nat → Int → Int) → Prop} {S0 : Nat → Int → Int} {ws : List Int} (hP : rxPRY S0 ws) : bx_obC rxL X S0 rxCRY.2.2.1 (rxIRY S0 ws) (rxmRY S0 ws) 31 rxzRY_31 rxoRY_31_1 := by
  intro S S_p r r_p hinv hX hin hsm_ hseg
  obtain ⟨I0, I1, h0_, hr_, b_, f_, d_⟩ := bx_cl (evs := [(0, (0, 480), (0, 18), .inr (0, (15, 0))), (0, (0, 480), (0, 12), .inr (1, (14, 0))), (0, (0, 480), (0, 11), .inr (0, (13, 0))), (0, (0, 480), (0, 14), .inr (0, (12, 0)))]) (fvs := [(3, (14, 0), (0, 294), (0, 0))]) hseg (by decide +kernel) (by decide +kernel)
  have hinv : rxIRY_31 S0 ws S (r 8) (r 9) (r 10) (r 11) := hinv
  rw [← hr_ 8 (by decide), ← hr_ 9 (by decide), ← hr_ 10 (by decide), ← hr_ 11 (by decide)] at hinv
  obtain ⟨⟨l8, u8⟩, ⟨l9, u9⟩, ⟨l10, u10⟩, ⟨l11, u11⟩, ⟨l12, u12⟩, ⟨l13, u13⟩, ⟨l14, u14⟩, ⟨l15, u15⟩, -⟩ := b_
  obtain ⟨f0, -⟩ := f_
  obtain ⟨e0, ⟨e1, ⟨e2, ⟨e3, w_⟩⟩⟩⟩ := d_
  subst w_
  have g := rxcRY_31_1 hP hin I0 hinv l8 u8 l9 u9 l10 u10 l11 u11 l12 u12 l13 u13 l14 u14 l15 u15 f0 e3 e2 e1 e0
  refine ⟨bx_narP_ok (l := []) g.1, bx_nfP_ok h0_ (fvs := []) (by decide +kernel) g.2.1, ?_, ?_⟩
  · show rxIRY_36 S0 ws S_p (bx_val [(0, 0), (0, 0), (0, 0), (0, 0), (0, 0), (0, 0), (0, 0), (0, 0), (8, 0), (9, 0), (8, 6), (15, 0)] r_p 8) (bx_val [(0, 0), (0, 0), (0, 0), (0, 0), (0, 0), (0, 0), (0, 0), (0, 0), (8, 0), (9, 0), (8, 6), (15, 0)] r_p 9) (bx_val [(0, 0), (0, 0), (0, 0), (0, 0), (0, 0), (0, 0), (0, 0), (0, 0), (8, 0), (9, 0), (8, 6), (15, 0)] r_p 10) (bx_val [(0, 0), (0, 0), (0, 0), (0, 0), (0, 0), (0, 0), (0, 0), (0, 0), (8, 0), (9, 0), (8, 6), (15, 0)] r_p 11)
    rw [bx_val_x (n := 8) (e := (8, 0)) h0_ rfl, bx_val_x (n := 9) (e := (9, 0)) h0_ rfl, bx_val_x (n := 10) (e := (8, 6)) h0_ rfl, bx_val_x (n := 11) (e := (15, 0)) h0_ rfl]
    exact g.2.2.1
  · show rxmRY_36 S0 ws S_p (bx_val [(0, 0), (0, 0), (0, 0), (0, 0), (0, 0), (0, 0), (0, 0), (0, 0), (8, 0), (9, 0), (8, 6), (15, 0)] r_p 8) (bx_val [(0, 0), (0, 0), (0, 0), (0, 0), (0, 0), (0, 0), (0, 0), (0, 0), (8, 0), (9, 0), (8, 6), (15, 0)] r_p 9) (bx_val [(0, 0), (0, 0), (0, 0), (0, 0), (0, 0), (0, 0), (0, 0), (0, 0), (8, 0), (9, 0), (8, 6), (15, 0)] r_p 10) (bx_val [(0, 0), (0, 0), (0, 0), (0, 0), (0, 0), (0, 0), (0, 0), (0, 0), (8, 0), (9, 0), (8, 6), (15, 0)] r_p 11) < rxmRY_31 S0 ws S_p (r 8) (r 9) (r 10) (r 11)
    rw [bx_val_x (n := 8) (e := (8, 0)) h0_ rfl, bx_val_x (n := 9) (e := (9, 0)) h0_ rfl, bx_val_x (n := 10) (e := (8, 6)) h0_ rfl, bx_val_x (n := 11) (e := (15, 0)) h0_ rfl, ← hr_ 8 (by decide), ← hr_ 9 (by decide), ← hr_ 10 (by decide), ← hr_ 11 (by decide)]
    exact g.2.2.2
theorem rxcRY_31_2 {S0 : Nat → Int → Int} {ws : List Int} {S : Nat → Int → Int} {base dd a v x12 x13 x14 : Int} (hP : rxPRY S0 ws) (hin : bx_same rxL (bx_mdl rxCRY.2.2.1) S0 S) (I0 : bx_Inv rxL S) (hinv : rxIRY_31 S0 ws S base dd a v) (l8 : 0 ≤ base) (u8 : base ≤ 110) (l9 : 0 ≤ dd) (u9 : dd ≤ 1) (l10 : 5 ≤ a) (u10 : a ≤ 115) (l11 : 0 ≤ v) (u11 : v ≤ 400) (l12 : 0 ≤ x12) (u12 : x12 ≤ 0) (l13 : 1 ≤ x13) (u13 : x13 ≤ 1) (l14 : 294 ≤ x14) (u14 : x14 ≤ 294) (e2 : S 480 14 = x12) (e1 : S 480 11 = x13) (e0 : S 480 12 = x14) : (True) ∧ (True) ∧ rxIRY_32 S0 ws S base dd ∧ rxmRY_32 S0 ws S base dd < rxmRY_31 S0 ws S base dd a v := by
  exact ⟨trivial, trivial, ⟨by omega, hinv⟩, by unfold rxmRY_31 rxmRY_32; omega⟩
theorem rxgRY_31_2 {X : (Nat → Int → Int) → Prop} {S0 : Nat → Int → Int} {ws : List Int} (hP : rxPRY S0 ws) : bx_obC rxL X S0 rxCRY.2.2.1 (rxIRY S0 ws) (rxmRY S0 ws) 31 rxzRY_31 rxoRY_31_2 := by
  intro S S_p r r_p hinv hX hin hsm_ hseg
  obtain ⟨I0, I1, h0_, hr_, b_, f_, d_⟩ := bx_cl (evs := [(0, (0, 480), (0, 12), .inr (1, (14, 0))), (0, (0, 480), (0, 11), .inr (0, (13, 0))), (0, (0, 480), (0, 14), .inr (0, (12, 0)))]) (fvs := []) hseg (by decide +kernel) (by decide +kernel)
  have hinv : rxIRY_31 S0 ws S (r 8) (r 9) (r 10) (r 11) := hinv
  rw [← hr_ 8 (by decide), ← hr_ 9 (by decide), ← hr_ 10 (by decide), ← hr_ 11 (by decide)] at hinv
  obtain ⟨⟨l8, u8⟩, ⟨l9, u9⟩, ⟨l10, u10⟩, ⟨l11, u11⟩, ⟨l12, u12⟩, ⟨l13, u13⟩, ⟨l14, u14⟩, -⟩ := b_
  obtain ⟨e0, ⟨e1, ⟨e2, w_⟩⟩⟩ := d_
  subst w_
  have g := rxcRY_31_2 hP hin I0 hinv l8 u8 l9 u9 l10 u10 l11 u11 l12 u12 l13 u13 l14 u14 e2 e1 e0
  refine ⟨bx_narP_ok (l := []) g.1, bx_nfP_ok h0_ (fvs := []) (by decide +kernel) g.2.1, ?_, ?_⟩
  · show rxIRY_32 S0 ws S_p (bx_val [(0, 0), (0, 0), (0, 0), (0, 0), (0, 0), (0, 0), (0, 0), (0, 0), (8, 0), (9, 0)] r_p 8) (bx_val [(0, 0), (0, 0), (0, 0), (0, 0), (0, 0), (0, 0), (0, 0), (0, 0), (8, 0), (9, 0)] r_p 9)
    rw [bx_val_x (n := 8) (e := (8, 0)) h0_ rfl, bx_val_x (n := 9) (e := (9, 0)) h0_ rfl]
    exact g.2.2.1
  · show rxmRY_32 S0 ws S_p (bx_val [(0, 0), (0, 0), (0, 0), (0, 0), (0, 0), (0, 0), (0, 0), (0, 0), (8, 0), (9, 0)] r_p 8) (bx_val [(0, 0), (0, 0), (0, 0), (0, 0), (0, 0), (0, 0), (0, 0), (0, 0), (8, 0), (9, 0)] r_p 9) < rxmRY_31 S0 ws S_p (r 8) (r 9) (r 10) (r 11)
    rw [bx_val_x (n := 8) (e := (8, 0)) h0_ rfl, bx_val_x (n := 9) (e := (9, 0)) h0_ rfl, ← hr_ 8 (by decide), ← hr_ 9 (by decide), ← hr_ 10 (by decide), ← hr_ 11 (by decide)]
    exact g.2.2.2
theorem rxcRY_31_3 {S0 : Nat → Int → Int} {ws : List Int} {S : Nat → Int → Int} {base dd a v x12 x13 : Int} (hP : rxPRY S0 ws) (hin : bx_same rxL (bx_mdl rxCRY.2.2.1) S0 S) (I0 : bx_Inv rxL S) (hinv : rxIRY_31 S0 ws S base dd a v) (l8 : 0 ≤ base) (u8 : base ≤ 110) (l9 : 0 ≤ dd) (u9 : dd ≤ 1) (l10 : 5 ≤ a) (u10 : a ≤ 115) (l11 : 0 ≤ v) (u11 : v ≤ 400) (l12 : 1 ≤ x12) (u12 : x12 ≤ 1) (l13 : 0 ≤ x13) (u13 : x13 ≤ 400) (f0 : x12 ≠ 0) (e1 : S 480 14 = x12) (e0 : S 480 18 = x13) : (True) ∧ (True) ∧ rxIRY_36 S0 ws S base dd (base + 6) x13 ∧ rxmRY_36 S0 ws S base dd (base + 6) x13 < rxmRY_31 S0 ws S base dd a v := by
  exact ⟨trivial, trivial, ⟨by omega, by omega, hinv.1⟩, by unfold rxmRY_31 rxmRY_36; omega⟩
theorem rxgRY_31_3 {X : (Nat → Int → Int) → Prop} {S0 : Nat → Int → Int} {ws : List Int} (hP : rxPRY S0 ws) : bx_obC rxL X S0 rxCRY.2.2.1 (rxIRY S0 ws) (rxmRY S0 ws) 31 rxzRY_31 rxoRY_31_3 := by
  intro S S_p r r_p hinv hX hin hsm_ hseg
  obtain ⟨I0, I1, h0_, hr_, b_, f_, d_⟩ := bx_cl (evs := [(0, (0, 480), (0, 18), .inr (0, (13, 0))), (0, (0, 480), (0, 14), .inr (0, (12, 0)))]) (fvs := [(3, (12, 0), (0, 0), (0, 0))]) hseg (by decide +kernel) (by decide +kernel)
  have hinv : rxIRY_31 S0 ws S (r 8) (r 9) (r 10) (r 11) := hinv
  rw [← hr_ 8 (by decide), ← hr_ 9 (by decide), ← hr_ 10 (by decide), ← hr_ 11 (by decide)] at hinv
  obtain ⟨⟨l8, u8⟩, ⟨l9, u9⟩, ⟨l10, u10⟩, ⟨l11, u11⟩, ⟨l12, u12⟩, ⟨l13, u13⟩, -⟩ := b_
  obtain ⟨f0, -⟩ := f_
  obtain ⟨e0, ⟨e1, w_⟩⟩ := d_
  subst w_
  have g := rxcRY_31_3 hP hin I0 hinv l8 u8 l9 u9 l10 u10 l11 u11 l12 u12 l13 u13 f0 e1 e0
  refine ⟨bx_narP_ok (l := []) g.1, bx_nfP_ok h0_ (fvs := []) (by decide +kernel) g.2.1, ?_, ?_⟩
  · show rxIRY_36 S0 ws S_p (bx_val [(0, 0), (0, 0), (0, 0), (0, 0), (0, 0), (0, 0), (0, 0), (0, 0), (8, 0), (9, 0), (8, 6), (13, 0)] r_p 8) (bx_val [(0, 0), (0, 0), (0, 0), (0, 0), (0, 0), (0, 0), (0, 0), (0, 0), (8, 0), (9, 0), (8, 6), (13, 0)] r_p 9) (bx_val [(0, 0), (0, 0), (0, 0), (0, 0), (0, 0), (0, 0), (0, 0), (0, 0), (8, 0), (9, 0), (8, 6), (13, 0)] r_p 10) (bx_val [(0, 0), (0, 0), (0, 0), (0, 0), (0, 0), (0, 0), (0, 0), (0, 0), (8, 0), (9, 0), (8, 6), (13, 0)] r_p 11)
    rw [bx_val_x (n := 8) (e := (8, 0)) h0_ rfl, bx_val_x (n := 9) (e := (9, 0)) h0_ rfl, bx_val_x (n := 10) (e := (8, 6)) h0_ rfl, bx_val_x (n := 11) (e := (13, 0)) h0_ rfl]
    exact g.2.2.1
  · show rxmRY_36 S0 ws S_p (bx_val [(0, 0), (0, 0), (0, 0), (0, 0), (0, 0), (0, 0), (0, 0), (0, 0), (8, 0), (9, 0), (8, 6), (13, 0)] r_p 8) (bx_val [(0, 0), (0, 0), (0, 0), (0, 0), (0, 0), (0, 0), (0, 0), (0, 0), (8, 0), (9, 0), (8, 6), (13, 0)] r_p 9) (bx_val [(0, 0), (0, 0), (0, 0), (0, 0), (0, 0), (0, 0), (0, 0), (0, 0), (8, 0), (9, 0), (8, 6), (13, 0)] r_p 10) (bx_val [(0, 0), (0, 0), (0, 0), (0, 0), (0, 0), (0, 0), (0, 0), (0, 0), (8, 0), (9, 0), (8, 6), (13, 0)] r_p 11) < rxmRY_31 S0 ws S_p (r 8) (r 9) (r 10) (r 11)
    rw [bx_val_x (n := 8) (e := (8, 0)) h0_ rfl, bx_val_x (n := 9) (e := (9, 0)) h0_ rfl, bx_val_x (n := 10) (e := (8, 6)) h0_ rfl, bx_val_x (n := 11) (e := (13, 0)) h0_ rfl, ← hr_ 8 (by decide), ← hr_ 9 (by decide), ← hr_ 10 (by decide), ← hr_ 11 (by decide)]
    exact g.2.2.2
theorem rxcRY_33_0 {S0 : Nat → Int → Int} {ws : List Int} {S : Nat → Int → Int} {base dd : Int} (hP : rxPRY S0 ws) (hin : bx_same rxL (bx_mdl rxCRY.2.2.1) S0 S) (I0 : bx_Inv rxL S) (hinv : rxIRY_33 S0 ws S base dd) (l8 : 0 ≤ base) (u8 : base ≤ 110) (l9 : 0 ≤ dd) (u9 : dd ≤ 1) : (True) ∧ (True) ∧ rxIRY_34 S0 ws S base dd ∧ rxmRY_34 S0 ws S base dd < rxmRY_33 S0 ws S base dd := by
  exact ⟨trivial, trivial, hinv, by unfold rxmRY_33 rxmRY_34; omega⟩
theorem rxgRY_33_0 {X : (Nat → Int → Int) → Prop} {S0 : Nat → Int → Int} {ws : List Int} (hP : rxPRY S0 ws) : bx_obC rxL X S0 rxCRY.2.2.1 (rxIRY S0 ws) (rxmRY S0 ws) 33 rxzRY_33 rxoRY_33_0 := by
  intro S S_p r r_p hinv hX hin hsm_ hseg
  obtain ⟨I0, I1, h0_, hr_, b_, f_, d_⟩ := bx_cl (evs := []) (fvs := []) hseg (by decide +kernel) (by decide +kernel)
  have hinv : rxIRY_33 S0 ws S (r 8) (r 9) := hinv
  rw [← hr_ 8 (by decide), ← hr_ 9 (by decide)] at hinv
  obtain ⟨⟨l8, u8⟩, ⟨l9, u9⟩, -⟩ := b_
  have w_ := d_
  subst w_
  have g := rxcRY_33_0 hP hin I0 hinv l8 u8 l9 u9
  refine ⟨bx_narP_ok (l := []) g.1, bx_nfP_ok h0_ (fvs := []) (by decide +kernel) g.2.1, ?_, ?_⟩
  · show rxIRY_34 S0 ws S_p (bx_val [(0, 0), (0, 0), (0, 0), (0, 0), (0, 0), (0, 0), (0, 0), (0, 0), (8, 0), (9, 0)] r_p 8) (bx_val [(0, 0), (0, 0), (0, 0), (0, 0), (0, 0), (0, 0), (0, 0), (0, 0), (8, 0), (9, 0)] r_p 9)
    rw [bx_val_x (n := 8) (e := (8, 0)) h0_ rfl, bx_val_x (n := 9) (e := (9, 0)) h0_ rfl]
    exact g.2.2.1
  · show rxmRY_34 S0 ws S_p (bx_val [(0, 0), (0, 0), (0, 0), (0, 0), (0, 0), (0, 0), (0, 0), (0, 0), (8, 0), (9, 0)] r_p 8) (bx_val [(0, 0), (0, 0), (0, 0), (0, 0), (0, 0), (0, 0), (0, 0), (0, 0), (8, 0), (9, 0)] r_p 9) < rxmRY_33 S0 ws S_p (r 8) (r 9)
    rw [bx_val_x (n := 8) (e := (8, 0)) h0_ rfl, bx_val_x (n := 9) (e := (9, 0)) h0_ rfl, ← hr_ 8 (by decide), ← hr_ 9 (by decide)]
    exact g.2.2.2
theorem rxcRY_35_0 {S0 : Nat → Int → Int} {ws : List Int} {S : Nat → Int → Int} {base dd x10 : Int} (hP : rxPRY S0 ws) (hin : bx_same rxL (bx_mdl rxCRY.2.2.1) S0 S) (I0 : bx_Inv rxL S) (hinv : rxIRY_35 S0 ws S base dd) (l8 : 0 ≤ base) (u8 : base ≤ 110) (l9 : 0 ≤ dd) (u9 : dd ≤ 1) (l10 : 0 ≤ x10) (u10 : x10 ≤ 400) (e0 : S 480 18 = x10) : (True) ∧ (True) ∧ rxIRY_36 S0 ws S base dd (base + 6) x10 ∧ rxmRY_36 S0 ws S base dd (base + 6) x10 < rxmRY_35 S0 ws S base dd := by
  exact ⟨trivial, trivial, ⟨by omega, by omega, hinv⟩, by unfold rxmRY_35 rxmRY_36; omega⟩
theorem rxgRY_35_0 {X : (Nat → Int → Int) → Prop} {S0 : Nat → Int → Int} {ws : List Int} (hP : rxPRY S0 ws) : bx_obC rxL X S0 rxCRY.2.2.1 (rxIRY S0 ws) (rxmRY S0 ws) 35 rxzRY_35 rxoRY_35_0 := by
  intro S S_p r r_p hinv hX hin hsm_ hseg
  obtain ⟨I0, I1, h0_, hr_, b_, f_, d_⟩ := bx_cl (evs := [(0, (0, 480), (0, 18), .inr (0, (10, 0)))]) (fvs := []) hseg (by decide +kernel) (by decide +kernel)
  have hinv : rxIRY_35 S0 ws S (r 8) (r 9) := hinv
  rw [← hr_ 8 (by decide), ← hr_ 9 (by decide)] at hinv
  obtain ⟨⟨l8, u8⟩, ⟨l9, u9⟩, ⟨l10, u10⟩, -⟩ := b_
  obtain ⟨e0, w_⟩ := d_
  subst w_
  have g := rxcRY_35_0 hP hin I0 hinv l8 u8 l9 u9 l10 u10 e0
  refine ⟨bx_narP_ok (l := []) g.1, bx_nfP_ok h0_ (fvs := []) (by decide +kernel) g.2.1, ?_, ?_⟩
  · show rxIRY_36 S0 ws S_p (bx_val [(0, 0), (0, 0), (0, 0), (0, 0), (0, 0), (0, 0), (0, 0), (0, 0), (8, 0), (9, 0), (8, 6), (10, 0)] r_p 8) (bx_val [(0, 0), (0, 0), (0, 0), (0, 0), (0, 0), (0, 0), (0, 0), (0, 0), (8, 0), (9, 0), (8, 6), (10, 0)] r_p 9) (bx_val [(0, 0), (0, 0), (0, 0), (0, 0), (0, 0), (0, 0), (0, 0), (0, 0), (8, 0), (9, 0), (8, 6), (10, 0)] r_p 10) (bx_val [(0, 0), (0, 0), (0, 0), (0, 0), (0, 0), (0, 0), (0, 0), (0, 0), (8, 0), (9, 0), (8, 6), (10, 0)] r_p 11)
    rw [bx_val_x (n := 8) (e := (8, 0)) h0_ rfl, bx_val_x (n := 9) (e := (9, 0)) h0_ rfl, bx_val_x (n := 10) (e := (8, 6)) h0_ rfl, bx_val_x (n := 11) (e := (10, 0)) h0_ rfl]
    exact g.2.2.1
  · show rxmRY_36 S0 ws S_p (bx_val [(0, 0), (0, 0), (0, 0), (0, 0), (0, 0), (0, 0), (0, 0), (0, 0), (8, 0), (9, 0), (8, 6), (10, 0)] r_p 8) (bx_val [(0, 0), (0, 0), (0, 0), (0, 0), (0, 0), (0, 0), (0, 0), (0, 0), (8, 0), (9, 0), (8, 6), (10, 0)] r_p 9) (bx_val [(0, 0), (0, 0), (0, 0), (0, 0), (0, 0), (0, 0), (0, 0), (0, 0), (8, 0), (9, 0), (8, 6), (10, 0)] r_p 10) (bx_val [(0, 0), (0, 0), (0, 0), (0, 0), (0, 0), (0, 0), (0, 0), (0, 0), (8, 0), (9, 0), (8, 6), (10, 0)] r_p 11) < rxmRY_35 S0 ws S_p (r 8) (r 9)
    rw [bx_val_x (n := 8) (e := (8, 0)) h0_ rfl, bx_val_x (n := 9) (e := (9, 0)) h0_ rfl, bx_val_x (n := 10) (e := (8, 6)) h0_ rfl, bx_val_x (n := 11) (e := (10, 0)) h0_ rfl, ← hr_ 8 (by decide), ← hr_ 9 (by decide)]
    exact g.2.2.2
theorem rxdRY_37_0 {S0 : Nat → Int → Int} {ws : List Int} {S : Nat → Int → Int} {base dd a v : Int} (hP : rxPRY S0 ws) (hin : bx_same rxL (bx_mdl rxCRY.2.2.1) S0 S) (hin2 : bx_same rxL (bx_mdl rxCRY.2.2.1) S S) (I0 : bx_Inv rxL S) (I1 : bx_Inv rxL S) (hinv : rxIRY_37 S0 ws S base dd a v) (l8 : 0 ≤ base) (u8 : base ≤ 110) (l9 : 0 ≤ dd) (u9 : dd ≤ 1) (l10 : 6 ≤ a) (u10 : a ≤ 116) (l11 : 0 ≤ v) (u11 : v ≤ 400) : (True) ∧ rxPSRY S0 ws S none := by
  have h : rxPy S0 S base 6 := hinv
  exact ⟨trivial, rfl, rxPi_end hP.1 hP.2.1 h hP.2.2.1, fun _ => h.1.2.1⟩
theorem rxfRY_37_0 {X : (Nat → Int → Int) → Prop} {S0 : Nat → Int → Int} {ws : List Int} (hP : rxPRY S0 ws) : bx_obE rxL X S0 rxCRY.2.2.1 (rxIRY S0 ws) (rxPSRY S0 ws) 37 rxzRY_37 rxeRY_37_0 := by
  intro S S_p r r_p hinv hX hin hsm_ hseg
  obtain ⟨I0, I1, h0_, hr_, b_, f_, d_⟩ := bx_cl (evs := []) (fvs := []) hseg (by decide +kernel) (by decide +kernel)
  have hinv : rxIRY_37 S0 ws S (r 8) (r 9) (r 10) (r 11) := hinv
  rw [← hr_ 8 (by decide), ← hr_ 9 (by decide), ← hr_ 10 (by decide), ← hr_ 11 (by decide)] at hinv
  obtain ⟨⟨l8, u8⟩, ⟨l9, u9⟩, ⟨l10, u10⟩, ⟨l11, u11⟩, -⟩ := b_
  have w_ := d_
  subst w_
  have g := rxdRY_37_0 hP hin hsm_ I0 I1 hinv l8 u8 l9 u9 l10 u10 l11 u11
  refine ⟨bx_narP_ok (l := []) g.1, ?_⟩
  exact g.2
theorem rxgCRY {X : (Nat → Int → Int) → Prop} {S0 : Nat → Int → Int} {ws : List Int} (hP : rxPRY S0 ws) : bx_allI (fun i q => rxURY q = true ∨ bx_allP (fun o => bx_obC rxL X S0 rxCRY.2.2.1 (rxIRY S0 ws) (rxmRY S0 ws) i q.1 o) q.2.1) 0 rxYRY := ⟨Or.inr ⟨rxgRY_0_0 hP, rxgRY_0_1 hP, rxgRY_0_2 hP, rxgRY_0_3 hP, trivial⟩, Or.inl rfl, Or.inr ⟨rxgRY_2_0 hP, trivial⟩, Or.inr ⟨rxgRY_3_0 hP, trivial⟩, Or.inr ⟨rxgRY_4_0 hP, trivial⟩, Or.inl rfl, Or.inl rfl, Or.inr ⟨rxgRY_7_0 hP, trivial⟩, Or.inl rfl, Or.inl rfl, Or.inr ⟨rxgRY_10_0 hP, rxgRY_10_1 hP, trivial⟩, Or.inl rfl, Or.inl rfl, Or.inr ⟨rxgRY_13_0 hP, rxgRY_13_1 hP, rxgRY_13_2 hP, rxgRY_13_3 hP, trivial⟩, Or.inl rfl, Or.inr ⟨rxgRY_15_0 hP, rxgRY_15_1 hP, rxgRY_15_2 hP, rxgRY_15_3 hP, trivial⟩, Or.inl rfl, Or.inr ⟨rxgRY_17_0 hP, rxgRY_17_1 hP, trivial⟩, Or.inl rfl, Or.inr ⟨rxgRY_19_0 hP, trivial⟩, Or.inl rfl, Or.inr ⟨rxgRY_21_0 hP, rxgRY_21_1 hP, rxgRY_21_2 hP, trivial⟩, Or.inl rfl, Or.inr ⟨rxgRY_23_0 hP, trivial⟩, Or.inl rfl, Or.inr ⟨rxgRY_25_0 hP, rxgRY_25_1 hP, rxgRY_25_2 hP, rxgRY_25_3 hP, rxgRY_25_4 hP, trivial⟩, Or.inl rfl, Or.inr ⟨rxgRY_27_0 hP, trivial⟩, Or.inl rfl, Or.inr ⟨rxgRY_29_0 hP, trivial⟩, Or.inl rfl, Or.inr ⟨rxgRY_31_0 hP, rxgRY_31_1 hP, rxgRY_31_2 hP, rxgRY_31_3 hP, trivial⟩, Or.inl rfl, Or.inr ⟨rxgRY_33_0 hP, trivial⟩, Or.inl rfl, Or.inr ⟨rxgRY_35_0 hP, trivial⟩, Or.inl rfl, Or.inr trivial, trivial⟩
theorem rxgERY {X : (Nat → Int → Int) → Prop} {S0 : Nat → Int → Int} {ws : List Int} (hP : rxPRY S0 ws) : bx_allI (fun i q => rxURY q = true ∨ bx_allP (fun E => bx_obE rxL X S0 rxCRY.2.2.1 (rxIRY S0 ws) (rxPSRY S0 ws) i q.1 E) q.2.2) 0 rxYRY := ⟨Or.inr trivial, Or.inl rfl, Or.inr ⟨rxfRY_2_0 hP, trivial⟩, Or.inr trivial, Or.inr trivial, Or.inl rfl, Or.inl rfl, Or.inr trivial, Or.inl rfl, Or.inl rfl, Or.inr trivial, Or.inl rfl, Or.inl rfl, Or.inr trivial, Or.inl rfl, Or.inr trivial, Or.inl rfl, Or.inr trivial, Or.inl rfl, Or.inr trivial, Or.inl rfl, Or.inr trivial, Or.inl rfl, Or.inr trivial, Or.inl rfl, Or.inr trivial, Or.inl rfl, Or.inr trivial, Or.inl rfl, Or.inr trivial, Or.inl rfl, Or.inr trivial, Or.inl rfl, Or.inr trivial, Or.inl rfl, Or.inr trivial, Or.inl rfl, Or.inr ⟨rxfRY_37_0 hP, trivial⟩, trivial⟩
theorem rxuRY {PX : State → Prop} {Dg : va_G} {A : Nat → Prop} {ad xa : Nat → Nat} {l : Launch} {X : (Nat → Int → Int) → Prop} (hPX : rx_PXOK rxNW A PX) (hX : ∀ S S1 : Nat → Int → Int, X S → bx_same rxL (bx_mdl rxCRY.2.2.1) S S1 → X S1) (hQMU : bx_ConP rxG rxNW rxAO PX Dg rxL X vwCl A ad l rxM265 rxCMU rxPMU rxPSMU) (hQRPL : bx_ConP rxG rxNW rxAO PX Dg rxL X vwCl A ad l rxM294 rxCRPL rxPRPL rxPSRPL) (hQIW : bx_ConP rxG rxNW rxAO PX Dg rxL X vwCl A ad l rxM267 rxCIW rxPIW rxPSIW) (hQRE : bx_ConP rxG rxNW rxAO PX Dg rxL X vwCl A ad l rxM282 rxCRE rxPRE rxPSRE) (hQNX : bx_ConP rxG rxNW rxAO PX Dg rxL X vwCl A ad l rxM264 rxCNX rxPNX rxPSNX) {S0 : Nat → Int → Int} {ws : List Int} (hP : rxPRY S0 ws) : ∀ (i : Nat) (q : bx_HE), rxYRY[i]? = some q → rxURY q = true → ∀ {p : Program} {e : Env} {R : Room} {s : State} {m : MethodId} {args : Array Value} {below : List Frame} {meth : Method} {c : Code} {Q : State → Prop} {H0 : Heap}, rx_Fr rxG rxNW rxAO PX p s m args meth c rxM295 → (∀ q, H0.size ≤ q → A q) → H0 = s.heap → rxM295.2.2.2.2.2.2.1 ≤ R.cells → rxM295.2.2.2.2.2.2.2 ≤ R.slots → rxCRY.2.2.2.1 ≤ R.frames → rxCRY.2.2.2.1 * 40 ≤ R.locals → bx_Step p l e R s m args below meth c Q Dg rxL X vwCl A xa H0 ad rxM295 rxYRY (rxIRY S0 ws) (rxmRY S0 ws) S0 rxCRY.2.2.1 i q := by
  intro i q hq hus p e R s m args below meth c Q H0 hF hA hH0 hmc hms hd hdl
  match i, hq with
  | 0, hq =>
    cases hq
    exact absurd (show false = true from hus) Bool.false_ne_true
  | 1, hq =>
    cases hq
    exact rx_stepC (ins := .invokevirtual 284) (len := 3) (i_p := 2) (M_p := rxM265) (d := rxCRY.2.2.2.1) (as := [.inr (3, (0, 480)), .inr (0, (8, 0))]) (t := []) (ct := rxCMU) hPX hF rfl hA hH0 hmc hms hd hdl (by decide +kernel) rfl rfl (by decide +kernel) (by decide +kernel) hQMU (by decide +kernel) rfl (Or.inl ⟨rfl, rfl, rfl⟩) (rxsRY_1 hP)
  | 2, hq =>
    cases hq
    exact absurd (show false = true from hus) Bool.false_ne_true
  | 3, hq =>
    cases hq
    exact absurd (show false = true from hus) Bool.false_ne_true
  | 4, hq =>
    cases hq
    exact absurd (show false = true from hus) Bool.false_ne_true
  | 5, hq =>
    cases hq
    exact rx_stepC (ins := .invokevirtual 452) (len := 3) (i_p := 6) (M_p := rxM294) (d := rxCRY.2.2.2.1) (as := [.inr (3, (0, 480))]) (t := [.inr (0, (9, 0)), .inr (3, (0, 496))]) (ct := rxCRPL) hPX hF rfl hA hH0 hmc hms hd hdl (by decide +kernel) rfl rfl (by decide +kernel) (by decide +kernel) hQRPL (by decide +kernel) rfl (Or.inr ⟨_, _, _, 1, rfl, rfl, by omega, rfl, rfl, rfl⟩) (rxsRY_5 hP)
  | 6, hq =>
    cases hq
    exact rx_stepS (i_p := 7) (pl := 496) (a := 9) (b := 10) (n := 120) (g := 77) (lo := 0) (hi := 110) (ty := (0, (-2147483648), 2147483647)) (t := []) hF (by decide +kernel) rfl rfl rfl rfl (by omega) (by omega) (by decide +kernel) rfl rfl (rxsRY_6 hP hX)
  | 7, hq =>
    cases hq
    exact absurd (show false = true from hus) Bool.false_ne_true
  | 8, hq =>
    cases hq
    exact rx_stepC (ins := .invokevirtual 307) (len := 3) (i_p := 9) (M_p := rxM267) (d := rxCRY.2.2.2.1) (as := [.inr (3, (0, 480)), .inr (1, (0, 52))]) (t := [.inr (3, (0, 480))]) (ct := rxCIW) hPX hF rfl hA hH0 hmc hms hd hdl (by decide +kernel) rfl rfl (by decide +kernel) (by decide +kernel) hQIW (by decide +kernel) rfl (Or.inr ⟨_, _, _, 1, rfl, rfl, by omega, rfl, rfl, rfl⟩) (rxsRY_8 hP)
  | 9, hq =>
    cases hq
    exact rx_stepC (ins := .invokevirtual 284) (len := 3) (i_p := 10) (M_p := rxM265) (d := rxCRY.2.2.2.1) (as := [.inr (3, (0, 480)), .inr (0, (9, 0))]) (t := []) (ct := rxCMU) hPX hF rfl hA hH0 hmc hms hd hdl (by decide +kernel) rfl rfl (by decide +kernel) (by decide +kernel) hQMU (by decide +kernel) rfl (Or.inl ⟨rfl, rfl, rfl⟩) (rxsRY_9 hP)
  | 10, hq =>
    cases hq
    exact absurd (show false = true from hus) Bool.false_ne_true
  | 11, hq =>
    cases hq
    exact rx_stepC (ins := .invokevirtual 452) (len := 3) (i_p := 12) (M_p := rxM294) (d := rxCRY.2.2.2.1) (as := [.inr (3, (0, 480))]) (t := [.inr (0, (9, 0)), .inr (3, (0, 496))]) (ct := rxCRPL) hPX hF rfl hA hH0 hmc hms hd hdl (by decide +kernel) rfl rfl (by decide +kernel) (by decide +kernel) hQRPL (by decide +kernel) rfl (Or.inr ⟨_, _, _, 1, rfl, rfl, by omega, rfl, rfl, rfl⟩) (rxsRY_11 hP)
  | 12, hq =>
    cases hq
    exact rx_stepS (i_p := 13) (pl := 496) (a := 9) (b := 10) (n := 120) (g := 77) (lo := 1) (hi := 111) (ty := (0, (-2147483648), 2147483647)) (t := []) hF (by decide +kernel) rfl rfl rfl rfl (by omega) (by omega) (by decide +kernel) rfl rfl (rxsRY_12 hP hX)
  | 13, hq =>
    cases hq
    exact absurd (show false = true from hus) Bool.false_ne_true
  | 14, hq =>
    cases hq
    exact rx_stepS (i_p := 15) (pl := 496) (a := 9) (b := 10) (n := 120) (g := 77) (lo := 1) (hi := 111) (ty := (0, 0, 0)) (t := []) hF (by decide +kernel) rfl rfl rfl rfl (by omega) (by omega) (by decide +kernel) rfl rfl (rxsRY_14 hP hX)
  | 15, hq =>
    cases hq
    exact absurd (show false = true from hus) Bool.false_ne_true
  | 16, hq =>
    cases hq
    exact rx_stepC (ins := .invokevirtual 284) (len := 3) (i_p := 17) (M_p := rxM265) (d := rxCRY.2.2.2.1) (as := [.inr (3, (0, 480)), .inr (0, (10, 0))]) (t := []) (ct := rxCMU) hPX hF rfl hA hH0 hmc hms hd hdl (by decide +kernel) rfl rfl (by decide +kernel) (by decide +kernel) hQMU (by decide +kernel) rfl (Or.inl ⟨rfl, rfl, rfl⟩) (rxsRY_16 hP)
  | 17, hq =>
    cases hq
    exact absurd (show false = true from hus) Bool.false_ne_true
  | 18, hq =>
    cases hq
    exact rx_stepS (i_p := 19) (pl := 496) (a := 10) (b := 11) (n := 120) (g := 77) (lo := 2) (hi := 112) (ty := (0, 0, 1)) (t := []) hF (by decide +kernel) rfl rfl rfl rfl (by omega) (by omega) (by decide +kernel) rfl rfl (rxsRY_18 hP hX)
  | 19, hq =>
    cases hq
    exact absurd (show false = true from hus) Bool.false_ne_true
  | 20, hq =>
    cases hq
    exact rx_stepS (i_p := 21) (pl := 496) (a := 10) (b := 11) (n := 120) (g := 77) (lo := 3) (hi := 113) (ty := (0, 0, 400)) (t := []) hF (by decide +kernel) rfl rfl rfl rfl (by omega) (by omega) (by decide +kernel) rfl rfl (rxsRY_20 hP hX)
  | 21, hq =>
    cases hq
    exact absurd (show false = true from hus) Bool.false_ne_true
  | 22, hq =>
    cases hq
    exact rx_stepC (ins := .invokevirtual 383) (len := 3) (i_p := 23) (M_p := rxM282) (d := rxCRY.2.2.2.1) (as := [.inr (3, (0, 480)), .inr (0, (0, 0))]) (t := []) (ct := rxCRE) hPX hF rfl hA hH0 hmc hms hd hdl (by decide +kernel) rfl rfl (by decide +kernel) (by decide +kernel) hQRE (by decide +kernel) rfl (Or.inl ⟨rfl, rfl, rfl⟩) (rxsRY_22 hP)
  | 23, hq =>
    cases hq
    exact absurd (show false = true from hus) Bool.false_ne_true
  | 24, hq =>
    cases hq
    exact rx_stepS (i_p := 25) (pl := 496) (a := 10) (b := 11) (n := 120) (g := 77) (lo := 4) (hi := 114) (ty := (0, 0, 400)) (t := []) hF (by decide +kernel) rfl rfl rfl rfl (by omega) (by omega) (by decide +kernel) rfl rfl (rxsRY_24 hP hX)
  | 25, hq =>
    cases hq
    exact absurd (show false = true from hus) Bool.false_ne_true
  | 26, hq =>
    cases hq
    exact rx_stepC (ins := .invokevirtual 253) (len := 3) (i_p := 27) (M_p := rxM264) (d := rxCRY.2.2.2.1) (as := [.inr (3, (0, 480))]) (t := []) (ct := rxCNX) hPX hF rfl hA hH0 hmc hms hd hdl (by decide +kernel) rfl rfl (by decide +kernel) (by decide +kernel) hQNX (by decide +kernel) rfl (Or.inl ⟨rfl, rfl, rfl⟩) (rxsRY_26 hP)
  | 27, hq =>
    cases hq
    exact absurd (show false = true from hus) Bool.false_ne_true
  | 28, hq =>
    cases hq
    exact rx_stepC (ins := .invokevirtual 383) (len := 3) (i_p := 29) (M_p := rxM282) (d := rxCRY.2.2.2.1) (as := [.inr (3, (0, 480)), .inr (0, (0, 0))]) (t := []) (ct := rxCRE) hPX hF rfl hA hH0 hmc hms hd hdl (by decide +kernel) rfl rfl (by decide +kernel) (by decide +kernel) hQRE (by decide +kernel) rfl (Or.inl ⟨rfl, rfl, rfl⟩) (rxsRY_28 hP)
  | 29, hq =>
    cases hq
    exact absurd (show false = true from hus) Bool.false_ne_true
  | 30, hq =>
    cases hq
    exact rx_stepS (i_p := 31) (pl := 496) (a := 10) (b := 11) (n := 120) (g := 77) (lo := 5) (hi := 115) (ty := (0, 0, 400)) (t := []) hF (by decide +kernel) rfl rfl rfl rfl (by omega) (by omega) (by decide +kernel) rfl rfl (rxsRY_30 hP hX)
  | 31, hq =>
    cases hq
    exact absurd (show false = true from hus) Bool.false_ne_true
  | 32, hq =>
    cases hq
    exact rx_stepC (ins := .invokevirtual 253) (len := 3) (i_p := 33) (M_p := rxM264) (d := rxCRY.2.2.2.1) (as := [.inr (3, (0, 480))]) (t := []) (ct := rxCNX) hPX hF rfl hA hH0 hmc hms hd hdl (by decide +kernel) rfl rfl (by decide +kernel) (by decide +kernel) hQNX (by decide +kernel) rfl (Or.inl ⟨rfl, rfl, rfl⟩) (rxsRY_32 hP)
  | 33, hq =>
    cases hq
    exact absurd (show false = true from hus) Bool.false_ne_true
  | 34, hq =>
    cases hq
    exact rx_stepC (ins := .invokevirtual 383) (len := 3) (i_p := 35) (M_p := rxM282) (d := rxCRY.2.2.2.1) (as := [.inr (3, (0, 480)), .inr (0, (0, 1))]) (t := []) (ct := rxCRE) hPX hF rfl hA hH0 hmc hms hd hdl (by decide +kernel) rfl rfl (by decide +kernel) (by decide +kernel) hQRE (by decide +kernel) rfl (Or.inl ⟨rfl, rfl, rfl⟩) (rxsRY_34 hP)
  | 35, hq =>
    cases hq
    exact absurd (show false = true from hus) Bool.false_ne_true
  | 36, hq =>
    cases hq
    exact rx_stepS (i_p := 37) (pl := 496) (a := 10) (b := 11) (n := 120) (g := 77) (lo := 6) (hi := 116) (ty := (0, 0, 400)) (t := []) hF (by decide +kernel) rfl rfl rfl rfl (by omega) (by omega) (by decide +kernel) rfl rfl (rxsRY_36 hP hX)
  | 37, hq =>
    cases hq
    exact absurd (show false = true from hus) Bool.false_ne_true
  | n + 38, hq => cases hq
theorem rxQRY {PX : State → Prop} {Dg : va_G} {A : Nat → Prop} {ad xa : Nat → Nat} {l : Launch} {X : (Nat → Int → Int) → Prop} (hPX : rx_PXOK rxNW A PX) (hsl : ∀ s : State, PX s → ∀ o idx n : Nat, rxSl o idx = some n → ∃ tx : String, vk_R (rxNm o) idx tx (ad n) s)
    (hX : ∀ S S_p : Nat → Int → Int, X S → bx_same rxL (bx_mdl rxCRY.2.2.1) S S_p → X S_p)
    (ih : ∀ (j2 : Nat) (ct2 : bx_Ct) (M2 : rx_Mt), ct2 ∈ rxCnE j2 → ct2.2.2.2.1 + 1 ≤ rxCRY.2.2.2.1 → rxT.2.2.2.2.2 j2 = some M2 → bx_Con rxG rxNW rxAO PX Dg rxL X vwCl A ad l M2 ct2) (hQMU : bx_ConP rxG rxNW rxAO PX Dg rxL X vwCl A ad l rxM265 rxCMU rxPMU rxPSMU) (hQRPL : bx_ConP rxG rxNW rxAO PX Dg rxL X vwCl A ad l rxM294 rxCRPL rxPRPL rxPSRPL) (hQIW : bx_ConP rxG rxNW rxAO PX Dg rxL X vwCl A ad l rxM267 rxCIW rxPIW rxPSIW) (hQRE : bx_ConP rxG rxNW rxAO PX Dg rxL X vwCl A ad l rxM282 rxCRE rxPRE rxPSRE) (hQNX : bx_ConP rxG rxNW rxAO PX Dg rxL X vwCl A ad l rxM264 rxCNX rxPNX rxPSNX) : bx_ConP rxG rxNW rxAO PX Dg rxL X vwCl A ad l rxM295 rxCRY rxPRY rxPSRY :=
  rxQof (xa := xa) (Cn := rxCnE) (f := 30000) (j := 295) (tab := rxYRY) (us := rxURY) hPX hsl hX ih rfl rxYcRY rxIRY rxmRY
    (fun S0 ws r I0 I ht0 ht as he he1 hX0 hI0 hP hs ha => by
      have e := he.symm.trans (show bx_ent0 rxNP rxCRY.1 bx_I0 [] = some ([(0, 0), (0, 0), (0, 0), (0, 0), (0, 0), (0, 0), (0, 0), (0, 0)], [], [.inr (3, (0, 480))]) from rfl)
      cases e
      subst ha
      have h0 : r 0 = 0 := hs.1
      show rxIRY_0 S0 _ S0
      refine ⟨rfl, ?_⟩
      simp only [List.map_cons, List.map_nil, bx_xv_ok h0]
      rfl)
    (fun S0 ws hP => rxuRY (xa := xa) hPX hX hQMU hQRPL hQIW hQRE hQNX hP) (fun S0 ws hP => rxgCRY hP) (fun S0 ws hP => rxgERY hP)
