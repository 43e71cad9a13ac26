noncomputable def rxBd (v : Int) : Int := if 31 ≤ v then 0 else if v = 30 then 1 else if v = 29 then 2 else if v = 28 then 3 else if 25 ≤ v then 4 else if 22 ≤ v then 6 else 5
noncomputable def rxKp (S0 S : Nat → Int → Int) (first : Int) : Prop := ∀ k : Int, 0 ≤ k → k < first → S 487 k = S0 487 k ∧ S 488 k = S0 488 k
noncomputable def rxSt (S0 S : Nat → Int → Int) (least : Int) : Prop := rxPz S ∧ 0 ≤ S 480 24 ∧ S 480 24 ≤ S0 480 24 ∧ S0 480 18 ≤ S 480 18 ∧ S 480 18 + S 480 24 ≤ S0 480 18 + S0 480 24 ∧ S 480 25 = S0 480 25 ∧ S 489 = S0 489 ∧ S 490 = S0 490 ∧
  (∀ i : Int, S 480 24 ≤ i → i < S0 480 24 → least ≤ rxBd (S0 489 i)) ∧ ∀ first : Int, 0 ≤ first → rxWz S0 first 1 → rxWz S first 1 ∧ rxKp S0 S first
theorem rxSt_rf {S : Nat → Int → Int} {least : Int} (h : rxPz S) (h0 : 0 ≤ S 480 24) : rxSt S S least := ⟨h, h0, Int.le_refl _, Int.le_refl _, Int.le_refl _, rfl, rfl, rfl, fun i a b => by omega, fun first _ h => ⟨h, fun k _ _ => ⟨rfl, rfl⟩⟩⟩
theorem rxBd_cases (v : Int) : (31 ≤ v ∧ rxBd v = 0) ∨ (v = 30 ∧ rxBd v = 1) ∨ (v = 29 ∧ rxBd v = 2) ∨ (v = 28 ∧ rxBd v = 3) ∨ (25 ≤ v ∧ v ≤ 27 ∧ rxBd v = 4) ∨ (22 ≤ v ∧ v ≤ 24 ∧ rxBd v = 6) ∨ (v ≤ 21 ∧ rxBd v = 5) := by
  unfold rxBd
  by_cases h1 : 31 ≤ v
  · rw [if_pos h1]
    omega
  · rw [if_neg h1]
    by_cases h2 : v = 30
    · rw [if_pos h2]
      omega
    · rw [if_neg h2]
      by_cases h3 : v = 29
      · rw [if_pos h3]
        omega
      · rw [if_neg h3]
        by_cases h4 : v = 28
        · rw [if_pos h4]
          omega
        · rw [if_neg h4]
          by_cases h5 : 25 ≤ v
          · rw [if_pos h5]
            omega
          · rw [if_neg h5]
            by_cases h6 : 22 ≤ v
            · rw [if_pos h6]
              omega
            · rw [if_neg h6]
              omega
theorem rxBd31 {v : Int} (h : 1 ≤ rxBd v) : v < 31 := by
  unfold rxBd at h
  by_cases hv : 31 ≤ v
  · rw [if_pos hv] at h
    omega
  · omega
theorem rxSt_jmp {S0 S S_p : Nat → Int → Int} {least : Int} (h : rxSt S0 S least) (hl : 1 ≤ least) (hp : 1 ≤ S 480 24) (hj : rxJmp (S 489 (S 480 24 - 1))) (hb : least ≤ rxBd (S 489 (S 480 24 - 1))) (h18 : S_p 480 18 = S 480 18) (h24 : S_p 480 24 = S 480 24 - 1) (h25 : S_p 480 25 = S 480 25) (h487 : S_p 487 = S 487) (h489 : S_p 489 = S 489) (h490 : S_p 490 = S 490)
    (h488 : ∀ k : Int, k ≠ S 490 (S 480 24 - 1) → S_p 488 k = S 488 k) (hat : S_p 488 (S 490 (S 480 24 - 1)) = S 480 18) : rxSt S0 S_p least := by
  obtain ⟨a1, a2, a3, a4, a5, a6, a7, a8, a9, a10⟩ := h
  have ht : ¬ 31 ≤ S 489 (S 480 24 - 1) := by
    rcases hj with q | q <;> omega
  refine ⟨rxPz_pop a1 hp h18 h24 h489 h490 (by rw [if_neg ht, h25]; omega), by omega, by omega, by omega, by omega, by omega, h489.trans a7, h490.trans a8, fun i g0 g1 => ?_, fun first f0 hw => ?_⟩
  · by_cases hi : i = S 480 24 - 1
    · rw [← a7, hi]
      exact hb
    · exact a9 i (by omega) g1
  · obtain ⟨w1, w2⟩ := a10 first f0 hw
    have hk : first ≤ S 490 (S 480 24 - 1) := by
      obtain ⟨d, b0, b1, b2, b3, b4, b5⟩ := w1
      exact (b4 (S 480 24 - 1) (by omega) (by omega) hj).1
    refine ⟨rxWz_patch w1 f0 hp h18 h24 h487 h489 h490 h488 hat hj rfl, fun k k0 k1 => ?_⟩
    rw [h487, h488 k (by omega)]
    exact w2 k k0 k1
theorem rxSt_op {S0 S S_p : Nat → Int → Int} {least : Int} (h : rxSt S0 S least) (hl : 1 ≤ least) (hp : 1 ≤ S 480 24) (hj : ¬ rxJmp (S 489 (S 480 24 - 1))) (hb : least ≤ rxBd (S 489 (S 480 24 - 1))) (h18 : S_p 480 18 = S 480 18 + 1) (h24 : S_p 480 24 = S 480 24 - 1) (h25 : S_p 480 25 = S 480 25) (h487 : ∀ k : Int, k ≠ S 480 18 → S_p 487 k = S 487 k) (h488 : ∀ k : Int, k ≠ S 480 18 → S_p 488 k = S 488 k) (h489 : S_p 489 = S 489) (h490 : S_p 490 = S 490)
    (hat : S_p 487 (S 480 18) = S 489 (S 480 24 - 1)) : rxSt S0 S_p least := by
  obtain ⟨a1, a2, a3, a4, a5, a6, a7, a8, a9, a10⟩ := h
  have ht : ¬ 31 ≤ S 489 (S 480 24 - 1) := by
    have := rxBd31 (v := S 489 (S 480 24 - 1)) (by omega)
    omega
  have h20 := a1.2.2.2 (S 480 24 - 1) (by omega) (by omega)
  have hm : rxPz (bx_up S 480 24 (S 480 24 - 1)) := rxPz_pop a1 hp (by simp [bx_up]) (by simp [bx_up]) (funext fun x => by simp [bx_up]) (funext fun x => by simp [bx_up]) (by rw [if_neg ht]; simp [bx_up])
  refine ⟨rxPz_emit hm (by simp [bx_up]; omega) (by simp [bx_up]; exact h24) (by simp [bx_up]; exact h25) (h489.trans (funext fun x => by simp [bx_up])) (h490.trans (funext fun x => by simp [bx_up])), by omega, by omega, by omega, by omega, by omega, h489.trans a7, h490.trans a8, fun i g0 g1 => ?_, fun first f0 hw => ?_⟩
  · by_cases hi : i = S 480 24 - 1
    · rw [← a7, hi]
      exact hb
    · exact a9 i (by omega) g1
  · obtain ⟨w1, w2⟩ := a10 first f0 hw
    have hfirst : first ≤ S 480 18 := by
      obtain ⟨d, b0, b1, -⟩ := w1
      exact b1
    have e18 : bx_up S 480 24 (S 480 24 - 1) 480 18 = S 480 18 := by simp [bx_up]
    have e24 : bx_up S 480 24 (S 480 24 - 1) 480 24 = S 480 24 - 1 := by simp [bx_up]
    have w3 := rxWz_pop (S_p := bx_up S 480 24 (S 480 24 - 1)) w1 f0 hp e18 e24 (funext fun x => by simp [bx_up]) (funext fun x => by simp [bx_up]) (funext fun x => by simp [bx_up]) (funext fun x => by simp [bx_up]) hj rfl
    have hnn := rxNb_nn (S := bx_up S 480 24 (S 480 24 - 1)) (n := S 480 24 - 1)
    have w4 := rxWz_emit (S_p := S_p) (c_p := 1) (op := S 489 (S 480 24 - 1)) w3 f0 (by rw [e18]; exact h18) (by rw [e24]; exact h24) (h489.trans (funext fun x => by simp [bx_up])) (h490.trans (funext fun x => by simp [bx_up])) (fun i hi => by rw [e18] at hi; rw [h487 i hi]; simp [bx_up]) (fun i hi => by rw [e18] at hi; rw [h488 i hi]; simp [bx_up]) (by rw [e18]; exact hat) (fun d q1 q2 => by
      rw [e24] at q1 q2
      unfold rxIok
      have n28 : S 489 (S 480 24 - 1) ≤ 28 := by
        by_cases q : S 489 (S 480 24 - 1) = 29
        · exact absurd (Or.inl q) hj
        · by_cases q_p : S 489 (S 480 24 - 1) = 30
          · exact absurd (Or.inr q_p) hj
          · omega
      refine ⟨fun q => by omega, fun q q_p => ?_, fun q => ?_, fun q => absurd q hj, by omega⟩
      · rw [if_pos ⟨q, q_p⟩] at q1
        omega
      · rw [if_neg (by omega)] at q1
        omega) (by split <;> omega) (by rw [e24]; omega)
    exact ⟨w4, fun k k0 k1 => by rw [h487 k (by omega), h488 k (by omega)]; exact w2 k k0 k1⟩
noncomputable def rxCST : bx_Ct := ([(3, (1, 480, 0)), (0, (0, 1, 6))], none, [(12, 18), (12, 24), (1068, 0), (1069, 0)], 1, [])
noncomputable def rxIST_0 (S0 : Nat → Int → Int) (ws : List Int) (S : Nat → Int → Int) (least : Int) : Prop := S = S0 ∧ ws = [480, least]
noncomputable def rxmST_0 (S0 : Nat → Int → Int) (ws : List Int) (S : Nat → Int → Int) (least : Int) : Nat := 100000
noncomputable def rxzST_0 : rx_Z := ([(0, 0), (0, 0), (0, 0), (0, 0), (0, 0), (0, 0), (0, 0), (0, 0), (1, 6)], [], [], 0, 0, 0, [(0, .inr (3, (0, 480))), (1, .inr (0, (8, 0)))], [])
noncomputable def rxIST_1 (S0 : Nat → Int → Int) (ws : List Int) (S : Nat → Int → Int) (least : Int) : Prop := ws = [480, least] ∧ rxSt S0 S least
noncomputable def rxmST_1 (S0 : Nat → Int → Int) (ws : List Int) (S : Nat → Int → Int) (least : Int) : Nat := 100 * (S 480 24).toNat + 50
noncomputable def rxzST_1 : rx_Z := ([(0, 0), (0, 0), (0, 0), (0, 0), (0, 0), (0, 0), (0, 0), (0, 0), (1, 6)], [], [], 0, 0, 0, [(0, .inr (3, (0, 480))), (1, .inr (0, (8, 0)))], [])
noncomputable def rxIST_2 (S0 : Nat → Int → Int) (ws : List Int) (S : Nat → Int → Int) (least p : Int) : Prop := p = S 480 24 ∧ ws = [480, least] ∧ rxSt S0 S least ∧ 1 ≤ S 480 24 ∧ least ≤ rxBd (S 489 (S 480 24 - 1))
noncomputable def rxmST_2 (S0 : Nat → Int → Int) (ws : List Int) (S : Nat → Int → Int) (least p : Int) : Nat := 100 * (S 480 24).toNat + 40
noncomputable def rxzST_2 : rx_Z := ([(0, 0), (0, 0), (0, 0), (0, 0), (0, 0), (0, 0), (0, 0), (0, 0), (1, 6), (1, 400)], [], [(((0, 480), 24), .inr (0, (9, 0)))], 0, 0, 25, [(0, .inr (3, (0, 480))), (1, .inr (0, (8, 0)))], [])
noncomputable def rxIST_3 (S0 : Nat → Int → Int) (ws : List Int) (S : Nat → Int → Int) (least y n : Int) : Prop := ∃ S1 : Nat → Int → Int, rxSt S0 S1 least ∧ ws = [480, least] ∧ 1 ≤ S1 480 24 ∧ S = bx_up S1 480 24 (S1 480 24 - 1) ∧ least ≤ rxBd (S1 489 (S1 480 24 - 1)) ∧ rxJmp (S1 489 (S1 480 24 - 1)) ∧ y = S1 490 (S1 480 24 - 1) ∧ n = S1 480 18
noncomputable def rxmST_3 (S0 : Nat → Int → Int) (ws : List Int) (S : Nat → Int → Int) (least y n : Int) : Nat := 100 * (S 480 24).toNat + 60
noncomputable def rxzST_3 : rx_Z := ([(0, 0), (0, 0), (0, 0), (0, 0), (0, 0), (0, 0), (0, 0), (0, 0), (1, 6), (0, 399), (0, 400)], [], [], 0, 0, 80, [(0, .inr (3, (0, 480))), (1, .inr (0, (8, 0)))], [.inr (0, (10, 0)), .inr (0, (9, 0)), .inr (3, (0, 488))])
noncomputable def rxIST_4 (S0 : Nat → Int → Int) (ws : List Int) (S : Nat → Int → Int) (least op : Int) : Prop := ∃ S1 : Nat → Int → Int, rxSt S0 S1 least ∧ ws = [480, least] ∧ 1 ≤ S1 480 24 ∧ S = bx_up S1 480 24 (S1 480 24 - 1) ∧ least ≤ rxBd (S1 489 (S1 480 24 - 1)) ∧ ¬ rxJmp (S1 489 (S1 480 24 - 1)) ∧ op = S1 489 (S1 480 24 - 1)
noncomputable def rxmST_4 (S0 : Nat → Int → Int) (ws : List Int) (S : Nat → Int → Int) (least op : Int) : Nat := 100 * (S 480 24).toNat + 60
noncomputable def rxzST_4 : rx_Z := ([(0, 0), (0, 0), (0, 0), (0, 0), (0, 0), (0, 0), (0, 0), (0, 0), (1, 6), (0, 30)], [], [], 0, 0, 95, [(0, .inr (3, (0, 480))), (1, .inr (0, (8, 0)))], [.inr (0, (0, 0)), .inr (0, (9, 0)), .inr (3, (0, 480))])
noncomputable def rxIST_5 (S0 : Nat → Int → Int) (ws : List Int) (S : Nat → Int → Int) (least op : Int) : Prop := ws = [480, least] ∧ rxSt S0 S least
noncomputable def rxmST_5 (S0 : Nat → Int → Int) (ws : List Int) (S : Nat → Int → Int) (least op : Int) : Nat := 100 * (S 480 24).toNat + 55
noncomputable def rxzST_5 : rx_Z := ([(0, 0), (0, 0), (0, 0), (0, 0), (0, 0), (0, 0), (0, 0), (0, 0), (1, 6), (0, 30)], [], [], 0, 0, 98, [(0, .inr (3, (0, 480))), (1, .inr (0, (8, 0)))], [])
noncomputable def rxoST_0_0 : bx_HO := (([(0, 0), (0, 0), (0, 0), (0, 0), (0, 0), (0, 0), (0, 0), (0, 0), (1, 5), (1, 400), (0, 21)], [(3, (10, 0), (0, 28)), (3, (10, 0), (0, 29)), (3, (10, 0), (0, 30))], [(((0, 0), 1851192626986356797223661186461964305852737083915409897513091072000000), .inr (0, (10, 0))), (((0, 480), 22), .inr (3, (0, 489))), (((0, 0), 1851192626986356802241301293259633916682733161918089263128248320000000), .inr (0, (9, 0))), (((0, 480), 24), .inr (0, (9, 0)))], 0, 0, 25, [(0, .inr (3, (0, 480))), (1, .inr (0, (8, 0)))], []), [], [], [(0, 0), (0, 0), (0, 0), (0, 0), (0, 0), (0, 0), (0, 0), (0, 0), (8, 0), (9, 0)], 2)
noncomputable def rxoST_0_1 : bx_HO := (([(0, 0), (0, 0), (0, 0), (0, 0), (0, 0), (0, 0), (0, 0), (0, 0), (1, 6), (1, 400), (22, 24)], [(3, (10, 0), (0, 28)), (3, (10, 0), (0, 29)), (3, (10, 0), (0, 30))], [(((0, 0), 1851192626986356797223661186461964305852737083915409897513091072000000), .inr (0, (10, 0))), (((0, 480), 22), .inr (3, (0, 489))), (((0, 0), 1851192626986356802241301293259633916682733161918089263128248320000000), .inr (0, (9, 0))), (((0, 480), 24), .inr (0, (9, 0)))], 0, 0, 25, [(0, .inr (3, (0, 480))), (1, .inr (0, (8, 0)))], []), [], [], [(0, 0), (0, 0), (0, 0), (0, 0), (0, 0), (0, 0), (0, 0), (0, 0), (8, 0), (9, 0)], 2)
noncomputable def rxoST_0_2 : bx_HO := (([(0, 0), (0, 0), (0, 0), (0, 0), (0, 0), (0, 0), (0, 0), (0, 0), (1, 4), (1, 400), (25, 27)], [(3, (10, 0), (0, 28)), (3, (10, 0), (0, 29)), (3, (10, 0), (0, 30))], [(((0, 0), 1851192626986356797223661186461964305852737083915409897513091072000000), .inr (0, (10, 0))), (((0, 480), 22), .inr (3, (0, 489))), (((0, 0), 1851192626986356802241301293259633916682733161918089263128248320000000), .inr (0, (9, 0))), (((0, 480), 24), .inr (0, (9, 0)))], 0, 0, 25, [(0, .inr (3, (0, 480))), (1, .inr (0, (8, 0)))], []), [], [], [(0, 0), (0, 0), (0, 0), (0, 0), (0, 0), (0, 0), (0, 0), (0, 0), (8, 0), (9, 0)], 2)
noncomputable def rxoST_0_3 : bx_HO := (([(0, 0), (0, 0), (0, 0), (0, 0), (0, 0), (0, 0), (0, 0), (0, 0), (1, 3), (1, 400), (28, 28)], [(3, (10, 0), (0, 29)), (3, (10, 0), (0, 30))], [(((0, 0), 1851192626986356797223661186461964305852737083915409897513091072000000), .inr (0, (10, 0))), (((0, 480), 22), .inr (3, (0, 489))), (((0, 0), 1851192626986356802241301293259633916682733161918089263128248320000000), .inr (0, (9, 0))), (((0, 480), 24), .inr (0, (9, 0)))], 0, 0, 25, [(0, .inr (3, (0, 480))), (1, .inr (0, (8, 0)))], []), [], [], [(0, 0), (0, 0), (0, 0), (0, 0), (0, 0), (0, 0), (0, 0), (0, 0), (8, 0), (9, 0)], 2)
noncomputable def rxoST_0_4 : bx_HO := (([(0, 0), (0, 0), (0, 0), (0, 0), (0, 0), (0, 0), (0, 0), (0, 0), (1, 2), (1, 400), (29, 29)], [(3, (10, 0), (0, 30))], [(((0, 0), 1851192626986356797223661186461964305852737083915409897513091072000000), .inr (0, (10, 0))), (((0, 480), 22), .inr (3, (0, 489))), (((0, 0), 1851192626986356802241301293259633916682733161918089263128248320000000), .inr (0, (9, 0))), (((0, 480), 24), .inr (0, (9, 0)))], 0, 0, 25, [(0, .inr (3, (0, 480))), (1, .inr (0, (8, 0)))], []), [], [], [(0, 0), (0, 0), (0, 0), (0, 0), (0, 0), (0, 0), (0, 0), (0, 0), (8, 0), (9, 0)], 2)
noncomputable def rxoST_0_5 : bx_HO := (([(0, 0), (0, 0), (0, 0), (0, 0), (0, 0), (0, 0), (0, 0), (0, 0), (1, 1), (1, 400), (30, 30)], [], [(((0, 0), 1851192626986356797223661186461964305852737083915409897513091072000000), .inr (0, (10, 0))), (((0, 480), 22), .inr (3, (0, 489))), (((0, 0), 1851192626986356802241301293259633916682733161918089263128248320000000), .inr (0, (9, 0))), (((0, 480), 24), .inr (0, (9, 0)))], 0, 0, 25, [(0, .inr (3, (0, 480))), (1, .inr (0, (8, 0)))], []), [], [], [(0, 0), (0, 0), (0, 0), (0, 0), (0, 0), (0, 0), (0, 0), (0, 0), (8, 0), (9, 0)], 2)
noncomputable def rxeST_0_0 : rx_End × List (Nat × Int × Int) := (([(0, 0), (0, 0), (0, 0), (0, 0), (0, 0), (0, 0), (0, 0), (0, 0), (6, 6), (1, 400), (0, 21)], [(3, (10, 0), (0, 28)), (3, (10, 0), (0, 29)), (3, (10, 0), (0, 30))], [(((0, 0), 1851192626986356797223661186461964305852737083915409897513091072000000), .inr (0, (10, 0))), (((0, 480), 22), .inr (3, (0, 489))), (((0, 0), 1851192626986356802241301293259633916682733161918089263128248320000000), .inr (0, (9, 0))), (((0, 480), 24), .inr (0, (9, 0)))], none), [])
noncomputable def rxeST_0_1 : rx_End × List (Nat × Int × Int) := (([(0, 0), (0, 0), (0, 0), (0, 0), (0, 0), (0, 0), (0, 0), (0, 0), (5, 6), (1, 400), (25, 27)], [(3, (10, 0), (0, 28)), (3, (10, 0), (0, 29)), (3, (10, 0), (0, 30))], [(((0, 0), 1851192626986356797223661186461964305852737083915409897513091072000000), .inr (0, (10, 0))), (((0, 480), 22), .inr (3, (0, 489))), (((0, 0), 1851192626986356802241301293259633916682733161918089263128248320000000), .inr (0, (9, 0))), (((0, 480), 24), .inr (0, (9, 0)))], none), [])
noncomputable def rxeST_0_2 : rx_End × List (Nat × Int × Int) := (([(0, 0), (0, 0), (0, 0), (0, 0), (0, 0), (0, 0), (0, 0), (0, 0), (4, 6), (1, 400), (28, 28)], [(3, (10, 0), (0, 29)), (3, (10, 0), (0, 30))], [(((0, 0), 1851192626986356797223661186461964305852737083915409897513091072000000), .inr (0, (10, 0))), (((0, 480), 22), .inr (3, (0, 489))), (((0, 0), 1851192626986356802241301293259633916682733161918089263128248320000000), .inr (0, (9, 0))), (((0, 480), 24), .inr (0, (9, 0)))], none), [])
noncomputable def rxeST_0_3 : rx_End × List (Nat × Int × Int) := (([(0, 0), (0, 0), (0, 0), (0, 0), (0, 0), (0, 0), (0, 0), (0, 0), (3, 6), (1, 400), (29, 29)], [(3, (10, 0), (0, 30))], [(((0, 0), 1851192626986356797223661186461964305852737083915409897513091072000000), .inr (0, (10, 0))), (((0, 480), 22), .inr (3, (0, 489))), (((0, 0), 1851192626986356802241301293259633916682733161918089263128248320000000), .inr (0, (9, 0))), (((0, 480), 24), .inr (0, (9, 0)))], none), [])
noncomputable def rxeST_0_4 : rx_End × List (Nat × Int × Int) := (([(0, 0), (0, 0), (0, 0), (0, 0), (0, 0), (0, 0), (0, 0), (0, 0), (2, 6), (1, 400), (30, 30)], [], [(((0, 0), 1851192626986356797223661186461964305852737083915409897513091072000000), .inr (0, (10, 0))), (((0, 480), 22), .inr (3, (0, 489))), (((0, 0), 1851192626986356802241301293259633916682733161918089263128248320000000), .inr (0, (9, 0))), (((0, 480), 24), .inr (0, (9, 0)))], none), [])
noncomputable def rxeST_0_5 : rx_End × List (Nat × Int × Int) := (([(0, 0), (0, 0), (0, 0), (0, 0), (0, 0), (0, 0), (0, 0), (0, 0), (1, 6), (1, 400), (31, 32)], [], [(((0, 0), 1851192626986356797223661186461964305852737083915409897513091072000000), .inr (0, (10, 0))), (((0, 480), 22), .inr (3, (0, 489))), (((0, 0), 1851192626986356802241301293259633916682733161918089263128248320000000), .inr (0, (9, 0))), (((0, 480), 24), .inr (0, (9, 0)))], none), [])
noncomputable def rxeST_0_6 : rx_End × List (Nat × Int × Int) := (([(0, 0), (0, 0), (0, 0), (0, 0), (0, 0), (0, 0), (0, 0), (0, 0), (1, 6), (0, 0)], [], [(((0, 0), 1851192626986356802241301293259633916682733161918089263128248320000000), .inr (0, (9, 0))), (((0, 480), 24), .inr (0, (9, 0)))], none), [])
noncomputable def rxoST_1_0 : bx_HO := (([(0, 0), (0, 0), (0, 0), (0, 0), (0, 0), (0, 0), (0, 0), (0, 0), (1, 5), (1, 400), (0, 21)], [(3, (10, 0), (0, 28)), (3, (10, 0), (0, 29)), (3, (10, 0), (0, 30))], [(((0, 0), 1851192626986356797223661186461964305852737083915409897513091072000000), .inr (0, (10, 0))), (((0, 480), 22), .inr (3, (0, 489))), (((0, 0), 1851192626986356802241301293259633916682733161918089263128248320000000), .inr (0, (9, 0))), (((0, 480), 24), .inr (0, (9, 0)))], 0, 0, 25, [(0, .inr (3, (0, 480))), (1, .inr (0, (8, 0)))], []), [], [], [(0, 0), (0, 0), (0, 0), (0, 0), (0, 0), (0, 0), (0, 0), (0, 0), (8, 0), (9, 0)], 2)
noncomputable def rxoST_1_1 : bx_HO := (([(0, 0), (0, 0), (0, 0), (0, 0), (0, 0), (0, 0), (0, 0), (0, 0), (1, 6), (1, 400), (22, 24)], [(3, (10, 0), (0, 28)), (3, (10, 0), (0, 29)), (3, (10, 0), (0, 30))], [(((0, 0), 1851192626986356797223661186461964305852737083915409897513091072000000), .inr (0, (10, 0))), (((0, 480), 22), .inr (3, (0, 489))), (((0, 0), 1851192626986356802241301293259633916682733161918089263128248320000000), .inr (0, (9, 0))), (((0, 480), 24), .inr (0, (9, 0)))], 0, 0, 25, [(0, .inr (3, (0, 480))), (1, .inr (0, (8, 0)))], []), [], [], [(0, 0), (0, 0), (0, 0), (0, 0), (0, 0), (0, 0), (0, 0), (0, 0), (8, 0), (9, 0)], 2)
noncomputable def rxoST_1_2 : bx_HO := (([(0, 0), (0, 0), (0, 0), (0, 0), (0, 0), (0, 0), (0, 0), (0, 0), (1, 4), (1, 400), (25, 27)], [(3, (10, 0), (0, 28)), (3, (10, 0), (0, 29)), (3, (10, 0), (0, 30))], [(((0, 0), 1851192626986356797223661186461964305852737083915409897513091072000000), .inr (0, (10, 0))), (((0, 480), 22), .inr (3, (0, 489))), (((0, 0), 1851192626986356802241301293259633916682733161918089263128248320000000), .inr (0, (9, 0))), (((0, 480), 24), .inr (0, (9, 0)))], 0, 0, 25, [(0, .inr (3, (0, 480))), (1, .inr (0, (8, 0)))], []), [], [], [(0, 0), (0, 0), (0, 0), (0, 0), (0, 0), (0, 0), (0, 0), (0, 0), (8, 0), (9, 0)], 2)
noncomputable def rxoST_1_3 : bx_HO := (([(0, 0), (0, 0), (0, 0), (0, 0), (0, 0), (0, 0), (0, 0), (0, 0), (1, 3), (1, 400), (28, 28)], [(3, (10, 0), (0, 29)), (3, (10, 0), (0, 30))], [(((0, 0), 1851192626986356797223661186461964305852737083915409897513091072000000), .inr (0, (10, 0))), (((0, 480), 22), .inr (3, (0, 489))), (((0, 0), 1851192626986356802241301293259633916682733161918089263128248320000000), .inr (0, (9, 0))), (((0, 480), 24), .inr (0, (9, 0)))], 0, 0, 25, [(0, .inr (3, (0, 480))), (1, .inr (0, (8, 0)))], []), [], [], [(0, 0), (0, 0), (0, 0), (0, 0), (0, 0), (0, 0), (0, 0), (0, 0), (8, 0), (9, 0)], 2)
noncomputable def rxoST_1_4 : bx_HO := (([(0, 0), (0, 0), (0, 0), (0, 0), (0, 0), (0, 0), (0, 0), (0, 0), (1, 2), (1, 400), (29, 29)], [(3, (10, 0), (0, 30))], [(((0, 0), 1851192626986356797223661186461964305852737083915409897513091072000000), .inr (0, (10, 0))), (((0, 480), 22), .inr (3, (0, 489))), (((0, 0), 1851192626986356802241301293259633916682733161918089263128248320000000), .inr (0, (9, 0))), (((0, 480), 24), .inr (0, (9, 0)))], 0, 0, 25, [(0, .inr (3, (0, 480))), (1, .inr (0, (8, 0)))], []), [], [], [(0, 0), (0, 0), (0, 0), (0, 0), (0, 0), (0, 0), (0, 0), (0, 0), (8, 0), (9, 0)], 2)
noncomputable def rxoST_1_5 : bx_HO := (([(0, 0), (0, 0), (0, 0), (0, 0), (0, 0), (0, 0), (0, 0), (0, 0), (1, 1), (1, 400), (30, 30)], [], [(((0, 0), 1851192626986356797223661186461964305852737083915409897513091072000000), .inr (0, (10, 0))), (((0, 480), 22), .inr (3, (0, 489))), (((0, 0), 1851192626986356802241301293259633916682733161918089263128248320000000), .inr (0, (9, 0))), (((0, 480), 24), .inr (0, (9, 0)))], 0, 0, 25, [(0, .inr (3, (0, 480))), (1, .inr (0, (8, 0)))], []), [], [], [(0, 0), (0, 0), (0, 0), (0, 0), (0, 0), (0, 0), (0, 0), (0, 0), (8, 0), (9, 0)], 2)
noncomputable def rxeST_1_0 : rx_End × List (Nat × Int × Int) := (([(0, 0), (0, 0), (0, 0), (0, 0), (0, 0), (0, 0), (0, 0), (0, 0), (6, 6), (1, 400), (0, 21)], [(3, (10, 0), (0, 28)), (3, (10, 0), (0, 29)), (3, (10, 0), (0, 30))], [(((0, 0), 1851192626986356797223661186461964305852737083915409897513091072000000), .inr (0, (10, 0))), (((0, 480), 22), .inr (3, (0, 489))), (((0, 0), 1851192626986356802241301293259633916682733161918089263128248320000000), .inr (0, (9, 0))), (((0, 480), 24), .inr (0, (9, 0)))], none), [])
noncomputable def rxeST_1_1 : rx_End × List (Nat × Int × Int) := (([(0, 0), (0, 0), (0, 0), (0, 0), (0, 0), (0, 0), (0, 0), (0, 0), (5, 6), (1, 400), (25, 27)], [(3, (10, 0), (0, 28)), (3, (10, 0), (0, 29)), (3, (10, 0), (0, 30))], [(((0, 0), 1851192626986356797223661186461964305852737083915409897513091072000000), .inr (0, (10, 0))), (((0, 480), 22), .inr (3, (0, 489))), (((0, 0), 1851192626986356802241301293259633916682733161918089263128248320000000), .inr (0, (9, 0))), (((0, 480), 24), .inr (0, (9, 0)))], none), [])
noncomputable def rxeST_1_2 : rx_End × List (Nat × Int × Int) := (([(0, 0), (0, 0), (0, 0), (0, 0), (0, 0), (0, 0), (0, 0), (0, 0), (4, 6), (1, 400), (28, 28)], [(3, (10, 0), (0, 29)), (3, (10, 0), (0, 30))], [(((0, 0), 1851192626986356797223661186461964305852737083915409897513091072000000), .inr (0, (10, 0))), (((0, 480), 22), .inr (3, (0, 489))), (((0, 0), 1851192626986356802241301293259633916682733161918089263128248320000000), .inr (0, (9, 0))), (((0, 480), 24), .inr (0, (9, 0)))], none), [])
noncomputable def rxeST_1_3 : rx_End × List (Nat × Int × Int) := (([(0, 0), (0, 0), (0, 0), (0, 0), (0, 0), (0, 0), (0, 0), (0, 0), (3, 6), (1, 400), (29, 29)], [(3, (10, 0), (0, 30))], [(((0, 0), 1851192626986356797223661186461964305852737083915409897513091072000000), .inr (0, (10, 0))), (((0, 480), 22), .inr (3, (0, 489))), (((0, 0), 1851192626986356802241301293259633916682733161918089263128248320000000), .inr (0, (9, 0))), (((0, 480), 24), .inr (0, (9, 0)))], none), [])
noncomputable def rxeST_1_4 : rx_End × List (Nat × Int × Int) := (([(0, 0), (0, 0), (0, 0), (0, 0), (0, 0), (0, 0), (0, 0), (0, 0), (2, 6), (1, 400), (30, 30)], [], [(((0, 0), 1851192626986356797223661186461964305852737083915409897513091072000000), .inr (0, (10, 0))), (((0, 480), 22), .inr (3, (0, 489))), (((0, 0), 1851192626986356802241301293259633916682733161918089263128248320000000), .inr (0, (9, 0))), (((0, 480), 24), .inr (0, (9, 0)))], none), [])
noncomputable def rxeST_1_5 : rx_End × List (Nat × Int × Int) := (([(0, 0), (0, 0), (0, 0), (0, 0), (0, 0), (0, 0), (0, 0), (0, 0), (1, 6), (1, 400), (31, 32)], [], [(((0, 0), 1851192626986356797223661186461964305852737083915409897513091072000000), .inr (0, (10, 0))), (((0, 480), 22), .inr (3, (0, 489))), (((0, 0), 1851192626986356802241301293259633916682733161918089263128248320000000), .inr (0, (9, 0))), (((0, 480), 24), .inr (0, (9, 0)))], none), [])
noncomputable def rxeST_1_6 : rx_End × List (Nat × Int × Int) := (([(0, 0), (0, 0), (0, 0), (0, 0), (0, 0), (0, 0), (0, 0), (0, 0), (1, 6), (0, 0)], [], [(((0, 0), 1851192626986356802241301293259633916682733161918089263128248320000000), .inr (0, (9, 0))), (((0, 480), 24), .inr (0, (9, 0)))], none), [])
noncomputable def rxoST_2_0 : bx_HO := (([(0, 0), (0, 0), (0, 0), (0, 0), (0, 0), (0, 0), (0, 0), (0, 0), (1, 6), (1, 400), (0, 32), (30, 30), (0, 400), (0, 400)], [(3, (10, 0), (0, 29))], [(((0, 0), 1851192626986356801037061052538980267039804375195077741805305856000000), .inr (0, (13, 0))), (((0, 480), 18), .inr (0, (13, 0))), (((0, 0), 1851192626986356797223661186461964305852737083915409897513680896000000), .inr (0, (12, 0))), (((0, 480), 23), .inr (3, (0, 490))), (((0, 480), 20), .inr (3, (0, 488))), (((0, 0), 1851192626986356797223661186461964305852737083915409897513091072000000), .inr (0, (11, 0))), (((0, 0), 1851192626986356797223661186461964305852737083915409897513091072000000), .inr (0, (10, 0))), (((0, 480), 22), .inr (3, (0, 489))), (((0, 0), 1851192626986356802241301293259633916682733161918089263128248323000000), .inr (0, (9, (-1)))), (((0, 480), 24), .inr (0, (9, (-1))))], 0, 0, 80, [(0, .inr (3, (0, 480))), (1, .inr (0, (8, 0)))], [.inr (0, (13, 0)), .inr (0, (12, 0)), .inr (3, (0, 488))]), [(12, 0, 399)], [], [(0, 0), (0, 0), (0, 0), (0, 0), (0, 0), (0, 0), (0, 0), (0, 0), (8, 0), (12, 0), (13, 0)], 3)
noncomputable def rxoST_2_1 : bx_HO := (([(0, 0), (0, 0), (0, 0), (0, 0), (0, 0), (0, 0), (0, 0), (0, 0), (1, 6), (1, 400), (0, 32), (0, 32), (0, 32)], [(3, (11, 0), (0, 30)), (3, (10, 0), (0, 29))], [(((0, 0), 1851192626986356797223661186461964305852737083915409897513091072000000), .inr (0, (12, 0))), (((0, 0), 1851192626986356797223661186461964305852737083915409897513091072000000), .inr (0, (11, 0))), (((0, 0), 1851192626986356797223661186461964305852737083915409897513091072000000), .inr (0, (10, 0))), (((0, 480), 22), .inr (3, (0, 489))), (((0, 0), 1851192626986356802241301293259633916682733161918089263128248323000000), .inr (0, (9, (-1)))), (((0, 480), 24), .inr (0, (9, (-1))))], 0, 0, 95, [(0, .inr (3, (0, 480))), (1, .inr (0, (8, 0)))], [.inr (0, (0, 0)), .inr (0, (12, 0)), .inr (3, (0, 480))]), [(12, 0, 30)], [], [(0, 0), (0, 0), (0, 0), (0, 0), (0, 0), (0, 0), (0, 0), (0, 0), (8, 0), (12, 0)], 4)
noncomputable def rxoST_2_2 : bx_HO := (([(0, 0), (0, 0), (0, 0), (0, 0), (0, 0), (0, 0), (0, 0), (0, 0), (1, 6), (1, 400), (29, 29), (0, 400), (0, 400)], [], [(((0, 0), 1851192626986356801037061052538980267039804375195077741805305856000000), .inr (0, (12, 0))), (((0, 480), 18), .inr (0, (12, 0))), (((0, 0), 1851192626986356797223661186461964305852737083915409897513680896000000), .inr (0, (11, 0))), (((0, 480), 23), .inr (3, (0, 490))), (((0, 480), 20), .inr (3, (0, 488))), (((0, 0), 1851192626986356797223661186461964305852737083915409897513091072000000), .inr (0, (10, 0))), (((0, 480), 22), .inr (3, (0, 489))), (((0, 0), 1851192626986356802241301293259633916682733161918089263128248323000000), .inr (0, (9, (-1)))), (((0, 480), 24), .inr (0, (9, (-1))))], 0, 0, 80, [(0, .inr (3, (0, 480))), (1, .inr (0, (8, 0)))], [.inr (0, (12, 0)), .inr (0, (11, 0)), .inr (3, (0, 488))]), [(11, 0, 399)], [], [(0, 0), (0, 0), (0, 0), (0, 0), (0, 0), (0, 0), (0, 0), (0, 0), (8, 0), (11, 0), (12, 0)], 3)
noncomputable def rxoST_3_0 : bx_HO := (([(0, 0), (0, 0), (0, 0), (0, 0), (0, 0), (0, 0), (0, 0), (0, 0), (1, 6), (0, 399), (0, 400)], [], [(((0, 0), 1851192626986356797424367893248739914126558548369245151066324995000000), .inr (0, (10, 0)))], 0, 0, 0, [(0, .inr (3, (0, 480))), (1, .inr (0, (8, 0)))], []), [], [], [(0, 0), (0, 0), (0, 0), (0, 0), (0, 0), (0, 0), (0, 0), (0, 0), (8, 0)], 1)
noncomputable def rxoST_5_0 : bx_HO := (([(0, 0), (0, 0), (0, 0), (0, 0), (0, 0), (0, 0), (0, 0), (0, 0), (1, 6), (0, 30)], [], [], 0, 0, 0, [(0, .inr (3, (0, 480))), (1, .inr (0, (8, 0)))], []), [], [], [(0, 0), (0, 0), (0, 0), (0, 0), (0, 0), (0, 0), (0, 0), (0, 0), (8, 0)], 1)
noncomputable def rxYST : List bx_HE := [(rxzST_0, [rxoST_0_0, rxoST_0_1, rxoST_0_2, rxoST_0_3, rxoST_0_4, rxoST_0_5], [rxeST_0_0, rxeST_0_1, rxeST_0_2, rxeST_0_3, rxeST_0_4, rxeST_0_5, rxeST_0_6]), (rxzST_1, [rxoST_1_0, rxoST_1_1, rxoST_1_2, rxoST_1_3, rxoST_1_4, rxoST_1_5], [rxeST_1_0, rxeST_1_1, rxeST_1_2, rxeST_1_3, rxeST_1_4, rxeST_1_5, rxeST_1_6]), (rxzST_2, [rxoST_2_0, rxoST_2_1, rxoST_2_2], []), (rxzST_3, [rxoST_3_0], []), (rxzST_4, [], []), (rxzST_5, [rxoST_5_0], [])]
noncomputable def rxUST (q : bx_HE) : Bool := Nat.beq (rx_zpc q.1) 95
noncomputable def rxYBST : bx_B := (rxV, rxNP, rxDmf, bx_mdH rxCST.2.2.1)
set_option maxRecDepth 100000 in
theorem rxYcST : bx_chkH rxYBST rxM275 rxCST rxYST (rxUST, fun cut z => rx_ex2 (rxCT rxYBST rxCnE) cut 30000 rxCST.2.2.2.1 275 z) = true := by decide +kernel
noncomputable def rxIST (S0 : Nat → Int → Int) (ws : List Int) (i : Nat) : bx_SP := fun S r => match i with | 0 => rxIST_0 S0 ws S (r 8) | 1 => rxIST_1 S0 ws S (r 8) | 2 => rxIST_2 S0 ws S (r 8) (r 9) | 3 => rxIST_3 S0 ws S (r 8) (r 9) (r 10) | 4 => rxIST_4 S0 ws S (r 8) (r 9) | 5 => rxIST_5 S0 ws S (r 8) (r 9) | _ => False
noncomputable def rxmST (S0 : Nat → Int → Int) (ws : List Int) (i : Nat) (S : Nat → Int → Int) (r : Nat → Int) : Nat := match i with | 0 => rxmST_0 S0 ws S (r 8) | 1 => rxmST_1 S0 ws S (r 8) | 2 => rxmST_2 S0 ws S (r 8) (r 9) | 3 => rxmST_3 S0 ws S (r 8) (r 9) (r 10) | 4 => rxmST_4 S0 ws S (r 8) (r 9) | 5 => rxmST_5 S0 ws S (r 8) (r 9) | _ => 0
noncomputable def rxPST (S0 : Nat → Int → Int) (ws : List Int) : Prop := rxPz S0 ∧ 0 ≤ S0 480 24 ∧ S0 480 18 + S0 480 24 ≤ 400
noncomputable def rxPSST (S0 : Nat → Int → Int) (ws : List Int) (S : Nat → Int → Int) (w : Option Int) : Prop := w = none ∧ ∃ least : Int, ws = [480, least] ∧ rxSt S0 S least ∧ (S 480 24 = 0 ∨ rxBd (S 489 (S 480 24 - 1)) < least)
theorem rxkST_4 {S0 : Nat → Int → Int} {ws : List Int} {S : Nat → Int → Int} {least op : Int} (hP : rxPST S0 ws) (hin : bx_same rxL (bx_mdl rxCST.2.2.1) S0 S) (I0 : bx_Inv rxL S) (hinv : rxIST_4 S0 ws S least op) (l8 : 1 ≤ least) (u8 : least ≤ 6) (l9 : 0 ≤ op) (u9 : op ≤ 30) : rxPEM S [480, op, 0] ∧ ∀ (S_p : Nat → Int → Int), rxPSEM S [480, op, 0] S_p none → bx_Inv rxL S_p → bx_same rxL (bx_mdl rxCEM.2.2.1) S S_p → rxIST_5 S0 ws S_p least op ∧ rxmST_5 S0 ws S_p least op < rxmST_4 S0 ws S least op := by
  obtain ⟨S1, hs, hw, h1, rfl, hb, hj, rfl⟩ := hinv
  have hle := hs.2.2.2.2.1
  have hP2 := hP.2.2
  have e18 : bx_up S1 480 24 (S1 480 24 - 1) 480 18 = S1 480 18 := by simp [bx_up]
  refine ⟨by show bx_up S1 480 24 (S1 480 24 - 1) 480 18 ≤ 399; omega, fun S_p hq I1 hsm => ?_⟩
  obtain ⟨-, op_p, arg_p, hw2, rfl⟩ := hq
  have ho : S1 489 (S1 480 24 - 1) = op_p := Option.some.inj (congrArg (fun l => l[1]?) hw2)
  rw [e18]
  refine ⟨⟨hw, rxSt_op hs l8 h1 hj hb (by simp [bx_up]) (by simp [bx_up]) (by simp [bx_up]) (fun k hk => ?_) (fun k hk => ?_) (funext fun x => by simp [bx_up]) (funext fun x => by simp [bx_up]) ?_⟩, ?_⟩
  · simp [bx_up, hk]
  · simp [bx_up, hk]
  · simp [bx_up, ho]
  · unfold rxmST_4 rxmST_5
    simp [bx_up]
theorem rxsST_4 {X : (Nat → Int → Int) → Prop} {S0 : Nat → Int → Int} {ws : List Int} (hP : rxPST S0 ws) : rx_obK X S0 rxCST.2.2.1 rxCEM.2.2.1 (rxIST S0 ws) (rxmST S0 ws) 4 5 rxzST_4 rxzST_5 [.inr (3, (0, 480)), .inr (0, (9, 0)), .inr (0, (0, 0))] none rxPEM rxPSEM := by
  intro S r hinv hXS I0 hin hs_ hf_
  have b_ := bx_bds_sat hs_
  have f_ := bx_fcl_ok hs_.1 hf_
  obtain ⟨⟨l8, u8⟩, ⟨l9, u9⟩, -⟩ := b_
  have g := rxkST_4 hP hin I0 hinv l8 u8 l9 u9
  have ea : List.map (bx_num r) [.inr (3, (0, 480)), .inr (0, (9, 0)), .inr (0, (0, 0))] = [480, (r 9), 0] := by
    simp only [List.map_cons, List.map_nil, bx_xv_ok hs_.1]
    rfl
  rw [ea]
  refine ⟨g.1, fun S_p w r_p hPS hX_p I1 hsm hr hw hs_p => ?_⟩
  have hw : w = none := hPS.1
  subst hw
  have g2 := g.2 S_p hPS I1 hsm
  show rxIST_5 S0 ws S_p (r_p 8) (r_p 9) ∧ rxmST_5 S0 ws S_p (r_p 8) (r_p 9) < _
  rw [hr 8 (by decide), hr 9 (by decide)]
  exact g2
theorem rxcST_0_0 {S0 : Nat → Int → Int} {ws : List Int} {S : Nat → Int → Int} {least x9 x10 : Int} (hP : rxPST S0 ws) (hin : bx_same rxL (bx_mdl rxCST.2.2.1) S0 S) (I0 : bx_Inv rxL S) (hinv : rxIST_0 S0 ws S least) (l8 : 1 ≤ least) (u8 : least ≤ 5) (l9 : 1 ≤ x9) (u9 : x9 ≤ 400) (l10 : 0 ≤ x10) (u10 : x10 ≤ 21) (f0 : x10 ≠ 28) (f1 : x10 ≠ 29) (f2 : x10 ≠ 30) (e1 : S 480 24 = x9) (e0 : S 489 (x9 + (-1)) = x10) : (True) ∧ (True) ∧ rxIST_2 S0 ws S least x9 ∧ rxmST_2 S0 ws S least x9 < rxmST_0 S0 ws S least := by
  obtain ⟨rfl, hw⟩ := hinv
  have hs := rxSt_rf (least := least) hP.1 hP.2.1
  have ht : S 489 (S 480 24 - 1) = x10 := by rw [e1, show x9 - 1 = x9 + (-1) by omega]; exact e0
  have hc := rxBd_cases x10
  exact ⟨trivial, trivial, ⟨by omega, hw, hs, by omega, by rw [ht]; omega⟩, by unfold rxmST_0 rxmST_2; omega⟩
theorem rxgST_0_0 {X : (Nat → Int → Int) → Prop} {S0 : Nat → Int → Int} {ws : List Int} (hP : rxPST S0 ws) : bx_obC rxL X S0 rxCST.2.2.1 (rxIST S0 ws) (rxmST S0 ws) 0 rxzST_0 rxoST_0_0 := by
  intro S S_p r r_p hinv hX hin hsm_ hseg
  obtain ⟨I0, I1, h0_, hr_, b_, f_, d_⟩ := bx_cl (evs := [(0, (0, 489), (9, (-1)), .inr (0, (10, 0))), (0, (0, 480), (0, 24), .inr (0, (9, 0)))]) (fvs := [(3, (10, 0), (0, 28), (0, 0)), (3, (10, 0), (0, 29), (0, 0)), (3, (10, 0), (0, 30), (0, 0))]) hseg (by decide +kernel) (by decide +kernel)
  have hinv : rxIST_0 S0 ws S (r 8) := hinv
  rw [← hr_ 8 (by decide)] at hinv
  obtain ⟨⟨l8, u8⟩, ⟨l9, u9⟩, ⟨l10, u10⟩, -⟩ := b_
  obtain ⟨f0, f1, f2, -⟩ := f_
  obtain ⟨e0, ⟨e1, w_⟩⟩ := d_
  subst w_
  have g := rxcST_0_0 hP hin I0 hinv l8 u8 l9 u9 l10 u10 f0 f1 f2 e1 e0
  refine ⟨bx_narP_ok (l := []) g.1, bx_nfP_ok h0_ (fvs := []) (by decide +kernel) g.2.1, ?_, ?_⟩
  · show rxIST_2 S0 ws S_p (bx_val [(0, 0), (0, 0), (0, 0), (0, 0), (0, 0), (0, 0), (0, 0), (0, 0), (8, 0), (9, 0)] r_p 8) (bx_val [(0, 0), (0, 0), (0, 0), (0, 0), (0, 0), (0, 0), (0, 0), (0, 0), (8, 0), (9, 0)] r_p 9)
    rw [bx_val_x (n := 8) (e := (8, 0)) h0_ rfl, bx_val_x (n := 9) (e := (9, 0)) h0_ rfl]
    exact g.2.2.1
  · show rxmST_2 S0 ws S_p (bx_val [(0, 0), (0, 0), (0, 0), (0, 0), (0, 0), (0, 0), (0, 0), (0, 0), (8, 0), (9, 0)] r_p 8) (bx_val [(0, 0), (0, 0), (0, 0), (0, 0), (0, 0), (0, 0), (0, 0), (0, 0), (8, 0), (9, 0)] r_p 9) < rxmST_0 S0 ws S_p (r 8)
    rw [bx_val_x (n := 8) (e := (8, 0)) h0_ rfl, bx_val_x (n := 9) (e := (9, 0)) h0_ rfl, ← hr_ 8 (by decide)]
    exact g.2.2.2
theorem rxcST_0_1 {S0 : Nat → Int → Int} {ws : List Int} {S : Nat → Int → Int} {least x9 x10 : Int} (hP : rxPST S0 ws) (hin : bx_same rxL (bx_mdl rxCST.2.2.1) S0 S) (I0 : bx_Inv rxL S) (hinv : rxIST_0 S0 ws S least) (l8 : 1 ≤ least) (u8 : least ≤ 6) (l9 : 1 ≤ x9) (u9 : x9 ≤ 400) (l10 : 22 ≤ x10) (u10 : x10 ≤ 24) (f0 : x10 ≠ 28) (f1 : x10 ≠ 29) (f2 : x10 ≠ 30) (e1 : S 480 24 = x9) (e0 : S 489 (x9 + (-1)) = x10) : (True) ∧ (True) ∧ rxIST_2 S0 ws S least x9 ∧ rxmST_2 S0 ws S least x9 < rxmST_0 S0 ws S least := by
  obtain ⟨rfl, hw⟩ := hinv
  have hs := rxSt_rf (least := least) hP.1 hP.2.1
  have ht : S 489 (S 480 24 - 1) = x10 := by rw [e1, show x9 - 1 = x9 + (-1) by omega]; exact e0
  have hc := rxBd_cases x10
  exact ⟨trivial, trivial, ⟨by omega, hw, hs, by omega, by rw [ht]; omega⟩, by unfold rxmST_0 rxmST_2; omega⟩
theorem rxgST_0_1 {X : (Nat → Int → Int) → Prop} {S0 : Nat → Int → Int} {ws : List Int} (hP : rxPST S0 ws) : bx_obC rxL X S0 rxCST.2.2.1 (rxIST S0 ws) (rxmST S0 ws) 0 rxzST_0 rxoST_0_1 := by
  intro S S_p r r_p hinv hX hin hsm_ hseg
  obtain ⟨I0, I1, h0_, hr_, b_, f_, d_⟩ := bx_cl (evs := [(0, (0, 489), (9, (-1)), .inr (0, (10, 0))), (0, (0, 480), (0, 24), .inr (0, (9, 0)))]) (fvs := [(3, (10, 0), (0, 28), (0, 0)), (3, (10, 0), (0, 29), (0, 0)), (3, (10, 0), (0, 30), (0, 0))]) hseg (by decide +kernel) (by decide +kernel)
  have hinv : rxIST_0 S0 ws S (r 8) := hinv
  rw [← hr_ 8 (by decide)] at hinv
  obtain ⟨⟨l8, u8⟩, ⟨l9, u9⟩, ⟨l10, u10⟩, -⟩ := b_
  obtain ⟨f0, f1, f2, -⟩ := f_
  obtain ⟨e0, ⟨e1, w_⟩⟩ := d_
  subst w_
  have g := rxcST_0_1 hP hin I0 hinv l8 u8 l9 u9 l10 u10 f0 f1 f2 e1 e0
  refine ⟨bx_narP_ok (l := []) g.1, bx_nfP_ok h0_ (fvs := []) (by decide +kernel) g.2.1, ?_, ?_⟩
  · show rxIST_2 S0 ws S_p (bx_val [(0, 0), (0, 0), (0, 0), (0, 0), (0, 0), (0, 0), (0, 0), (0, 0), (8, 0), (9, 0)] r_p 8) (bx_val [(0, 0), (0, 0), (0, 0), (0, 0), (0, 0), (0, 0), (0, 0), (0, 0), (8, 0), (9, 0)] r_p 9)
    rw [bx_val_x (n := 8) (e := (8, 0)) h0_ rfl, bx_val_x (n := 9) (e := (9, 0)) h0_ rfl]
    exact g.2.2.1
  · show rxmST_2 S0 ws S_p (bx_val [(0, 0), (0, 0), (0, 0), (0, 0), (0, 0), (0, 0), (0, 0), (0, 0), (8, 0), (9, 0)] r_p 8) (bx_val [(0, 0), (0, 0), (0, 0), (0, 0), (0, 0), (0, 0), (0, 0), (0, 0), (8, 0), (9, 0)] r_p 9) < rxmST_0 S0 ws S_p (r 8)
    rw [bx_val_x (n := 8) (e := (8, 0)) h0_ rfl, bx_val_x (n := 9) (e := (9, 0)) h0_ rfl, ← hr_ 8 (by decide)]
    exact g.2.2.2
theorem rxcST_0_2 {S0 : Nat → Int → Int} {ws : List Int} {S : Nat → Int → Int} {least x9 x10 : Int} (hP : rxPST S0 ws) (hin : bx_same rxL (bx_mdl rxCST.2.2.1) S0 S) (I0 : bx_Inv rxL S) (hinv : rxIST_0 S0 ws S least) (l8 : 1 ≤ least) (u8 : least ≤ 4) (l9 : 1 ≤ x9) (u9 : x9 ≤ 400) (l10 : 25 ≤ x10) (u10 : x10 ≤ 27) (f0 : x10 ≠ 28) (f1 : x10 ≠ 29) (f2 : x10 ≠ 30) (e1 : S 480 24 = x9) (e0 : S 489 (x9 + (-1)) = x10) : (True) ∧ (True) ∧ rxIST_2 S0 ws S least x9 ∧ rxmST_2 S0 ws S least x9 < rxmST_0 S0 ws S least := by
  obtain ⟨rfl, hw⟩ := hinv
  have hs := rxSt_rf (least := least) hP.1 hP.2.1
  have ht : S 489 (S 480 24 - 1) = x10 := by rw [e1, show x9 - 1 = x9 + (-1) by omega]; exact e0
  have hc := rxBd_cases x10
  exact ⟨trivial, trivial, ⟨by omega, hw, hs, by omega, by rw [ht]; omega⟩, by unfold rxmST_0 rxmST_2; omega⟩
theorem rxgST_0_2 {X : (Nat → Int → Int) → Prop} {S0 : Nat → Int → Int} {ws : List Int} (hP : rxPST S0 ws) : bx_obC rxL X S0 rxCST.2.2.1 (rxIST S0 ws) (rxmST S0 ws) 0 rxzST_0 rxoST_0_2 := by
  intro S S_p r r_p hinv hX hin hsm_ hseg
  obtain ⟨I0, I1, h0_, hr_, b_, f_, d_⟩ := bx_cl (evs := [(0, (0, 489), (9, (-1)), .inr (0, (10, 0))), (0, (0, 480), (0, 24), .inr (0, (9, 0)))]) (fvs := [(3, (10, 0), (0, 28), (0, 0)), (3, (10, 0), (0, 29), (0, 0)), (3, (10, 0), (0, 30), (0, 0))]) hseg (by decide +kernel) (by decide +kernel)
  have hinv : rxIST_0 S0 ws S (r 8) := hinv
  rw [← hr_ 8 (by decide)] at hinv
  obtain ⟨⟨l8, u8⟩, ⟨l9, u9⟩, ⟨l10, u10⟩, -⟩ := b_
  obtain ⟨f0, f1, f2, -⟩ := f_
  obtain ⟨e0, ⟨e1, w_⟩⟩ := d_
  subst w_
  have g := rxcST_0_2 hP hin I0 hinv l8 u8 l9 u9 l10 u10 f0 f1 f2 e1 e0
  refine ⟨bx_narP_ok (l := []) g.1, bx_nfP_ok h0_ (fvs := []) (by decide +kernel) g.2.1, ?_, ?_⟩
  · show rxIST_2 S0 ws S_p (bx_val [(0, 0), (0, 0), (0, 0), (0, 0), (0, 0), (0, 0), (0, 0), (0, 0), (8, 0), (9, 0)] r_p 8) (bx_val [(0, 0), (0, 0), (0, 0), (0, 0), (0, 0), (0, 0), (0, 0), (0, 0), (8, 0), (9, 0)] r_p 9)
    rw [bx_val_x (n := 8) (e := (8, 0)) h0_ rfl, bx_val_x (n := 9) (e := (9, 0)) h0_ rfl]
    exact g.2.2.1
  · show rxmST_2 S0 ws S_p (bx_val [(0, 0), (0, 0), (0, 0), (0, 0), (0, 0), (0, 0), (0, 0), (0, 0), (8, 0), (9, 0)] r_p 8) (bx_val [(0, 0), (0, 0), (0, 0), (0, 0), (0, 0), (0, 0), (0, 0), (0, 0), (8, 0), (9, 0)] r_p 9) < rxmST_0 S0 ws S_p (r 8)
    rw [bx_val_x (n := 8) (e := (8, 0)) h0_ rfl, bx_val_x (n := 9) (e := (9, 0)) h0_ rfl, ← hr_ 8 (by decide)]
    exact g.2.2.2
theorem rxcST_0_3 {S0 : Nat → Int → Int} {ws : List Int} {S : Nat → Int → Int} {least x9 x10 : Int} (hP : rxPST S0 ws) (hin : bx_same rxL (bx_mdl rxCST.2.2.1) S0 S) (I0 : bx_Inv rxL S) (hinv : rxIST_0 S0 ws S least) (l8 : 1 ≤ least) (u8 : least ≤ 3) (l9 : 1 ≤ x9) (u9 : x9 ≤ 400) (l10 : 28 ≤ x10) (u10 : x10 ≤ 28) (f0 : x10 ≠ 29) (f1 : x10 ≠ 30) (e1 : S 480 24 = x9) (e0 : S 489 (x9 + (-1)) = x10) : (True) ∧ (True) ∧ rxIST_2 S0 ws S least x9 ∧ rxmST_2 S0 ws S least x9 < rxmST_0 S0 ws S least := by
  obtain ⟨rfl, hw⟩ := hinv
  have hs := rxSt_rf (least := least) hP.1 hP.2.1
  have ht : S 489 (S 480 24 - 1) = x10 := by rw [e1, show x9 - 1 = x9 + (-1) by omega]; exact e0
  have hc := rxBd_cases x10
  exact ⟨trivial, trivial, ⟨by omega, hw, hs, by omega, by rw [ht]; omega⟩, by unfold rxmST_0 rxmST_2; omega⟩
theorem rxgST_0_3 {X : (Nat → Int → Int) → Prop} {S0 : Nat → Int → Int} {ws : List Int} (hP : rxPST S0 ws) : bx_obC rxL X S0 rxCST.2.2.1 (rxIST S0 ws) (rxmST S0 ws) 0 rxzST_0 rxoST_0_3 := by
  intro S S_p r r_p hinv hX hin hsm_ hseg
  obtain ⟨I0, I1, h0_, hr_, b_, f_, d_⟩ := bx_cl (evs := [(0, (0, 489), (9, (-1)), .inr (0, (10, 0))), (0, (0, 480), (0, 24), .inr (0, (9, 0)))]) (fvs := [(3, (10, 0), (0, 29), (0, 0)), (3, (10, 0), (0, 30), (0, 0))]) hseg (by decide +kernel) (by decide +kernel)
  have hinv : rxIST_0 S0 ws S (r 8) := hinv
  rw [← hr_ 8 (by decide)] at hinv
  obtain ⟨⟨l8, u8⟩, ⟨l9, u9⟩, ⟨l10, u10⟩, -⟩ := b_
  obtain ⟨f0, f1, -⟩ := f_
  obtain ⟨e0, ⟨e1, w_⟩⟩ := d_
  subst w_
  have g := rxcST_0_3 hP hin I0 hinv l8 u8 l9 u9 l10 u10 f0 f1 e1 e0
  refine ⟨bx_narP_ok (l := []) g.1, bx_nfP_ok h0_ (fvs := []) (by decide +kernel) g.2.1, ?_, ?_⟩
  · show rxIST_2 S0 ws S_p (bx_val [(0, 0), (0, 0), (0, 0), (0, 0), (0, 0), (0, 0), (0, 0), (0, 0), (8, 0), (9, 0)] r_p 8) (bx_val [(0, 0), (0, 0), (0, 0), (0, 0), (0, 0), (0, 0), (0, 0), (0, 0), (8, 0), (9, 0)] r_p 9)
    rw [bx_val_x (n := 8) (e := (8, 0)) h0_ rfl, bx_val_x (n := 9) (e := (9, 0)) h0_ rfl]
    exact g.2.2.1
  · show rxmST_2 S0 ws S_p (bx_val [(0, 0), (0, 0), (0, 0), (0, 0), (0, 0), (0, 0), (0, 0), (0, 0), (8, 0), (9, 0)] r_p 8) (bx_val [(0, 0), (0, 0), (0, 0), (0, 0), (0, 0), (0, 0), (0, 0), (0, 0), (8, 0), (9, 0)] r_p 9) < rxmST_0 S0 ws S_p (r 8)
    rw [bx_val_x (n := 8) (e := (8, 0)) h0_ rfl, bx_val_x (n := 9) (e := (9, 0)) h0_ rfl, ← hr_ 8 (by decide)]
    exact g.2.2.2
theorem rxcST_0_4 {S0 : Nat → Int → Int} {ws : List Int} {S : Nat → Int → Int} {least x9 x10 : Int} (hP : rxPST S0 ws) (hin : bx_same rxL (bx_mdl rxCST.2.2.1) S0 S) (I0 : bx_Inv rxL S) (hinv : rxIST_0 S0 ws S least) (l8 : 1 ≤ least) (u8 : least ≤ 2) (l9 : 1 ≤ x9) (u9 : x9 ≤ 400) (l10 : 29 ≤ x10) (u10 : x10 ≤ 29) (f0 : x10 ≠ 30) (e1 : S 480 24 = x9) (e0 : S 489 (x9 + (-1)) = x10) : (True) ∧ (True) ∧ rxIST_2 S0 ws S least x9 ∧ rxmST_2 S0 ws S least x9 < rxmST_0 S0 ws S least := by
  obtain ⟨rfl, hw⟩ := hinv
  have hs := rxSt_rf (least := least) hP.1 hP.2.1
  have ht : S 489 (S 480 24 - 1) = x10 := by rw [e1, show x9 - 1 = x9 + (-1) by omega]; exact e0
  have hc := rxBd_cases x10
  exact ⟨trivial, trivial, ⟨by omega, hw, hs, by omega, by rw [ht]; omega⟩, by unfold rxmST_0 rxmST_2; omega⟩
theorem rxgST_0_4 {X : (Nat → Int → Int) → Prop} {S0 : Nat → Int → Int} {ws : List Int} (hP : rxPST S0 ws) : bx_obC rxL X S0 rxCST.2.2.1 (rxIST S0 ws) (rxmST S0 ws) 0 rxzST_0 rxoST_0_4 := by
  intro S S_p r r_p hinv hX hin hsm_ hseg
  obtain ⟨I0, I1, h0_, hr_, b_, f_, d_⟩ := bx_cl (evs := [(0, (0, 489), (9, (-1)), .inr (0, (10, 0))), (0, (0, 480), (0, 24), .inr (0, (9, 0)))]) (fvs := [(3, (10, 0), (0, 30), (0, 0))]) hseg (by decide +kernel) (by decide +kernel)
  have hinv : rxIST_0 S0 ws S (r 8) := hinv
  rw [← hr_ 8 (by decide)] at hinv
  obtain ⟨⟨l8, u8⟩, ⟨l9, u9⟩, ⟨l10, u10⟩, -⟩ := b_
  obtain ⟨f0, -⟩ := f_
  obtain ⟨e0, ⟨e1, w_⟩⟩ := d_
  subst w_
  have g := rxcST_0_4 hP hin I0 hinv l8 u8 l9 u9 l10 u10 f0 e1 e0
  refine ⟨bx_narP_ok (l := []) g.1, bx_nfP_ok h0_ (fvs := []) (by decide +kernel) g.2.1, ?_, ?_⟩
  · show rxIST_2 S0 ws S_p (bx_val [(0, 0), (0, 0), (0, 0), (0, 0), (0, 0), (0, 0), (0, 0), (0, 0), (8, 0), (9, 0)] r_p 8) (bx_val [(0, 0), (0, 0), (0, 0), (0, 0), (0, 0), (0, 0), (0, 0), (0, 0), (8, 0), (9, 0)] r_p 9)
    rw [bx_val_x (n := 8) (e := (8, 0)) h0_ rfl, bx_val_x (n := 9) (e := (9, 0)) h0_ rfl]
    exact g.2.2.1
  · show rxmST_2 S0 ws S_p (bx_val [(0, 0), (0, 0), (0, 0), (0, 0), (0, 0), (0, 0), (0, 0), (0, 0), (8, 0), (9, 0)] r_p 8) (bx_val [(0, 0), (0, 0), (0, 0), (0, 0), (0, 0), (0, 0), (0, 0), (0, 0), (8, 0), (9, 0)] r_p 9) < rxmST_0 S0 ws S_p (r 8)
    rw [bx_val_x (n := 8) (e := (8, 0)) h0_ rfl, bx_val_x (n := 9) (e := (9, 0)) h0_ rfl, ← hr_ 8 (by decide)]
    exact g.2.2.2
theorem rxcST_0_5 {S0 : Nat → Int → Int} {ws : List Int} {S : Nat → Int → Int} {least x9 x10 : Int} (hP : rxPST S0 ws) (hin : bx_same rxL (bx_mdl rxCST.2.2.1) S0 S) (I0 : bx_Inv rxL S) (hinv : rxIST_0 S0 ws S least) (l8 : 1 ≤ least) (u8 : least ≤ 1) (l9 : 1 ≤ x9) (u9 : x9 ≤ 400) (l10 : 30 ≤ x10) (u10 : x10 ≤ 30) (e1 : S 480 24 = x9) (e0 : S 489 (x9 + (-1)) = x10) : (True) ∧ (True) ∧ rxIST_2 S0 ws S least x9 ∧ rxmST_2 S0 ws S least x9 < rxmST_0 S0 ws S least := by
  obtain ⟨rfl, hw⟩ := hinv
  have hs := rxSt_rf (least := least) hP.1 hP.2.1
  have ht : S 489 (S 480 24 - 1) = x10 := by rw [e1, show x9 - 1 = x9 + (-1) by omega]; exact e0
  have hc := rxBd_cases x10
  exact ⟨trivial, trivial, ⟨by omega, hw, hs, by omega, by rw [ht]; omega⟩, by unfold rxmST_0 rxmST_2; omega⟩
theorem rxgST_0_5 {X : (Nat → Int → Int) → Prop} {S0 : Nat → Int → Int} {ws : List Int} (hP : rxPST S0 ws) : bx_obC rxL X S0 rxCST.2.2.1 (rxIST S0 ws) (rxmST S0 ws) 0 rxzST_0 rxoST_0_5 := by
  intro S S_p r r_p hinv hX hin hsm_ hseg
  obtain ⟨I0, I1, h0_, hr_, b_, f_, d_⟩ := bx_cl (evs := [(0, (0, 489), (9, (-1)), .inr (0, (10, 0))), (0, (0, 480), (0, 24), .inr (0, (9, 0)))]) (fvs := []) hseg (by decide +kernel) (by decide +kernel)
  have hinv : rxIST_0 S0 ws S (r 8) := hinv
  rw [← hr_ 8 (by decide)] at hinv
  obtain ⟨⟨l8, u8⟩, ⟨l9, u9⟩, ⟨l10, u10⟩, -⟩ := b_
  obtain ⟨e0, ⟨e1, w_⟩⟩ := d_
  subst w_
  have g := rxcST_0_5 hP hin I0 hinv l8 u8 l9 u9 l10 u10 e1 e0
  refine ⟨bx_narP_ok (l := []) g.1, bx_nfP_ok h0_ (fvs := []) (by decide +kernel) g.2.1, ?_, ?_⟩
  · show rxIST_2 S0 ws S_p (bx_val [(0, 0), (0, 0), (0, 0), (0, 0), (0, 0), (0, 0), (0, 0), (0, 0), (8, 0), (9, 0)] r_p 8) (bx_val [(0, 0), (0, 0), (0, 0), (0, 0), (0, 0), (0, 0), (0, 0), (0, 0), (8, 0), (9, 0)] r_p 9)
    rw [bx_val_x (n := 8) (e := (8, 0)) h0_ rfl, bx_val_x (n := 9) (e := (9, 0)) h0_ rfl]
    exact g.2.2.1
  · show rxmST_2 S0 ws S_p (bx_val [(0, 0), (0, 0), (0, 0), (0, 0), (0, 0), (0, 0), (0, 0), (0, 0), (8, 0), (9, 0)] r_p 8) (bx_val [(0, 0), (0, 0), (0, 0), (0, 0), (0, 0), (0, 0), (0, 0), (0, 0), (8, 0), (9, 0)] r_p 9) < rxmST_0 S0 ws S_p (r 8)
    rw [bx_val_x (n := 8) (e := (8, 0)) h0_ rfl, bx_val_x (n := 9) (e := (9, 0)) h0_ rfl, ← hr_ 8 (by decide)]
    exact g.2.2.2
theorem rxdST_0_0 {S0 : Nat → Int → Int} {ws : List Int} {S : Nat → Int → Int} {least x9 x10 : Int} (hP : rxPST S0 ws) (hin : bx_same rxL (bx_mdl rxCST.2.2.1) S0 S) (hin2 : bx_same rxL (bx_mdl rxCST.2.2.1) S S) (I0 : bx_Inv rxL S) (I1 : bx_Inv rxL S) (hinv : rxIST_0 S0 ws S least) (l8 : 6 ≤ least) (u8 : least ≤ 6) (l9 : 1 ≤ x9) (u9 : x9 ≤ 400) (l10 : 0 ≤ x10) (u10 : x10 ≤ 21) (f0 : x10 ≠ 28) (f1 : x10 ≠ 29) (f2 : x10 ≠ 30) (e1 : S 480 24 = x9) (e0 : S 489 (x9 + (-1)) = x10) : (True) ∧ rxPSST S0 ws S none := by
  obtain ⟨rfl, hw⟩ := hinv
  have hs := rxSt_rf (least := least) hP.1 hP.2.1
  have ht : S 489 (S 480 24 - 1) = x10 := by rw [e1, show x9 - 1 = x9 + (-1) by omega]; exact e0
  have hc := rxBd_cases x10
  exact ⟨trivial, rfl, least, hw, hs, Or.inr (by rw [ht]; omega)⟩
theorem rxfST_0_0 {X : (Nat → Int → Int) → Prop} {S0 : Nat → Int → Int} {ws : List Int} (hP : rxPST S0 ws) : bx_obE rxL X S0 rxCST.2.2.1 (rxIST S0 ws) (rxPSST S0 ws) 0 rxzST_0 rxeST_0_0 := by
  intro S S_p r r_p hinv hX hin hsm_ hseg
  obtain ⟨I0, I1, h0_, hr_, b_, f_, d_⟩ := bx_cl (evs := [(0, (0, 489), (9, (-1)), .inr (0, (10, 0))), (0, (0, 480), (0, 24), .inr (0, (9, 0)))]) (fvs := [(3, (10, 0), (0, 28), (0, 0)), (3, (10, 0), (0, 29), (0, 0)), (3, (10, 0), (0, 30), (0, 0))]) hseg (by decide +kernel) (by decide +kernel)
  have hinv : rxIST_0 S0 ws S (r 8) := hinv
  rw [← hr_ 8 (by decide)] at hinv
  obtain ⟨⟨l8, u8⟩, ⟨l9, u9⟩, ⟨l10, u10⟩, -⟩ := b_
  obtain ⟨f0, f1, f2, -⟩ := f_
  obtain ⟨e0, ⟨e1, w_⟩⟩ := d_
  subst w_
  have g := rxdST_0_0 hP hin hsm_ I0 I1 hinv l8 u8 l9 u9 l10 u10 f0 f1 f2 e1 e0
  refine ⟨bx_narP_ok (l := []) g.1, ?_⟩
  exact g.2
theorem rxdST_0_1 {S0 : Nat → Int → Int} {ws : List Int} {S : Nat → Int → Int} {least x9 x10 : Int} (hP : rxPST S0 ws) (hin : bx_same rxL (bx_mdl rxCST.2.2.1) S0 S) (hin2 : bx_same rxL (bx_mdl rxCST.2.2.1) S S) (I0 : bx_Inv rxL S) (I1 : bx_Inv rxL S) (hinv : rxIST_0 S0 ws S least) (l8 : 5 ≤ least) (u8 : least ≤ 6) (l9 : 1 ≤ x9) (u9 : x9 ≤ 400) (l10 : 25 ≤ x10) (u10 : x10 ≤ 27) (f0 : x10 ≠ 28) (f1 : x10 ≠ 29) (f2 : x10 ≠ 30) (e1 : S 480 24 = x9) (e0 : S 489 (x9 + (-1)) = x10) : (True) ∧ rxPSST S0 ws S none := by
  obtain ⟨rfl, hw⟩ := hinv
  have hs := rxSt_rf (least := least) hP.1 hP.2.1
  have ht : S 489 (S 480 24 - 1) = x10 := by rw [e1, show x9 - 1 = x9 + (-1) by omega]; exact e0
  have hc := rxBd_cases x10
  exact ⟨trivial, rfl, least, hw, hs, Or.inr (by rw [ht]; omega)⟩
theorem rxfST_0_1 {X : (Nat → Int → Int) → Prop} {S0 : Nat → Int → Int} {ws : List Int} (hP : rxPST S0 ws) : bx_obE rxL X S0 rxCST.2.2.1 (rxIST S0 ws) (rxPSST S0 ws) 0 rxzST_0 rxeST_0_1 := by
  intro S S_p r r_p hinv hX hin hsm_ hseg
  obtain ⟨I0, I1, h0_, hr_, b_, f_, d_⟩ := bx_cl (evs := [(0, (0, 489), (9, (-1)), .inr (0, (10, 0))), (0, (0, 480), (0, 24), .inr (0, (9, 0)))]) (fvs := [(3, (10, 0), (0, 28), (0, 0)), (3, (10, 0), (0, 29), (0, 0)), (3, (10, 0), (0, 30), (0, 0))]) hseg (by decide +kernel) (by decide +kernel)
  have hinv : rxIST_0 S0 ws S (r 8) := hinv
  rw [← hr_ 8 (by decide)] at hinv
  obtain ⟨⟨l8, u8⟩, ⟨l9, u9⟩, ⟨l10, u10⟩, -⟩ := b_
  obtain ⟨f0, f1, f2, -⟩ := f_
  obtain ⟨e0, ⟨e1, w_⟩⟩ := d_
  subst w_
  have g := rxdST_0_1 hP hin hsm_ I0 I1 hinv l8 u8 l9 u9 l10 u10 f0 f1 f2 e1 e0
  refine ⟨bx_narP_ok (l := []) g.1, ?_⟩
  exact g.2
theorem rxdST_0_2 {S0 : Nat → Int → Int} {ws : List Int} {S : Nat → Int → Int} {least x9 x10 : Int} (hP : rxPST S0 ws) (hin : bx_same rxL (bx_mdl rxCST.2.2.1) S0 S) (hin2 : bx_same rxL (bx_mdl rxCST.2.2.1) S S) (I0 : bx_Inv rxL S) (I1 : bx_Inv rxL S) (hinv : rxIST_0 S0 ws S least) (l8 : 4 ≤ least) (u8 : least ≤ 6) (l9 : 1 ≤ x9) (u9 : x9 ≤ 400) (l10 : 28 ≤ x10) (u10 : x10 ≤ 28) (f0 : x10 ≠ 29) (f1 : x10 ≠ 30) (e1 : S 480 24 = x9) (e0 : S 489 (x9 + (-1)) = x10) : (True) ∧ rxPSST S0 ws S none := by
  obtain ⟨rfl, hw⟩ := hinv
  have hs := rxSt_rf (least := least) hP.1 hP.2.1
  have ht : S 489 (S 480 24 - 1) = x10 := by rw [e1, show x9 - 1 = x9 + (-1) by omega]; exact e0
  have hc := rxBd_cases x10
  exact ⟨trivial, rfl, least, hw, hs, Or.inr (by rw [ht]; omega)⟩
theorem rxfST_0_2 {X : (Nat → Int → Int) → Prop} {S0 : Nat → Int → Int} {ws : List Int} (hP : rxPST S0 ws) : bx_obE rxL X S0 rxCST.2.2.1 (rxIST S0 ws) (rxPSST S0 ws) 0 rxzST_0 rxeST_0_2 := by
  intro S S_p r r_p hinv hX hin hsm_ hseg
  obtain ⟨I0, I1, h0_, hr_, b_, f_, d_⟩ := bx_cl (evs := [(0, (0, 489), (9, (-1)), .inr (0, (10, 0))), (0, (0, 480), (0, 24), .inr (0, (9, 0)))]) (fvs := [(3, (10, 0), (0, 29), (0, 0)), (3, (10, 0), (0, 30), (0, 0))]) hseg (by decide +kernel) (by decide +kernel)
  have hinv : rxIST_0 S0 ws S (r 8) := hinv
  rw [← hr_ 8 (by decide)] at hinv
  obtain ⟨⟨l8, u8⟩, ⟨l9, u9⟩, ⟨l10, u10⟩, -⟩ := b_
  obtain ⟨f0, f1, -⟩ := f_
  obtain ⟨e0, ⟨e1, w_⟩⟩ := d_
  subst w_
  have g := rxdST_0_2 hP hin hsm_ I0 I1 hinv l8 u8 l9 u9 l10 u10 f0 f1 e1 e0
  refine ⟨bx_narP_ok (l := []) g.1, ?_⟩
  exact g.2
theorem rxdST_0_3 {S0 : Nat → Int → Int} {ws : List Int} {S : Nat → Int → Int} {least x9 x10 : Int} (hP : rxPST S0 ws) (hin : bx_same rxL (bx_mdl rxCST.2.2.1) S0 S) (hin2 : bx_same rxL (bx_mdl rxCST.2.2.1) S S) (I0 : bx_Inv rxL S) (I1 : bx_Inv rxL S) (hinv : rxIST_0 S0 ws S least) (l8 : 3 ≤ least) (u8 : least ≤ 6) (l9 : 1 ≤ x9) (u9 : x9 ≤ 400) (l10 : 29 ≤ x10) (u10 : x10 ≤ 29) (f0 : x10 ≠ 30) (e1 : S 480 24 = x9) (e0 : S 489 (x9 + (-1)) = x10) : (True) ∧ rxPSST S0 ws S none := by
  obtain ⟨rfl, hw⟩ := hinv
  have hs := rxSt_rf (least := least) hP.1 hP.2.1
  have ht : S 489 (S 480 24 - 1) = x10 := by rw [e1, show x9 - 1 = x9 + (-1) by omega]; exact e0
  have hc := rxBd_cases x10
  exact ⟨trivial, rfl, least, hw, hs, Or.inr (by rw [ht]; omega)⟩
theorem rxfST_0_3 {X : (Nat → Int → Int) → Prop} {S0 : Nat → Int → Int} {ws : List Int} (hP : rxPST S0 ws) : bx_obE rxL X S0 rxCST.2.2.1 (rxIST S0 ws) (rxPSST S0 ws) 0 rxzST_0 rxeST_0_3 := by
  intro S S_p r r_p hinv hX hin hsm_ hseg
  obtain ⟨I0, I1, h0_, hr_, b_, f_, d_⟩ := bx_cl (evs := [(0, (0, 489), (9, (-1)), .inr (0, (10, 0))), (0, (0, 480), (0, 24), .inr (0, (9, 0)))]) (fvs := [(3, (10, 0), (0, 30), (0, 0))]) hseg (by decide +kernel) (by decide +kernel)
  have hinv : rxIST_0 S0 ws S (r 8) := hinv
  rw [← hr_ 8 (by decide)] at hinv
  obtain ⟨⟨l8, u8⟩, ⟨l9, u9⟩, ⟨l10, u10⟩, -⟩ := b_
  obtain ⟨f0, -⟩ := f_
  obtain ⟨e0, ⟨e1, w_⟩⟩ := d_
  subst w_
  have g := rxdST_0_3 hP hin hsm_ I0 I1 hinv l8 u8 l9 u9 l10 u10 f0 e1 e0
  refine ⟨bx_narP_ok (l := []) g.1, ?_⟩
  exact g.2
theorem rxdST_0_4 {S0 : Nat → Int → Int} {ws : List Int} {S : Nat → Int → Int} {least x9 x10 : Int} (hP : rxPST S0 ws) (hin : bx_same rxL (bx_mdl rxCST.2.2.1) S0 S) (hin2 : bx_same rxL (bx_mdl rxCST.2.2.1) S S) (I0 : bx_Inv rxL S) (I1 : bx_Inv rxL S) (hinv : rxIST_0 S0 ws S least) (l8 : 2 ≤ least) (u8 : least ≤ 6) (l9 : 1 ≤ x9) (u9 : x9 ≤ 400) (l10 : 30 ≤ x10) (u10 : x10 ≤ 30) (e1 : S 480 24 = x9) (e0 : S 489 (x9 + (-1)) = x10) : (True) ∧ rxPSST S0 ws S none := by
  obtain ⟨rfl, hw⟩ := hinv
  have hs := rxSt_rf (least := least) hP.1 hP.2.1
  have ht : S 489 (S 480 24 - 1) = x10 := by rw [e1, show x9 - 1 = x9 + (-1) by omega]; exact e0
  have hc := rxBd_cases x10
  exact ⟨trivial, rfl, least, hw, hs, Or.inr (by rw [ht]; omega)⟩
theorem rxfST_0_4 {X : (Nat → Int → Int) → Prop} {S0 : Nat → Int → Int} {ws : List Int} (hP : rxPST S0 ws) : bx_obE rxL X S0 rxCST.2.2.1 (rxIST S0 ws) (rxPSST S0 ws) 0 rxzST_0 rxeST_0_4 := by
  intro S S_p r r_p hinv hX hin hsm_ hseg
  obtain ⟨I0, I1, h0_, hr_, b_, f_, d_⟩ := bx_cl (evs := [(0, (0, 489), (9, (-1)), .inr (0, (10, 0))), (0, (0, 480), (0, 24), .inr (0, (9, 0)))]) (fvs := []) hseg (by decide +kernel) (by decide +kernel)
  have hinv : rxIST_0 S0 ws S (r 8) := hinv
  rw [← hr_ 8 (by decide)] at hinv
  obtain ⟨⟨l8, u8⟩, ⟨l9, u9⟩, ⟨l10, u10⟩, -⟩ := b_
  obtain ⟨e0, ⟨e1, w_⟩⟩ := d_
  subst w_
  have g := rxdST_0_4 hP hin hsm_ I0 I1 hinv l8 u8 l9 u9 l10 u10 e1 e0
  refine ⟨bx_narP_ok (l := []) g.1, ?_⟩
  exact g.2
theorem rxdST_0_5 {S0 : Nat → Int → Int} {ws : List Int} {S : Nat → Int → Int} {least x9 x10 : Int} (hP : rxPST S0 ws) (hin : bx_same rxL (bx_mdl rxCST.2.2.1) S0 S) (hin2 : bx_same rxL (bx_mdl rxCST.2.2.1) S S) (I0 : bx_Inv rxL S) (I1 : bx_Inv rxL S) (hinv : rxIST_0 S0 ws S least) (l8 : 1 ≤ least) (u8 : least ≤ 6) (l9 : 1 ≤ x9) (u9 : x9 ≤ 400) (l10 : 31 ≤ x10) (u10 : x10 ≤ 32) (e1 : S 480 24 = x9) (e0 : S 489 (x9 + (-1)) = x10) : (True) ∧ rxPSST S0 ws S none := by
  obtain ⟨rfl, hw⟩ := hinv
  have hs := rxSt_rf (least := least) hP.1 hP.2.1
  have ht : S 489 (S 480 24 - 1) = x10 := by rw [e1, show x9 - 1 = x9 + (-1) by omega]; exact e0
  have hc := rxBd_cases x10
  exact ⟨trivial, rfl, least, hw, hs, Or.inr (by rw [ht]; omega)⟩
theorem rxfST_0_5 {X : (Nat → Int → Int) → Prop} {S0 : Nat → Int → Int} {ws : List Int} (hP : rxPST S0 ws) : bx_obE rxL X S0 rxCST.2.2.1 (rxIST S0 ws) (rxPSST S0 ws) 0 rxzST_0 rxeST_0_5 := by
  intro S S_p r r_p hinv hX hin hsm_ hseg
  obtain ⟨I0, I1, h0_, hr_, b_, f_, d_⟩ := bx_cl (evs := [(0, (0, 489), (9, (-1)), .inr (0, (10, 0))), (0, (0, 480), (0, 24), .inr (0, (9, 0)))]) (fvs := []) hseg (by decide +kernel) (by decide +kernel)
  have hinv : rxIST_0 S0 ws S (r 8) := hinv
  rw [← hr_ 8 (by decide)] at hinv
  obtain ⟨⟨l8, u8⟩, ⟨l9, u9⟩, ⟨l10, u10⟩, -⟩ := b_
  obtain ⟨e0, ⟨e1, w_⟩⟩ := d_
  subst w_
  have g := rxdST_0_5 hP hin hsm_ I0 I1 hinv l8 u8 l9 u9 l10 u10 e1 e0
  refine ⟨bx_narP_ok (l := []) g.1, ?_⟩
  exact g.2
theorem rxdST_0_6 {S0 : Nat → Int → Int} {ws : List Int} {S : Nat → Int → Int} {least x9 : Int} (hP : rxPST S0 ws) (hin : bx_same rxL (bx_mdl rxCST.2.2.1) S0 S) (hin2 : bx_same rxL (bx_mdl rxCST.2.2.1) S S) (I0 : bx_Inv rxL S) (I1 : bx_Inv rxL S) (hinv : rxIST_0 S0 ws S least) (l8 : 1 ≤ least) (u8 : least ≤ 6) (l9 : 0 ≤ x9) (u9 : x9 ≤ 0) (e0 : S 480 24 = x9) : (True) ∧ rxPSST S0 ws S none := by
  obtain ⟨rfl, hw⟩ := hinv
  have hs := rxSt_rf (least := least) hP.1 hP.2.1
  have h0 := hs.2.1
  exact ⟨trivial, rfl, least, hw, hs, Or.inl (by omega)⟩
theorem rxfST_0_6 {X : (Nat → Int → Int) → Prop} {S0 : Nat → Int → Int} {ws : List Int} (hP : rxPST S0 ws) : bx_obE rxL X S0 rxCST.2.2.1 (rxIST S0 ws) (rxPSST S0 ws) 0 rxzST_0 rxeST_0_6 := by
  intro S S_p r r_p hinv hX hin hsm_ hseg
  obtain ⟨I0, I1, h0_, hr_, b_, f_, d_⟩ := bx_cl (evs := [(0, (0, 480), (0, 24), .inr (0, (9, 0)))]) (fvs := []) hseg (by decide +kernel) (by decide +kernel)
  have hinv : rxIST_0 S0 ws S (r 8) := hinv
  rw [← hr_ 8 (by decide)] at hinv
  obtain ⟨⟨l8, u8⟩, ⟨l9, u9⟩, -⟩ := b_
  obtain ⟨e0, w_⟩ := d_
  subst w_
  have g := rxdST_0_6 hP hin hsm_ I0 I1 hinv l8 u8 l9 u9 e0
  refine ⟨bx_narP_ok (l := []) g.1, ?_⟩
  exact g.2
theorem rxcST_1_0 {S0 : Nat → Int → Int} {ws : List Int} {S : Nat → Int → Int} {least x9 x10 : Int} (hP : rxPST S0 ws) (hin : bx_same rxL (bx_mdl rxCST.2.2.1) S0 S) (I0 : bx_Inv rxL S) (hinv : rxIST_1 S0 ws S least) (l8 : 1 ≤ least) (u8 : least ≤ 5) (l9 : 1 ≤ x9) (u9 : x9 ≤ 400) (l10 : 0 ≤ x10) (u10 : x10 ≤ 21) (f0 : x10 ≠ 28) (f1 : x10 ≠ 29) (f2 : x10 ≠ 30) (e1 : S 480 24 = x9) (e0 : S 489 (x9 + (-1)) = x10) : (True) ∧ (True) ∧ rxIST_2 S0 ws S least x9 ∧ rxmST_2 S0 ws S least x9 < rxmST_1 S0 ws S least := by
  obtain ⟨hw, hs⟩ := hinv
  have ht : S 489 (S 480 24 - 1) = x10 := by rw [e1, show x9 - 1 = x9 + (-1) by omega]; exact e0
  have hc := rxBd_cases x10
  exact ⟨trivial, trivial, ⟨by omega, hw, hs, by omega, by rw [ht]; omega⟩, by unfold rxmST_1 rxmST_2; omega⟩
theorem rxgST_1_0 {X : (Nat → Int → Int) → Prop} {S0 : Nat → Int → Int} {ws : List Int} (hP : rxPST S0 ws) : bx_obC rxL X S0 rxCST.2.2.1 (rxIST S0 ws) (rxmST S0 ws) 1 rxzST_1 rxoST_1_0 := by
  intro S S_p r r_p hinv hX hin hsm_ hseg
  obtain ⟨I0, I1, h0_, hr_, b_, f_, d_⟩ := bx_cl (evs := [(0, (0, 489), (9, (-1)), .inr (0, (10, 0))), (0, (0, 480), (0, 24), .inr (0, (9, 0)))]) (fvs := [(3, (10, 0), (0, 28), (0, 0)), (3, (10, 0), (0, 29), (0, 0)), (3, (10, 0), (0, 30), (0, 0))]) hseg (by decide +kernel) (by decide +kernel)
  have hinv : rxIST_1 S0 ws S (r 8) := hinv
  rw [← hr_ 8 (by decide)] at hinv
  obtain ⟨⟨l8, u8⟩, ⟨l9, u9⟩, ⟨l10, u10⟩, -⟩ := b_
  obtain ⟨f0, f1, f2, -⟩ := f_
  obtain ⟨e0, ⟨e1, w_⟩⟩ := d_
  subst w_
  have g := rxcST_1_0 hP hin I0 hinv l8 u8 l9 u9 l10 u10 f0 f1 f2 e1 e0
  refine ⟨bx_narP_ok (l := []) g.1, bx_nfP_ok h0_ (fvs := []) (by decide +kernel) g.2.1, ?_, ?_⟩
  · show rxIST_2 S0 ws S_p (bx_val [(0, 0), (0, 0), (0, 0), (0, 0), (0, 0), (0, 0), (0, 0), (0, 0), (8, 0), (9, 0)] r_p 8) (bx_val [(0, 0), (0, 0), (0, 0), (0, 0), (0, 0), (0, 0), (0, 0), (0, 0), (8, 0), (9, 0)] r_p 9)
    rw [bx_val_x (n := 8) (e := (8, 0)) h0_ rfl, bx_val_x (n := 9) (e := (9, 0)) h0_ rfl]
    exact g.2.2.1
  · show rxmST_2 S0 ws S_p (bx_val [(0, 0), (0, 0), (0, 0), (0, 0), (0, 0), (0, 0), (0, 0), (0, 0), (8, 0), (9, 0)] r_p 8) (bx_val [(0, 0), (0, 0), (0, 0), (0, 0), (0, 0), (0, 0), (0, 0), (0, 0), (8, 0), (9, 0)] r_p 9) < rxmST_1 S0 ws S_p (r 8)
    rw [bx_val_x (n := 8) (e := (8, 0)) h0_ rfl, bx_val_x (n := 9) (e := (9, 0)) h0_ rfl, ← hr_ 8 (by decide)]
    exact g.2.2.2
theorem rxcST_1_1 {S0 : Nat → Int → Int} {ws : List Int} {S : Nat → Int → Int} {least x9 x10 : Int} (hP : rxPST S0 ws) (hin : bx_same rxL (bx_mdl rxCST.2.2.1) S0 S) (I0 : bx_Inv rxL S) (hinv : rxIST_1 S0 ws S least) (l8 : 1 ≤ least) (u8 : least ≤ 6) (l9 : 1 ≤ x9) (u9 : x9 ≤ 400) (l10 : 22 ≤ x10) (u10 : x10 ≤ 24) (f0 : x10 ≠ 28) (f1 : x10 ≠ 29) (f2 : x10 ≠ 30) (e1 : S 480 24 = x9) (e0 : S 489 (x9 + (-1)) = x10) : (True) ∧ (True) ∧ rxIST_2 S0 ws S least x9 ∧ rxmST_2 S0 ws S least x9 < rxmST_1 S0 ws S least := by
  obtain ⟨hw, hs⟩ := hinv
  have ht : S 489 (S 480 24 - 1) = x10 := by rw [e1, show x9 - 1 = x9 + (-1) by omega]; exact e0
  have hc := rxBd_cases x10
  exact ⟨trivial, trivial, ⟨by omega, hw, hs, by omega, by rw [ht]; omega⟩, by unfold rxmST_1 rxmST_2; omega⟩
theorem rxgST_1_1 {X : (Nat → Int → Int) → Prop} {S0 : Nat → Int → Int} {ws : List Int} (hP : rxPST S0 ws) : bx_obC rxL X S0 rxCST.2.2.1 (rxIST S0 ws) (rxmST S0 ws) 1 rxzST_1 rxoST_1_1 := by
  intro S S_p r r_p hinv hX hin hsm_ hseg
  obtain ⟨I0, I1, h0_, hr_, b_, f_, d_⟩ := bx_cl (evs := [(0, (0, 489), (9, (-1)), .inr (0, (10, 0))), (0, (0, 480), (0, 24), .inr (0, (9, 0)))]) (fvs := [(3, (10, 0), (0, 28), (0, 0)), (3, (10, 0), (0, 29), (0, 0)), (3, (10, 0), (0, 30), (0, 0))]) hseg (by decide +kernel) (by decide +kernel)
  have hinv : rxIST_1 S0 ws S (r 8) := hinv
  rw [← hr_ 8 (by decide)] at hinv
  obtain ⟨⟨l8, u8⟩, ⟨l9, u9⟩, ⟨l10, u10⟩, -⟩ := b_
  obtain ⟨f0, f1, f2, -⟩ := f_
  obtain ⟨e0, ⟨e1, w_⟩⟩ := d_
  subst w_
  have g := rxcST_1_1 hP hin I0 hinv l8 u8 l9 u9 l10 u10 f0 f1 f2 e1 e0
  refine ⟨bx_narP_ok (l := []) g.1, bx_nfP_ok h0_ (fvs := []) (by decide +kernel) g.2.1, ?_, ?_⟩
  · show rxIST_2 S0 ws S_p (bx_val [(0, 0), (0, 0), (0, 0), (0, 0), (0, 0), (0, 0), (0, 0), (0, 0), (8, 0), (9, 0)] r_p 8) (bx_val [(0, 0), (0, 0), (0, 0), (0, 0), (0, 0), (0, 0), (0, 0), (0, 0), (8, 0), (9, 0)] r_p 9)
    rw [bx_val_x (n := 8) (e := (8, 0)) h0_ rfl, bx_val_x (n := 9) (e := (9, 0)) h0_ rfl]
    exact g.2.2.1
  · show rxmST_2 S0 ws S_p (bx_val [(0, 0), (0, 0), (0, 0), (0, 0), (0, 0), (0, 0), (0, 0), (0, 0), (8, 0), (9, 0)] r_p 8) (bx_val [(0, 0), (0, 0), (0, 0), (0, 0), (0, 0), (0, 0), (0, 0), (0, 0), (8, 0), (9, 0)] r_p 9) < rxmST_1 S0 ws S_p (r 8)
    rw [bx_val_x (n := 8) (e := (8, 0)) h0_ rfl, bx_val_x (n := 9) (e := (9, 0)) h0_ rfl, ← hr_ 8 (by decide)]
    exact g.2.2.2
theorem rxcST_1_2 {S0 : Nat → Int → Int} {ws : List Int} {S : Nat → Int → Int} {least x9 x10 : Int} (hP : rxPST S0 ws) (hin : bx_same rxL (bx_mdl rxCST.2.2.1) S0 S) (I0 : bx_Inv rxL S) (hinv : rxIST_1 S0 ws S least) (l8 : 1 ≤ least) (u8 : least ≤ 4) (l9 : 1 ≤ x9) (u9 : x9 ≤ 400) (l10 : 25 ≤ x10) (u10 : x10 ≤ 27) (f0 : x10 ≠ 28) (f1 : x10 ≠ 29) (f2 : x10 ≠ 30) (e1 : S 480 24 = x9) (e0 : S 489 (x9 + (-1)) = x10) : (True) ∧ (True) ∧ rxIST_2 S0 ws S least x9 ∧ rxmST_2 S0 ws S least x9 < rxmST_1 S0 ws S least := by
  obtain ⟨hw, hs⟩ := hinv
  have ht : S 489 (S 480 24 - 1) = x10 := by rw [e1, show x9 - 1 = x9 + (-1) by omega]; exact e0
  have hc := rxBd_cases x10
  exact ⟨trivial, trivial, ⟨by omega, hw, hs, by omega, by rw [ht]; omega⟩, by unfold rxmST_1 rxmST_2; omega⟩
theorem rxgST_1_2 {X : (Nat → Int → Int) → Prop} {S0 : Nat → Int → Int} {ws : List Int} (hP : rxPST S0 ws) : bx_obC rxL X S0 rxCST.2.2.1 (rxIST S0 ws) (rxmST S0 ws) 1 rxzST_1 rxoST_1_2 := by
  intro S S_p r r_p hinv hX hin hsm_ hseg
  obtain ⟨I0, I1, h0_, hr_, b_, f_, d_⟩ := bx_cl (evs := [(0, (0, 489), (9, (-1)), .inr (0, (10, 0))), (0, (0, 480), (0, 24), .inr (0, (9, 0)))]) (fvs := [(3, (10, 0), (0, 28), (0, 0)), (3, (10, 0), (0, 29), (0, 0)), (3, (10, 0), (0, 30), (0, 0))]) hseg (by decide +kernel) (by decide +kernel)
  have hinv : rxIST_1 S0 ws S (r 8) := hinv
  rw [← hr_ 8 (by decide)] at hinv
  obtain ⟨⟨l8, u8⟩, ⟨l9, u9⟩, ⟨l10, u10⟩, -⟩ := b_
  obtain ⟨f0, f1, f2, -⟩ := f_
  obtain ⟨e0, ⟨e1, w_⟩⟩ := d_
  subst w_
  have g := rxcST_1_2 hP hin I0 hinv l8 u8 l9 u9 l10 u10 f0 f1 f2 e1 e0
  refine ⟨bx_narP_ok (l := []) g.1, bx_nfP_ok h0_ (fvs := []) (by decide +kernel) g.2.1, ?_, ?_⟩
  · show rxIST_2 S0 ws S_p (bx_val [(0, 0), (0, 0), (0, 0), (0, 0), (0, 0), (0, 0), (0, 0), (0, 0), (8, 0), (9, 0)] r_p 8) (bx_val [(0, 0), (0, 0), (0, 0), (0, 0), (0, 0), (0, 0), (0, 0), (0, 0), (8, 0), (9, 0)] r_p 9)
    rw [bx_val_x (n := 8) (e := (8, 0)) h0_ rfl, bx_val_x (n := 9) (e := (9, 0)) h0_ rfl]
    exact g.2.2.1
  · show rxmST_2 S0 ws S_p (bx_val [(0, 0), (0, 0), (0, 0), (0, 0), (0, 0), (0, 0), (0, 0), (0, 0), (8, 0), (9, 0)] r_p 8) (bx_val [(0, 0), (0, 0), (0, 0), (0, 0), (0, 0), (0, 0), (0, 0), (0, 0), (8, 0), (9, 0)] r_p 9) < rxmST_1 S0 ws S_p (r 8)
    rw [bx_val_x (n := 8) (e := (8, 0)) h0_ rfl, bx_val_x (n := 9) (e := (9, 0)) h0_ rfl, ← hr_ 8 (by decide)]
    exact g.2.2.2
theorem rxcST_1_3 {S0 : Nat → Int → Int} {ws : List Int} {S : Nat → Int → Int} {least x9 x10 : Int} (hP : rxPST S0 ws) (hin : bx_same rxL (bx_mdl rxCST.2.2.1) S0 S) (I0 : bx_Inv rxL S) (hinv : rxIST_1 S0 ws S least) (l8 : 1 ≤ least) (u8 : least ≤ 3) (l9 : 1 ≤ x9) (u9 : x9 ≤ 400) (l10 : 28 ≤ x10) (u10 : x10 ≤ 28) (f0 : x10 ≠ 29) (f1 : x10 ≠ 30) (e1 : S 480 24 = x9) (e0 : S 489 (x9 + (-1)) = x10) : (True) ∧ (True) ∧ rxIST_2 S0 ws S least x9 ∧ rxmST_2 S0 ws S least x9 < rxmST_1 S0 ws S least := by
  obtain ⟨hw, hs⟩ := hinv
  have ht : S 489 (S 480 24 - 1) = x10 := by rw [e1, show x9 - 1 = x9 + (-1) by omega]; exact e0
  have hc := rxBd_cases x10
  exact ⟨trivial, trivial, ⟨by omega, hw, hs, by omega, by rw [ht]; omega⟩, by unfold rxmST_1 rxmST_2; omega⟩
theorem rxgST_1_3 {X : (Nat → Int → Int) → Prop} {S0 : Nat → Int → Int} {ws : List Int} (hP : rxPST S0 ws) : bx_obC rxL X S0 rxCST.2.2.1 (rxIST S0 ws) (rxmST S0 ws) 1 rxzST_1 rxoST_1_3 := by
  intro S S_p r r_p hinv hX hin hsm_ hseg
  obtain ⟨I0, I1, h0_, hr_, b_, f_, d_⟩ := bx_cl (evs := [(0, (0, 489), (9, (-1)), .inr (0, (10, 0))), (0, (0, 480), (0, 24), .inr (0, (9, 0)))]) (fvs := [(3, (10, 0), (0, 29), (0, 0)), (3, (10, 0), (0, 30), (0, 0))]) hseg (by decide +kernel) (by decide +kernel)
  have hinv : rxIST_1 S0 ws S (r 8) := hinv
  rw [← hr_ 8 (by decide)] at hinv
  obtain ⟨⟨l8, u8⟩, ⟨l9, u9⟩, ⟨l10, u10⟩, -⟩ := b_
  obtain ⟨f0, f1, -⟩ := f_
  obtain ⟨e0, ⟨e1, w_⟩⟩ := d_
  subst w_
  have g := rxcST_1_3 hP hin I0 hinv l8 u8 l9 u9 l10 u10 f0 f1 e1 e0
  refine ⟨bx_narP_ok (l := []) g.1, bx_nfP_ok h0_ (fvs := []) (by decide +kernel) g.2.1, ?_, ?_⟩
  · show rxIST_2 S0 ws S_p (bx_val [(0, 0), (0, 0), (0, 0), (0, 0), (0, 0), (0, 0), (0, 0), (0, 0), (8, 0), (9, 0)] r_p 8) (bx_val [(0, 0), (0, 0), (0, 0), (0, 0), (0, 0), (0, 0), (0, 0), (0, 0), (8, 0), (9, 0)] r_p 9)
    rw [bx_val_x (n := 8) (e := (8, 0)) h0_ rfl, bx_val_x (n := 9) (e := (9, 0)) h0_ rfl]
    exact g.2.2.1
  · show rxmST_2 S0 ws S_p (bx_val [(0, 0), (0, 0), (0, 0), (0, 0), (0, 0), (0, 0), (0, 0), (0, 0), (8, 0), (9, 0)] r_p 8) (bx_val [(0, 0), (0, 0), (0, 0), (0, 0), (0, 0), (0, 0), (0, 0), (0, 0), (8, 0), (9, 0)] r_p 9) < rxmST_1 S0 ws S_p (r 8)
    rw [bx_val_x (n := 8) (e := (8, 0)) h0_ rfl, bx_val_x (n := 9) (e := (9, 0)) h0_ rfl, ← hr_ 8 (by decide)]
    exact g.2.2.2
theorem rxcST_1_4 {S0 : Nat → Int → Int} {ws : List Int} {S : Nat → Int → Int} {least x9 x10 : Int} (hP : rxPST S0 ws) (hin : bx_same rxL (bx_mdl rxCST.2.2.1) S0 S) (I0 : bx_Inv rxL S) (hinv : rxIST_1 S0 ws S least) (l8 : 1 ≤ least) (u8 : least ≤ 2) (l9 : 1 ≤ x9) (u9 : x9 ≤ 400) (l10 : 29 ≤ x10) (u10 : x10 ≤ 29) (f0 : x10 ≠ 30) (e1 : S 480 24 = x9) (e0 : S 489 (x9 + (-1)) = x10) : (True) ∧ (True) ∧ rxIST_2 S0 ws S least x9 ∧ rxmST_2 S0 ws S least x9 < rxmST_1 S0 ws S least := by
  obtain ⟨hw, hs⟩ := hinv
  have ht : S 489 (S 480 24 - 1) = x10 := by rw [e1, show x9 - 1 = x9 + (-1) by omega]; exact e0
  have hc := rxBd_cases x10
  exact ⟨trivial, trivial, ⟨by omega, hw, hs, by omega, by rw [ht]; omega⟩, by unfold rxmST_1 rxmST_2; omega⟩
theorem rxgST_1_4 {X : (Nat → Int → Int) → Prop} {S0 : Nat → Int → Int} {ws : List Int} (hP : rxPST S0 ws) : bx_obC rxL X S0 rxCST.2.2.1 (rxIST S0 ws) (rxmST S0 ws) 1 rxzST_1 rxoST_1_4 := by
  intro S S_p r r_p hinv hX hin hsm_ hseg
  obtain ⟨I0, I1, h0_, hr_, b_, f_, d_⟩ := bx_cl (evs := [(0, (0, 489), (9, (-1)), .inr (0, (10, 0))), (0, (0, 480), (0, 24), .inr (0, (9, 0)))]) (fvs := [(3, (10, 0), (0, 30), (0, 0))]) hseg (by decide +kernel) (by decide +kernel)
  have hinv : rxIST_1 S0 ws S (r 8) := hinv
  rw [← hr_ 8 (by decide)] at hinv
  obtain ⟨⟨l8, u8⟩, ⟨l9, u9⟩, ⟨l10, u10⟩, -⟩ := b_
  obtain ⟨f0, -⟩ := f_
  obtain ⟨e0, ⟨e1, w_⟩⟩ := d_
  subst w_
  have g := rxcST_1_4 hP hin I0 hinv l8 u8 l9 u9 l10 u10 f0 e1 e0
  refine ⟨bx_narP_ok (l := []) g.1, bx_nfP_ok h0_ (fvs := []) (by decide +kernel) g.2.1, ?_, ?_⟩
  · show rxIST_2 S0 ws S_p (bx_val [(0, 0), (0, 0), (0, 0), (0, 0), (0, 0), (0, 0), (0, 0), (0, 0), (8, 0), (9, 0)] r_p 8) (bx_val [(0, 0), (0, 0), (0, 0), (0, 0), (0, 0), (0, 0), (0, 0), (0, 0), (8, 0), (9, 0)] r_p 9)
    rw [bx_val_x (n := 8) (e := (8, 0)) h0_ rfl, bx_val_x (n := 9) (e := (9, 0)) h0_ rfl]
    exact g.2.2.1
  · show rxmST_2 S0 ws S_p (bx_val [(0, 0), (0, 0), (0, 0), (0, 0), (0, 0), (0, 0), (0, 0), (0, 0), (8, 0), (9, 0)] r_p 8) (bx_val [(0, 0), (0, 0), (0, 0), (0, 0), (0, 0), (0, 0), (0, 0), (0, 0), (8, 0), (9, 0)] r_p 9) < rxmST_1 S0 ws S_p (r 8)
    rw [bx_val_x (n := 8) (e := (8, 0)) h0_ rfl, bx_val_x (n := 9) (e := (9, 0)) h0_ rfl, ← hr_ 8 (by decide)]
    exact g.2.2.2
theorem rxcST_1_5 {S0 : Nat → Int → Int} {ws : List Int} {S : Nat → Int → Int} {least x9 x10 : Int} (hP : rxPST S0 ws) (hin : bx_same rxL (bx_mdl rxCST.2.2.1) S0 S) (I0 : bx_Inv rxL S) (hinv : rxIST_1 S0 ws S least) (l8 : 1 ≤ least) (u8 : least ≤ 1) (l9 : 1 ≤ x9) (u9 : x9 ≤ 400) (l10 : 30 ≤ x10) (u10 : x10 ≤ 30) (e1 : S 480 24 = x9) (e0 : S 489 (x9 + (-1)) = x10) : (True) ∧ (True) ∧ rxIST_2 S0 ws S least x9 ∧ rxmST_2 S0 ws S least x9 < rxmST_1 S0 ws S least := by
  obtain ⟨hw, hs⟩ := hinv
  have ht : S 489 (S 480 24 - 1) = x10 := by rw [e1, show x9 - 1 = x9 + (-1) by omega]; exact e0
  have hc := rxBd_cases x10
  exact ⟨trivial, trivial, ⟨by omega, hw, hs, by omega, by rw [ht]; omega⟩, by unfold rxmST_1 rxmST_2; omega⟩
theorem rxgST_1_5 {X : (Nat → Int → Int) → Prop} {S0 : Nat → Int → Int} {ws : List Int} (hP : rxPST S0 ws) : bx_obC rxL X S0 rxCST.2.2.1 (rxIST S0 ws) (rxmST S0 ws) 1 rxzST_1 rxoST_1_5 := by
  intro S S_p r r_p hinv hX hin hsm_ hseg
  obtain ⟨I0, I1, h0_, hr_, b_, f_, d_⟩ := bx_cl (evs := [(0, (0, 489), (9, (-1)), .inr (0, (10, 0))), (0, (0, 480), (0, 24), .inr (0, (9, 0)))]) (fvs := []) hseg (by decide +kernel) (by decide +kernel)
  have hinv : rxIST_1 S0 ws S (r 8) := hinv
  rw [← hr_ 8 (by decide)] at hinv
  obtain ⟨⟨l8, u8⟩, ⟨l9, u9⟩, ⟨l10, u10⟩, -⟩ := b_
  obtain ⟨e0, ⟨e1, w_⟩⟩ := d_
  subst w_
  have g := rxcST_1_5 hP hin I0 hinv l8 u8 l9 u9 l10 u10 e1 e0
  refine ⟨bx_narP_ok (l := []) g.1, bx_nfP_ok h0_ (fvs := []) (by decide +kernel) g.2.1, ?_, ?_⟩
  · show rxIST_2 S0 ws S_p (bx_val [(0, 0), (0, 0), (0, 0), (0, 0), (0, 0), (0, 0), (0, 0), (0, 0), (8, 0), (9, 0)] r_p 8) (bx_val [(0, 0), (0, 0), (0, 0), (0, 0), (0, 0), (0, 0), (0, 0), (0, 0), (8, 0), (9, 0)] r_p 9)
    rw [bx_val_x (n := 8) (e := (8, 0)) h0_ rfl, bx_val_x (n := 9) (e := (9, 0)) h0_ rfl]
    exact g.2.2.1
  · show rxmST_2 S0 ws S_p (bx_val [(0, 0), (0, 0), (0, 0), (0, 0), (0, 0), (0, 0), (0, 0), (0, 0), (8, 0), (9, 0)] r_p 8) (bx_val [(0, 0), (0, 0), (0, 0), (0, 0), (0, 0), (0, 0), (0, 0), (0, 0), (8, 0), (9, 0)] r_p 9) < rxmST_1 S0 ws S_p (r 8)
    rw [bx_val_x (n := 8) (e := (8, 0)) h0_ rfl, bx_val_x (n := 9) (e := (9, 0)) h0_ rfl, ← hr_ 8 (by decide)]
    exact g.2.2.2
theorem rxdST_1_0 {S0 : Nat → Int → Int} {ws : List Int} {S : Nat → Int → Int} {least x9 x10 : Int} (hP : rxPST S0 ws) (hin : bx_same rxL (bx_mdl rxCST.2.2.1) S0 S) (hin2 : bx_same rxL (bx_mdl rxCST.2.2.1) S S) (I0 : bx_Inv rxL S) (I1 : bx_Inv rxL S) (hinv : rxIST_1 S0 ws S least) (l8 : 6 ≤ least) (u8 : least ≤ 6) (l9 : 1 ≤ x9) (u9 : x9 ≤ 400) (l10 : 0 ≤ x10) (u10 : x10 ≤ 21) (f0 : x10 ≠ 28) (f1 : x10 ≠ 29) (f2 : x10 ≠ 30) (e1 : S 480 24 = x9) (e0 : S 489 (x9 + (-1)) = x10) : (True) ∧ rxPSST S0 ws S none := by
  obtain ⟨hw, hs⟩ := hinv
  have ht : S 489 (S 480 24 - 1) = x10 := by rw [e1, show x9 - 1 = x9 + (-1) by omega]; exact e0
  have hc := rxBd_cases x10
  exact ⟨trivial, rfl, least, hw, hs, Or.inr (by rw [ht]; omega)⟩
theorem rxfST_1_0 {X : (Nat → Int → Int) → Prop} {S0 : Nat → Int → Int} {ws : List Int} (hP : rxPST S0 ws) : bx_obE rxL X S0 rxCST.2.2.1 (rxIST S0 ws) (rxPSST S0 ws) 1 rxzST_1 rxeST_1_0 := by
  intro S S_p r r_p hinv hX hin hsm_ hseg
  obtain ⟨I0, I1, h0_, hr_, b_, f_, d_⟩ := bx_cl (evs := [(0, (0, 489), (9, (-1)), .inr (0, (10, 0))), (0, (0, 480), (0, 24), .inr (0, (9, 0)))]) (fvs := [(3, (10, 0), (0, 28), (0, 0)), (3, (10, 0), (0, 29), (0, 0)), (3, (10, 0), (0, 30), (0, 0))]) hseg (by decide +kernel) (by decide +kernel)
  have hinv : rxIST_1 S0 ws S (r 8) := hinv
  rw [← hr_ 8 (by decide)] at hinv
  obtain ⟨⟨l8, u8⟩, ⟨l9, u9⟩, ⟨l10, u10⟩, -⟩ := b_
  obtain ⟨f0, f1, f2, -⟩ := f_
  obtain ⟨e0, ⟨e1, w_⟩⟩ := d_
  subst w_
  have g := rxdST_1_0 hP hin hsm_ I0 I1 hinv l8 u8 l9 u9 l10 u10 f0 f1 f2 e1 e0
  refine ⟨bx_narP_ok (l := []) g.1, ?_⟩
  exact g.2
theorem rxdST_1_1 {S0 : Nat → Int → Int} {ws : List Int} {S : Nat → Int → Int} {least x9 x10 : Int} (hP : rxPST S0 ws) (hin : bx_same rxL (bx_mdl rxCST.2.2.1) S0 S) (hin2 : bx_same rxL (bx_mdl rxCST.2.2.1) S S) (I0 : bx_Inv rxL S) (I1 : bx_Inv rxL S) (hinv : rxIST_1 S0 ws S least) (l8 : 5 ≤ least) (u8 : least ≤ 6) (l9 : 1 ≤ x9) (u9 : x9 ≤ 400) (l10 : 25 ≤ x10) (u10 : x10 ≤ 27) (f0 : x10 ≠ 28) (f1 : x10 ≠ 29) (f2 : x10 ≠ 30) (e1 : S 480 24 = x9) (e0 : S 489 (x9 + (-1)) = x10) : (True) ∧ rxPSST S0 ws S none := by
  obtain ⟨hw, hs⟩ := hinv
  have ht : S 489 (S 480 24 - 1) = x10 := by rw [e1, show x9 - 1 = x9 + (-1) by omega]; exact e0
  have hc := rxBd_cases x10
  exact ⟨trivial, rfl, least, hw, hs, Or.inr (by rw [ht]; omega)⟩
theorem rxfST_1_1 {X : (Nat → Int → Int) → Prop} {S0 : Nat → Int → Int} {ws : List Int} (hP : rxPST S0 ws) : bx_obE rxL X S0 rxCST.2.2.1 (rxIST S0 ws) (rxPSST S0 ws) 1 rxzST_1 rxeST_1_1 := by
  intro S S_p r r_p hinv hX hin hsm_ hseg
  obtain ⟨I0, I1, h0_, hr_, b_, f_, d_⟩ := bx_cl (evs := [(0, (0, 489), (9, (-1)), .inr (0, (10, 0))), (0, (0, 480), (0, 24), .inr (0, (9, 0)))]) (fvs := [(3, (10, 0), (0, 28), (0, 0)), (3, (10, 0), (0, 29), (0, 0)), (3, (10, 0), (0, 30), (0, 0))]) hseg (by decide +kernel) (by decide +kernel)
  have hinv : rxIST_1 S0 ws S (r 8) := hinv
  rw [← hr_ 8 (by decide)] at hinv
  obtain ⟨⟨l8, u8⟩, ⟨l9, u9⟩, ⟨l10, u10⟩, -⟩ := b_
  obtain ⟨f0, f1, f2, -⟩ := f_
  obtain ⟨e0, ⟨e1, w_⟩⟩ := d_
  subst w_
  have g := rxdST_1_1 hP hin hsm_ I0 I1 hinv l8 u8 l9 u9 l10 u10 f0 f1 f2 e1 e0
  refine ⟨bx_narP_ok (l := []) g.1, ?_⟩
  exact g.2
theorem rxdST_1_2 {S0 : Nat → Int → Int} {ws : List Int} {S : Nat → Int → Int} {least x9 x10 : Int} (hP : rxPST S0 ws) (hin : bx_same rxL (bx_mdl rxCST.2.2.1) S0 S) (hin2 : bx_same rxL (bx_mdl rxCST.2.2.1) S S) (I0 : bx_Inv rxL S) (I1 : bx_Inv rxL S) (hinv : rxIST_1 S0 ws S least) (l8 : 4 ≤ least) (u8 : least ≤ 6) (l9 : 1 ≤ x9) (u9 : x9 ≤ 400) (l10 : 28 ≤ x10) (u10 : x10 ≤ 28) (f0 : x10 ≠ 29) (f1 : x10 ≠ 30) (e1 : S 480 24 = x9) (e0 : S 489 (x9 + (-1)) = x10) : (True) ∧ rxPSST S0 ws S none := by
  obtain ⟨hw, hs⟩ := hinv
  have ht : S 489 (S 480 24 - 1) = x10 := by rw [e1, show x9 - 1 = x9 + (-1) by omega]; exact e0
  have hc := rxBd_cases x10
  exact ⟨trivial, rfl, least, hw, hs, Or.inr (by rw [ht]; omega)⟩
theorem rxfST_1_2 {X : (Nat → Int → Int) → Prop} {S0 : Nat → Int → Int} {ws : List Int} (hP : rxPST S0 ws) : bx_obE rxL X S0 rxCST.2.2.1 (rxIST S0 ws) (rxPSST S0 ws) 1 rxzST_1 rxeST_1_2 := by
  intro S S_p r r_p hinv hX hin hsm_ hseg
  obtain ⟨I0, I1, h0_, hr_, b_, f_, d_⟩ := bx_cl (evs := [(0, (0, 489), (9, (-1)), .inr (0, (10, 0))), (0, (0, 480), (0, 24), .inr (0, (9, 0)))]) (fvs := [(3, (10, 0), (0, 29), (0, 0)), (3, (10, 0), (0, 30), (0, 0))]) hseg (by decide +kernel) (by decide +kernel)
  have hinv : rxIST_1 S0 ws S (r 8) := hinv
  rw [← hr_ 8 (by decide)] at hinv
  obtain ⟨⟨l8, u8⟩, ⟨l9, u9⟩, ⟨l10, u10⟩, -⟩ := b_
  obtain ⟨f0, f1, -⟩ := f_
  obtain ⟨e0, ⟨e1, w_⟩⟩ := d_
  subst w_
  have g := rxdST_1_2 hP hin hsm_ I0 I1 hinv l8 u8 l9 u9 l10 u10 f0 f1 e1 e0
  refine ⟨bx_narP_ok (l := []) g.1, ?_⟩
  exact g.2
theorem rxdST_1_3 {S0 : Nat → Int → Int} {ws : List Int} {S : Nat → Int → Int} {least x9 x10 : Int} (hP : rxPST S0 ws) (hin : bx_same rxL (bx_mdl rxCST.2.2.1) S0 S) (hin2 : bx_same rxL (bx_mdl rxCST.2.2.1) S S) (I0 : bx_Inv rxL S) (I1 : bx_Inv rxL S) (hinv : rxIST_1 S0 ws S least) (l8 : 3 ≤ least) (u8 : least ≤ 6) (l9 : 1 ≤ x9) (u9 : x9 ≤ 400) (l10 : 29 ≤ x10) (u10 : x10 ≤ 29) (f0 : x10 ≠ 30) (e1 : S 480 24 = x9) (e0 : S 489 (x9 + (-1)) = x10) : (True) ∧ rxPSST S0 ws S none := by
  obtain ⟨hw, hs⟩ := hinv
  have ht : S 489 (S 480 24 - 1) = x10 := by rw [e1, show x9 - 1 = x9 + (-1) by omega]; exact e0
  have hc := rxBd_cases x10
  exact ⟨trivial, rfl, least, hw, hs, Or.inr (by rw [ht]; omega)⟩
theorem rxfST_1_3 {X : (Nat → Int → Int) → Prop} {S0 : Nat → Int → Int} {ws : List Int} (hP : rxPST S0 ws) : bx_obE rxL X S0 rxCST.2.2.1 (rxIST S0 ws) (rxPSST S0 ws) 1 rxzST_1 rxeST_1_3 := by
  intro S S_p r r_p hinv hX hin hsm_ hseg
  obtain ⟨I0, I1, h0_, hr_, b_, f_, d_⟩ := bx_cl (evs := [(0, (0, 489), (9, (-1)), .inr (0, (10, 0))), (0, (0, 480), (0, 24), .inr (0, (9, 0)))]) (fvs := [(3, (10, 0), (0, 30), (0, 0))]) hseg (by decide +kernel) (by decide +kernel)
  have hinv : rxIST_1 S0 ws S (r 8) := hinv
  rw [← hr_ 8 (by decide)] at hinv
  obtain ⟨⟨l8, u8⟩, ⟨l9, u9⟩, ⟨l10, u10⟩, -⟩ := b_
  obtain ⟨f0, -⟩ := f_
  obtain ⟨e0, ⟨e1, w_⟩⟩ := d_
  subst w_
  have g := rxdST_1_3 hP hin hsm_ I0 I1 hinv l8 u8 l9 u9 l10 u10 f0 e1 e0
  refine ⟨bx_narP_ok (l := []) g.1, ?_⟩
  exact g.2
theorem rxdST_1_4 {S0 : Nat → Int → Int} {ws : List Int} {S : Nat → Int → Int} {least x9 x10 : Int} (hP : rxPST S0 ws) (hin : bx_same rxL (bx_mdl rxCST.2.2.1) S0 S) (hin2 : bx_same rxL (bx_mdl rxCST.2.2.1) S S) (I0 : bx_Inv rxL S) (I1 : bx_Inv rxL S) (hinv : rxIST_1 S0 ws S least) (l8 : 2 ≤ least) (u8 : least ≤ 6) (l9 : 1 ≤ x9) (u9 : x9 ≤ 400) (l10 : 30 ≤ x10) (u10 : x10 ≤ 30) (e1 : S 480 24 = x9) (e0 : S 489 (x9 + (-1)) = x10) : (True) ∧ rxPSST S0 ws S none := by
  obtain ⟨hw, hs⟩ := hinv
  have ht : S 489 (S 480 24 - 1) = x10 := by rw [e1, show x9 - 1 = x9 + (-1) by omega]; exact e0
  have hc := rxBd_cases x10
  exact ⟨trivial, rfl, least, hw, hs, Or.inr (by rw [ht]; omega)⟩
theorem rxfST_1_4 {X : (Nat → Int → Int) → Prop} {S0 : Nat → Int → Int} {ws : List Int} (hP : rxPST S0 ws) : bx_obE rxL X S0 rxCST.2.2.1 (rxIST S0 ws) (rxPSST S0 ws) 1 rxzST_1 rxeST_1_4 := by
  intro S S_p r r_p hinv hX hin hsm_ hseg
  obtain ⟨I0, I1, h0_, hr_, b_, f_, d_⟩ := bx_cl (evs := [(0, (0, 489), (9, (-1)), .inr (0, (10, 0))), (0, (0, 480), (0, 24), .inr (0, (9, 0)))]) (fvs := []) hseg (by decide +kernel) (by decide +kernel)
  have hinv : rxIST_1 S0 ws S (r 8) := hinv
  rw [← hr_ 8 (by decide)] at hinv
  obtain ⟨⟨l8, u8⟩, ⟨l9, u9⟩, ⟨l10, u10⟩, -⟩ := b_
  obtain ⟨e0, ⟨e1, w_⟩⟩ := d_
  subst w_
  have g := rxdST_1_4 hP hin hsm_ I0 I1 hinv l8 u8 l9 u9 l10 u10 e1 e0
  refine ⟨bx_narP_ok (l := []) g.1, ?_⟩
  exact g.2
theorem rxdST_1_5 {S0 : Nat → Int → Int} {ws : List Int} {S : Nat → Int → Int} {least x9 x10 : Int} (hP : rxPST S0 ws) (hin : bx_same rxL (bx_mdl rxCST.2.2.1) S0 S) (hin2 : bx_same rxL (bx_mdl rxCST.2.2.1) S S) (I0 : bx_Inv rxL S) (I1 : bx_Inv rxL S) (hinv : rxIST_1 S0 ws S least) (l8 : 1 ≤ least) (u8 : least ≤ 6) (l9 : 1 ≤ x9) (u9 : x9 ≤ 400) (l10 : 31 ≤ x10) (u10 : x10 ≤ 32) (e1 : S 480 24 = x9) (e0 : S 489 (x9 + (-1)) = x10) : (True) ∧ rxPSST S0 ws S none := by
  obtain ⟨hw, hs⟩ := hinv
  have ht : S 489 (S 480 24 - 1) = x10 := by rw [e1, show x9 - 1 = x9 + (-1) by omega]; exact e0
  have hc := rxBd_cases x10
  exact ⟨trivial, rfl, least, hw, hs, Or.inr (by rw [ht]; omega)⟩
theorem rxfST_1_5 {X : (Nat → Int → Int) → Prop} {S0 : Nat → Int → Int} {ws : List Int} (hP : rxPST S0 ws) : bx_obE rxL X S0 rxCST.2.2.1 (rxIST S0 ws) (rxPSST S0 ws) 1 rxzST_1 rxeST_1_5 := by
  intro S S_p r r_p hinv hX hin hsm_ hseg
  obtain ⟨I0, I1, h0_, hr_, b_, f_, d_⟩ := bx_cl (evs := [(0, (0, 489), (9, (-1)), .inr (0, (10, 0))), (0, (0, 480), (0, 24), .inr (0, (9, 0)))]) (fvs := []) hseg (by decide +kernel) (by decide +kernel)
  have hinv : rxIST_1 S0 ws S (r 8) := hinv
  rw [← hr_ 8 (by decide)] at hinv
  obtain ⟨⟨l8, u8⟩, ⟨l9, u9⟩, ⟨l10, u10⟩, -⟩ := b_
  obtain ⟨e0, ⟨e1, w_⟩⟩ := d_
  subst w_
  have g := rxdST_1_5 hP hin hsm_ I0 I1 hinv l8 u8 l9 u9 l10 u10 e1 e0
  refine ⟨bx_narP_ok (l := []) g.1, ?_⟩
  exact g.2
theorem rxdST_1_6 {S0 : Nat → Int → Int} {ws : List Int} {S : Nat → Int → Int} {least x9 : Int} (hP : rxPST S0 ws) (hin : bx_same rxL (bx_mdl rxCST.2.2.1) S0 S) (hin2 : bx_same rxL (bx_mdl rxCST.2.2.1) S S) (I0 : bx_Inv rxL S) (I1 : bx_Inv rxL S) (hinv : rxIST_1 S0 ws S least) (l8 : 1 ≤ least) (u8 : least ≤ 6) (l9 : 0 ≤ x9) (u9 : x9 ≤ 0) (e0 : S 480 24 = x9) : (True) ∧ rxPSST S0 ws S none := by
  obtain ⟨hw, hs⟩ := hinv
  have h0 := hs.2.1
  exact ⟨trivial, rfl, least, hw, hs, Or.inl (by omega)⟩
theorem rxfST_1_6 {X : (Nat → Int → Int) → Prop} {S0 : Nat → Int → Int} {ws : List Int} (hP : rxPST S0 ws) : bx_obE rxL X S0 rxCST.2.2.1 (rxIST S0 ws) (rxPSST S0 ws) 1 rxzST_1 rxeST_1_6 := by
  intro S S_p r r_p hinv hX hin hsm_ hseg
  obtain ⟨I0, I1, h0_, hr_, b_, f_, d_⟩ := bx_cl (evs := [(0, (0, 480), (0, 24), .inr (0, (9, 0)))]) (fvs := []) hseg (by decide +kernel) (by decide +kernel)
  have hinv : rxIST_1 S0 ws S (r 8) := hinv
  rw [← hr_ 8 (by decide)] at hinv
  obtain ⟨⟨l8, u8⟩, ⟨l9, u9⟩, -⟩ := b_
  obtain ⟨e0, w_⟩ := d_
  subst w_
  have g := rxdST_1_6 hP hin hsm_ I0 I1 hinv l8 u8 l9 u9 e0
  refine ⟨bx_narP_ok (l := []) g.1, ?_⟩
  exact g.2
theorem rxcST_2_0 {S0 : Nat → Int → Int} {ws : List Int} {S : Nat → Int → Int} {least p x10 x11 x12 x13 : Int} (hP : rxPST S0 ws) (hin : bx_same rxL (bx_mdl rxCST.2.2.1) S0 S) (I0 : bx_Inv rxL S) (hinv : rxIST_2 S0 ws S least p) (l8 : 1 ≤ least) (u8 : least ≤ 6) (l9 : 1 ≤ p) (u9 : p ≤ 400) (l10 : 0 ≤ x10) (u10 : x10 ≤ 32) (l11 : 30 ≤ x11) (u11 : x11 ≤ 30) (l12 : 0 ≤ x12) (u12 : x12 ≤ 400) (l13 : 0 ≤ x13) (u13 : x13 ≤ 400) (f0 : x10 ≠ 29) (e3 : (bx_up S 480 24 (p + (-1))) 489 (p + (-1)) = x10) (e2 : (bx_up S 480 24 (p + (-1))) 489 (p + (-1)) = x11) (e1 : (bx_up S 480 24 (p + (-1))) 490 (p + (-1)) = x12) (e0 : (bx_up S 480 24 (p + (-1))) 480 18 = x13) : ((0 ≤ x12 ∧ x12 ≤ 399) ∧ True) ∧ (True) ∧ rxIST_3 S0 ws (bx_up S 480 24 (p + (-1))) least x12 x13 ∧ rxmST_3 S0 ws (bx_up S 480 24 (p + (-1))) least x12 x13 < rxmST_2 S0 ws S least p := by
  obtain ⟨hp, hw, hs, h1, hb⟩ := hinv
  have hx : S 480 24 - 1 = p + (-1) := by omega
  rw [show (bx_up S 480 24 (p + (-1))) 489 (p + (-1)) = S 489 (p + (-1)) by simp [bx_up]] at e2
  rw [show (bx_up S 480 24 (p + (-1))) 489 (p + (-1)) = S 489 (p + (-1)) by simp [bx_up]] at e3
  rw [show (bx_up S 480 24 (p + (-1))) 490 (p + (-1)) = S 490 (p + (-1)) by simp [bx_up]] at e1
  rw [show (bx_up S 480 24 (p + (-1))) 480 18 = S 480 18 by simp [bx_up]] at e0
  have hj : rxJmp (S 489 (S 480 24 - 1)) := by
    rw [hx]
    unfold rxJmp
    omega
  have hpz := hs.1.1 (S 480 24 - 1) (by omega) (by omega) hj
  have hle := hs.2.2.2.2.1
  have hP2 := hP.2.2
  rw [hx] at hpz
  have hz := hs.2.1
  exact ⟨⟨by omega, trivial⟩, trivial, ⟨S, hs, hw, h1, by rw [hx], hb, hj, by rw [hx]; omega, by omega⟩, by unfold rxmST_2 rxmST_3; rw [show (bx_up S 480 24 (p + (-1))) 480 24 = p + (-1) by simp [bx_up]]; omega⟩
theorem rxgST_2_0 {X : (Nat → Int → Int) → Prop} {S0 : Nat → Int → Int} {ws : List Int} (hP : rxPST S0 ws) : bx_obC rxL X S0 rxCST.2.2.1 (rxIST S0 ws) (rxmST S0 ws) 2 rxzST_2 rxoST_2_0 := by
  intro S S_p r r_p hinv hX hin hsm_ hseg
  obtain ⟨I0, I1, h0_, hr_, b_, f_, d_⟩ := bx_cl (evs := [(0, (0, 480), (0, 18), .inr (0, (13, 0))), (0, (0, 490), (9, (-1)), .inr (0, (12, 0))), (0, (0, 489), (9, (-1)), .inr (0, (11, 0))), (0, (0, 489), (9, (-1)), .inr (0, (10, 0))), (1, (0, 480), (0, 24), .inr (0, (9, (-1))))]) (fvs := [(3, (10, 0), (0, 29), (0, 0))]) hseg (by decide +kernel) (by decide +kernel)
  have hinv : rxIST_2 S0 ws S (r 8) (r 9) := hinv
  rw [← hr_ 8 (by decide), ← hr_ 9 (by decide)] at hinv
  obtain ⟨⟨l8, u8⟩, ⟨l9, u9⟩, ⟨l10, u10⟩, ⟨l11, u11⟩, ⟨l12, u12⟩, ⟨l13, u13⟩, -⟩ := b_
  obtain ⟨f0, -⟩ := f_
  obtain ⟨e0, ⟨e1, ⟨e2, ⟨e3, ⟨T4, w_, w4⟩⟩⟩⟩⟩ := d_
  subst w4
  subst w_
  have g := rxcST_2_0 hP hin I0 hinv l8 u8 l9 u9 l10 u10 l11 u11 l12 u12 l13 u13 f0 e3 e2 e1 e0
  refine ⟨bx_narP_ok (l := [(12, 0, 399)]) g.1, bx_nfP_ok h0_ (fvs := []) (by decide +kernel) g.2.1, ?_, ?_⟩
  · show rxIST_3 S0 ws (bx_up T4 480 (24) (r_p 9 + (-1))) (bx_val [(0, 0), (0, 0), (0, 0), (0, 0), (0, 0), (0, 0), (0, 0), (0, 0), (8, 0), (12, 0), (13, 0)] r_p 8) (bx_val [(0, 0), (0, 0), (0, 0), (0, 0), (0, 0), (0, 0), (0, 0), (0, 0), (8, 0), (12, 0), (13, 0)] r_p 9) (bx_val [(0, 0), (0, 0), (0, 0), (0, 0), (0, 0), (0, 0), (0, 0), (0, 0), (8, 0), (12, 0), (13, 0)] r_p 10)
    rw [bx_val_x (n := 8) (e := (8, 0)) h0_ rfl, bx_val_x (n := 9) (e := (12, 0)) h0_ rfl, bx_val_x (n := 10) (e := (13, 0)) h0_ rfl]
    exact g.2.2.1
  · show rxmST_3 S0 ws (bx_up T4 480 (24) (r_p 9 + (-1))) (bx_val [(0, 0), (0, 0), (0, 0), (0, 0), (0, 0), (0, 0), (0, 0), (0, 0), (8, 0), (12, 0), (13, 0)] r_p 8) (bx_val [(0, 0), (0, 0), (0, 0), (0, 0), (0, 0), (0, 0), (0, 0), (0, 0), (8, 0), (12, 0), (13, 0)] r_p 9) (bx_val [(0, 0), (0, 0), (0, 0), (0, 0), (0, 0), (0, 0), (0, 0), (0, 0), (8, 0), (12, 0), (13, 0)] r_p 10) < rxmST_2 S0 ws T4 (r 8) (r 9)
    rw [bx_val_x (n := 8) (e := (8, 0)) h0_ rfl, bx_val_x (n := 9) (e := (12, 0)) h0_ rfl, bx_val_x (n := 10) (e := (13, 0)) h0_ rfl, ← hr_ 8 (by decide), ← hr_ 9 (by decide)]
    exact g.2.2.2
theorem rxcST_2_1 {S0 : Nat → Int → Int} {ws : List Int} {S : Nat → Int → Int} {least p x10 x11 x12 : Int} (hP : rxPST S0 ws) (hin : bx_same rxL (bx_mdl rxCST.2.2.1) S0 S) (I0 : bx_Inv rxL S) (hinv : rxIST_2 S0 ws S least p) (l8 : 1 ≤ least) (u8 : least ≤ 6) (l9 : 1 ≤ p) (u9 : p ≤ 400) (l10 : 0 ≤ x10) (u10 : x10 ≤ 32) (l11 : 0 ≤ x11) (u11 : x11 ≤ 32) (l12 : 0 ≤ x12) (u12 : x12 ≤ 32) (f0 : x11 ≠ 30) (f1 : x10 ≠ 29) (e2 : (bx_up S 480 24 (p + (-1))) 489 (p + (-1)) = x10) (e1 : (bx_up S 480 24 (p + (-1))) 489 (p + (-1)) = x11) (e0 : (bx_up S 480 24 (p + (-1))) 489 (p + (-1)) = x12) : ((0 ≤ x12 ∧ x12 ≤ 30) ∧ True) ∧ (True) ∧ rxIST_4 S0 ws (bx_up S 480 24 (p + (-1))) least x12 ∧ rxmST_4 S0 ws (bx_up S 480 24 (p + (-1))) least x12 < rxmST_2 S0 ws S least p := by
  obtain ⟨hp, hw, hs, h1, hb⟩ := hinv
  have hx : S 480 24 - 1 = p + (-1) := by omega
  rw [show (bx_up S 480 24 (p + (-1))) 489 (p + (-1)) = S 489 (p + (-1)) by simp [bx_up]] at e0
  rw [show (bx_up S 480 24 (p + (-1))) 489 (p + (-1)) = S 489 (p + (-1)) by simp [bx_up]] at e1
  rw [show (bx_up S 480 24 (p + (-1))) 489 (p + (-1)) = S 489 (p + (-1)) by simp [bx_up]] at e2
  have hj : ¬ rxJmp (S 489 (S 480 24 - 1)) := by
    rw [hx]
    unfold rxJmp
    omega
  have hl := rxBd31 (v := S 489 (S 480 24 - 1)) (by omega)
  rw [hx] at hl
  exact ⟨⟨by omega, trivial⟩, trivial, ⟨S, hs, hw, h1, by rw [hx], hb, hj, by rw [hx]; omega⟩, by unfold rxmST_2 rxmST_4; rw [show (bx_up S 480 24 (p + (-1))) 480 24 = p + (-1) by simp [bx_up]]; omega⟩
theorem rxgST_2_1 {X : (Nat → Int → Int) → Prop} {S0 : Nat → Int → Int} {ws : List Int} (hP : rxPST S0 ws) : bx_obC rxL X S0 rxCST.2.2.1 (rxIST S0 ws) (rxmST S0 ws) 2 rxzST_2 rxoST_2_1 := by
  intro S S_p r r_p hinv hX hin hsm_ hseg
  obtain ⟨I0, I1, h0_, hr_, b_, f_, d_⟩ := bx_cl (evs := [(0, (0, 489), (9, (-1)), .inr (0, (12, 0))), (0, (0, 489), (9, (-1)), .inr (0, (11, 0))), (0, (0, 489), (9, (-1)), .inr (0, (10, 0))), (1, (0, 480), (0, 24), .inr (0, (9, (-1))))]) (fvs := [(3, (11, 0), (0, 30), (0, 0)), (3, (10, 0), (0, 29), (0, 0))]) hseg (by decide +kernel) (by decide +kernel)
  have hinv : rxIST_2 S0 ws S (r 8) (r 9) := hinv
  rw [← hr_ 8 (by decide), ← hr_ 9 (by decide)] at hinv
  obtain ⟨⟨l8, u8⟩, ⟨l9, u9⟩, ⟨l10, u10⟩, ⟨l11, u11⟩, ⟨l12, u12⟩, -⟩ := b_
  obtain ⟨f0, f1, -⟩ := f_
  obtain ⟨e0, ⟨e1, ⟨e2, ⟨T3, w_, w3⟩⟩⟩⟩ := d_
  subst w3
  subst w_
  have g := rxcST_2_1 hP hin I0 hinv l8 u8 l9 u9 l10 u10 l11 u11 l12 u12 f0 f1 e2 e1 e0
  refine ⟨bx_narP_ok (l := [(12, 0, 30)]) g.1, bx_nfP_ok h0_ (fvs := []) (by decide +kernel) g.2.1, ?_, ?_⟩
  · show rxIST_4 S0 ws (bx_up T3 480 (24) (r_p 9 + (-1))) (bx_val [(0, 0), (0, 0), (0, 0), (0, 0), (0, 0), (0, 0), (0, 0), (0, 0), (8, 0), (12, 0)] r_p 8) (bx_val [(0, 0), (0, 0), (0, 0), (0, 0), (0, 0), (0, 0), (0, 0), (0, 0), (8, 0), (12, 0)] r_p 9)
    rw [bx_val_x (n := 8) (e := (8, 0)) h0_ rfl, bx_val_x (n := 9) (e := (12, 0)) h0_ rfl]
    exact g.2.2.1
  · show rxmST_4 S0 ws (bx_up T3 480 (24) (r_p 9 + (-1))) (bx_val [(0, 0), (0, 0), (0, 0), (0, 0), (0, 0), (0, 0), (0, 0), (0, 0), (8, 0), (12, 0)] r_p 8) (bx_val [(0, 0), (0, 0), (0, 0), (0, 0), (0, 0), (0, 0), (0, 0), (0, 0), (8, 0), (12, 0)] r_p 9) < rxmST_2 S0 ws T3 (r 8) (r 9)
    rw [bx_val_x (n := 8) (e := (8, 0)) h0_ rfl, bx_val_x (n := 9) (e := (12, 0)) h0_ rfl, ← hr_ 8 (by decide), ← hr_ 9 (by decide)]
    exact g.2.2.2
theorem rxcST_2_2 {S0 : Nat → Int → Int} {ws : List Int} {S : Nat → Int → Int} {least p x10 x11 x12 : Int} (hP : rxPST S0 ws) (hin : bx_same rxL (bx_mdl rxCST.2.2.1) S0 S) (I0 : bx_Inv rxL S) (hinv : rxIST_2 S0 ws S least p) (l8 : 1 ≤ least) (u8 : least ≤ 6) (l9 : 1 ≤ p) (u9 : p ≤ 400) (l10 : 29 ≤ x10) (u10 : x10 ≤ 29) (l11 : 0 ≤ x11) (u11 : x11 ≤ 400) (l12 : 0 ≤ x12) (u12 : x12 ≤ 400) (e2 : (bx_up S 480 24 (p + (-1))) 489 (p + (-1)) = x10) (e1 : (bx_up S 480 24 (p + (-1))) 490 (p + (-1)) = x11) (e0 : (bx_up S 480 24 (p + (-1))) 480 18 = x12) : ((0 ≤ x11 ∧ x11 ≤ 399) ∧ True) ∧ (True) ∧ rxIST_3 S0 ws (bx_up S 480 24 (p + (-1))) least x11 x12 ∧ rxmST_3 S0 ws (bx_up S 480 24 (p + (-1))) least x11 x12 < rxmST_2 S0 ws S least p := by
  obtain ⟨hp, hw, hs, h1, hb⟩ := hinv
  have hx : S 480 24 - 1 = p + (-1) := by omega
  rw [show (bx_up S 480 24 (p + (-1))) 489 (p + (-1)) = S 489 (p + (-1)) by simp [bx_up]] at e2
  rw [show (bx_up S 480 24 (p + (-1))) 490 (p + (-1)) = S 490 (p + (-1)) by simp [bx_up]] at e1
  rw [show (bx_up S 480 24 (p + (-1))) 480 18 = S 480 18 by simp [bx_up]] at e0
  have hj : rxJmp (S 489 (S 480 24 - 1)) := by
    rw [hx]
    unfold rxJmp
    omega
  have hpz := hs.1.1 (S 480 24 - 1) (by omega) (by omega) hj
  have hle := hs.2.2.2.2.1
  have hP2 := hP.2.2
  rw [hx] at hpz
  have hz := hs.2.1
  exact ⟨⟨by omega, trivial⟩, trivial, ⟨S, hs, hw, h1, by rw [hx], hb, hj, by rw [hx]; omega, by omega⟩, by unfold rxmST_2 rxmST_3; rw [show (bx_up S 480 24 (p + (-1))) 480 24 = p + (-1) by simp [bx_up]]; omega⟩
theorem rxgST_2_2 {X : (Nat → Int → Int) → Prop} {S0 : Nat → Int → Int} {ws : List Int} (hP : rxPST S0 ws) : bx_obC rxL X S0 rxCST.2.2.1 (rxIST S0 ws) (rxmST S0 ws) 2 rxzST_2 rxoST_2_2 := by
  intro S S_p r r_p hinv hX hin hsm_ hseg
  obtain ⟨I0, I1, h0_, hr_, b_, f_, d_⟩ := bx_cl (evs := [(0, (0, 480), (0, 18), .inr (0, (12, 0))), (0, (0, 490), (9, (-1)), .inr (0, (11, 0))), (0, (0, 489), (9, (-1)), .inr (0, (10, 0))), (1, (0, 480), (0, 24), .inr (0, (9, (-1))))]) (fvs := []) hseg (by decide +kernel) (by decide +kernel)
  have hinv : rxIST_2 S0 ws S (r 8) (r 9) := hinv
  rw [← hr_ 8 (by decide), ← hr_ 9 (by decide)] at hinv
  obtain ⟨⟨l8, u8⟩, ⟨l9, u9⟩, ⟨l10, u10⟩, ⟨l11, u11⟩, ⟨l12, u12⟩, -⟩ := b_
  obtain ⟨e0, ⟨e1, ⟨e2, ⟨T3, w_, w3⟩⟩⟩⟩ := d_
  subst w3
  subst w_
  have g := rxcST_2_2 hP hin I0 hinv l8 u8 l9 u9 l10 u10 l11 u11 l12 u12 e2 e1 e0
  refine ⟨bx_narP_ok (l := [(11, 0, 399)]) g.1, bx_nfP_ok h0_ (fvs := []) (by decide +kernel) g.2.1, ?_, ?_⟩
  · show rxIST_3 S0 ws (bx_up T3 480 (24) (r_p 9 + (-1))) (bx_val [(0, 0), (0, 0), (0, 0), (0, 0), (0, 0), (0, 0), (0, 0), (0, 0), (8, 0), (11, 0), (12, 0)] r_p 8) (bx_val [(0, 0), (0, 0), (0, 0), (0, 0), (0, 0), (0, 0), (0, 0), (0, 0), (8, 0), (11, 0), (12, 0)] r_p 9) (bx_val [(0, 0), (0, 0), (0, 0), (0, 0), (0, 0), (0, 0), (0, 0), (0, 0), (8, 0), (11, 0), (12, 0)] r_p 10)
    rw [bx_val_x (n := 8) (e := (8, 0)) h0_ rfl, bx_val_x (n := 9) (e := (11, 0)) h0_ rfl, bx_val_x (n := 10) (e := (12, 0)) h0_ rfl]
    exact g.2.2.1
  · show rxmST_3 S0 ws (bx_up T3 480 (24) (r_p 9 + (-1))) (bx_val [(0, 0), (0, 0), (0, 0), (0, 0), (0, 0), (0, 0), (0, 0), (0, 0), (8, 0), (11, 0), (12, 0)] r_p 8) (bx_val [(0, 0), (0, 0), (0, 0), (0, 0), (0, 0), (0, 0), (0, 0), (0, 0), (8, 0), (11, 0), (12, 0)] r_p 9) (bx_val [(0, 0), (0, 0), (0, 0), (0, 0), (0, 0), (0, 0), (0, 0), (0, 0), (8, 0), (11, 0), (12, 0)] r_p 10) < rxmST_2 S0 ws T3 (r 8) (r 9)
    rw [bx_val_x (n := 8) (e := (8, 0)) h0_ rfl, bx_val_x (n := 9) (e := (11, 0)) h0_ rfl, bx_val_x (n := 10) (e := (12, 0)) h0_ rfl, ← hr_ 8 (by decide), ← hr_ 9 (by decide)]
    exact g.2.2.2
theorem rxcST_3_0 {S0 : Nat → Int → Int} {ws : List Int} {S : Nat → Int → Int} {least y n : Int} (hP : rxPST S0 ws) (hin : bx_same rxL (bx_mdl rxCST.2.2.1) S0 S) (I0 : bx_Inv rxL S) (hinv : rxIST_3 S0 ws S least y n) (l8 : 1 ≤ least) (u8 : least ≤ 6) (l9 : 0 ≤ y) (u9 : y ≤ 399) (l10 : 0 ≤ n) (u10 : n ≤ 400) : (True) ∧ (True) ∧ rxIST_1 S0 ws (bx_up S 488 y n) least ∧ rxmST_1 S0 ws (bx_up S 488 y n) least < rxmST_3 S0 ws S least y n := by
  obtain ⟨S1, hs, hw, h1, rfl, hb, hj, rfl, rfl⟩ := hinv
  refine ⟨trivial, trivial, ⟨hw, rxSt_jmp hs l8 h1 hj hb (by simp [bx_up]) (by simp [bx_up]) (by simp [bx_up]) (funext fun x => by simp [bx_up]) (funext fun x => by simp [bx_up]) (funext fun x => by simp [bx_up]) (fun k hk => ?_) (by simp [bx_up])⟩, ?_⟩
  · rw [bx_up_ne (by omega), bx_up_row (by omega)]
  · unfold rxmST_3 rxmST_1
    rw [bx_up_row (p := 488) (p_p := 480) (by omega)]
    omega
theorem rxgST_3_0 {X : (Nat → Int → Int) → Prop} {S0 : Nat → Int → Int} {ws : List Int} (hP : rxPST S0 ws) : bx_obC rxL X S0 rxCST.2.2.1 (rxIST S0 ws) (rxmST S0 ws) 3 rxzST_3 rxoST_3_0 := by
  intro S S_p r r_p hinv hX hin hsm_ hseg
  obtain ⟨I0, I1, h0_, hr_, b_, f_, d_⟩ := bx_cl (evs := [(1, (0, 488), (9, 0), .inr (0, (10, 0)))]) (fvs := []) hseg (by decide +kernel) (by decide +kernel)
  have hinv : rxIST_3 S0 ws S (r 8) (r 9) (r 10) := hinv
  rw [← hr_ 8 (by decide), ← hr_ 9 (by decide), ← hr_ 10 (by decide)] at hinv
  obtain ⟨⟨l8, u8⟩, ⟨l9, u9⟩, ⟨l10, u10⟩, -⟩ := b_
  obtain ⟨T0, w_, w0⟩ := d_
  subst w0
  subst w_
  have g := rxcST_3_0 hP hin I0 hinv l8 u8 l9 u9 l10 u10
  refine ⟨bx_narP_ok (l := []) g.1, bx_nfP_ok h0_ (fvs := []) (by decide +kernel) g.2.1, ?_, ?_⟩
  · show rxIST_1 S0 ws (bx_up T0 488 (r_p 9) (r_p 10)) (bx_val [(0, 0), (0, 0), (0, 0), (0, 0), (0, 0), (0, 0), (0, 0), (0, 0), (8, 0)] r_p 8)
    rw [bx_val_x (n := 8) (e := (8, 0)) h0_ rfl]
    exact g.2.2.1
  · show rxmST_1 S0 ws (bx_up T0 488 (r_p 9) (r_p 10)) (bx_val [(0, 0), (0, 0), (0, 0), (0, 0), (0, 0), (0, 0), (0, 0), (0, 0), (8, 0)] r_p 8) < rxmST_3 S0 ws T0 (r 8) (r 9) (r 10)
    rw [bx_val_x (n := 8) (e := (8, 0)) h0_ rfl, ← hr_ 8 (by decide), ← hr_ 9 (by decide), ← hr_ 10 (by decide)]
    exact g.2.2.2
theorem rxcST_5_0 {S0 : Nat → Int → Int} {ws : List Int} {S : Nat → Int → Int} {least op : Int} (hP : rxPST S0 ws) (hin : bx_same rxL (bx_mdl rxCST.2.2.1) S0 S) (I0 : bx_Inv rxL S) (hinv : rxIST_5 S0 ws S least op) (l8 : 1 ≤ least) (u8 : least ≤ 6) (l9 : 0 ≤ op) (u9 : op ≤ 30) : (True) ∧ (True) ∧ rxIST_1 S0 ws S least ∧ rxmST_1 S0 ws S least < rxmST_5 S0 ws S least op := by
  exact ⟨trivial, trivial, hinv, by unfold rxmST_5 rxmST_1; omega⟩
theorem rxgST_5_0 {X : (Nat → Int → Int) → Prop} {S0 : Nat → Int → Int} {ws : List Int} (hP : rxPST S0 ws) : bx_obC rxL X S0 rxCST.2.2.1 (rxIST S0 ws) (rxmST S0 ws) 5 rxzST_5 rxoST_5_0 := by
  intro S S_p r r_p hinv hX hin hsm_ hseg
  obtain ⟨I0, I1, h0_, hr_, b_, f_, d_⟩ := bx_cl (evs := []) (fvs := []) hseg (by decide +kernel) (by decide +kernel)
  have hinv : rxIST_5 S0 ws S (r 8) (r 9) := hinv
  rw [← hr_ 8 (by decide), ← hr_ 9 (by decide)] at hinv
  obtain ⟨⟨l8, u8⟩, ⟨l9, u9⟩, -⟩ := b_
  have w_ := d_
  subst w_
  have g := rxcST_5_0 hP hin I0 hinv l8 u8 l9 u9
  refine ⟨bx_narP_ok (l := []) g.1, bx_nfP_ok h0_ (fvs := []) (by decide +kernel) g.2.1, ?_, ?_⟩
  · show rxIST_1 S0 ws S_p (bx_val [(0, 0), (0, 0), (0, 0), (0, 0), (0, 0), (0, 0), (0, 0), (0, 0), (8, 0)] r_p 8)
    rw [bx_val_x (n := 8) (e := (8, 0)) h0_ rfl]
    exact g.2.2.1
  · show rxmST_1 S0 ws S_p (bx_val [(0, 0), (0, 0), (0, 0), (0, 0), (0, 0), (0, 0), (0, 0), (0, 0), (8, 0)] r_p 8) < rxmST_5 S0 ws S_p (r 8) (r 9)
    rw [bx_val_x (n := 8) (e := (8, 0)) h0_ rfl, ← hr_ 8 (by decide), ← hr_ 9 (by decide)]
    exact g.2.2.2
theorem rxgCST {X : (Nat → Int → Int) → Prop} {S0 : Nat → Int → Int} {ws : List Int} (hP : rxPST S0 ws) : bx_allI (fun i q => rxUST q = true ∨ bx_allP (fun o => bx_obC rxL X S0 rxCST.2.2.1 (rxIST S0 ws) (rxmST S0 ws) i q.1 o) q.2.1) 0 rxYST := ⟨Or.inr ⟨rxgST_0_0 hP, rxgST_0_1 hP, rxgST_0_2 hP, rxgST_0_3 hP, rxgST_0_4 hP, rxgST_0_5 hP, trivial⟩, Or.inr ⟨rxgST_1_0 hP, rxgST_1_1 hP, rxgST_1_2 hP, rxgST_1_3 hP, rxgST_1_4 hP, rxgST_1_5 hP, trivial⟩, Or.inr ⟨rxgST_2_0 hP, rxgST_2_1 hP, rxgST_2_2 hP, trivial⟩, Or.inr ⟨rxgST_3_0 hP, trivial⟩, Or.inl rfl, Or.inr ⟨rxgST_5_0 hP, trivial⟩, trivial⟩
theorem rxgEST {X : (Nat → Int → Int) → Prop} {S0 : Nat → Int → Int} {ws : List Int} (hP : rxPST S0 ws) : bx_allI (fun i q => rxUST q = true ∨ bx_allP (fun E => bx_obE rxL X S0 rxCST.2.2.1 (rxIST S0 ws) (rxPSST S0 ws) i q.1 E) q.2.2) 0 rxYST := ⟨Or.inr ⟨rxfST_0_0 hP, rxfST_0_1 hP, rxfST_0_2 hP, rxfST_0_3 hP, rxfST_0_4 hP, rxfST_0_5 hP, rxfST_0_6 hP, trivial⟩, Or.inr ⟨rxfST_1_0 hP, rxfST_1_1 hP, rxfST_1_2 hP, rxfST_1_3 hP, rxfST_1_4 hP, rxfST_1_5 hP, rxfST_1_6 hP, trivial⟩, Or.inr trivial, Or.inr trivial, Or.inl rfl, Or.inr trivial, trivial⟩
theorem rxuST {PX : State → Prop} {Dg : va_G} {A : Nat → Prop} {ad xa : Nat → Nat} {l : Launch} {X : (Nat → Int → Int) → Prop} (hPX : rx_PXOK rxNW A PX) (hX : ∀ S S1 : Nat → Int → Int, X S → bx_same rxL (bx_mdl rxCST.2.2.1) S S1 → X S1) (hQEM : bx_ConP rxG rxNW rxAO PX Dg rxL X vwCl A ad l rxM266 rxCEM rxPEM rxPSEM) {S0 : Nat → Int → Int} {ws : List Int} (hP : rxPST S0 ws) : ∀ (i : Nat) (q : bx_HE), rxYST[i]? = some q → rxUST q = true → ∀ {p : Program} {e : Env} {R : Room} {s : State} {m : MethodId} {args : Array Value} {below : List Frame} {meth : Method} {c : Code} {Q : State → Prop} {H0 : Heap}, rx_Fr rxG rxNW rxAO PX p s m args meth c rxM275 → (∀ q, H0.size ≤ q → A q) → H0 = s.heap → rxM275.2.2.2.2.2.2.1 ≤ R.cells → rxM275.2.2.2.2.2.2.2 ≤ R.slots → rxCST.2.2.2.1 ≤ R.frames → rxCST.2.2.2.1 * 40 ≤ R.locals → bx_Step p l e R s m args below meth c Q Dg rxL X vwCl A xa H0 ad rxM275 rxYST (rxIST S0 ws) (rxmST S0 ws) S0 rxCST.2.2.1 i q := by
  intro i q hq hus p e R s m args below meth c Q H0 hF hA hH0 hmc hms hd hdl
  match i, hq with
  | 0, hq =>
    cases hq
    exact absurd (show false = true from hus) Bool.false_ne_true
  | 1, hq =>
    cases hq
    exact absurd (show false = true from hus) Bool.false_ne_true
  | 2, hq =>
    cases hq
    exact absurd (show false = true from hus) Bool.false_ne_true
  | 3, hq =>
    cases hq
    exact absurd (show false = true from hus) Bool.false_ne_true
  | 4, hq =>
    cases hq
    exact rx_stepC (ins := .invokevirtual 297) (len := 3) (i_p := 5) (M_p := rxM266) (d := rxCST.2.2.2.1) (as := [.inr (3, (0, 480)), .inr (0, (9, 0)), .inr (0, (0, 0))]) (t := []) (ct := rxCEM) hPX hF rfl hA hH0 hmc hms hd hdl (by decide +kernel) rfl rfl (by decide +kernel) (by decide +kernel) hQEM (by decide +kernel) rfl (Or.inl ⟨rfl, rfl, rfl⟩) (rxsST_4 hP)
  | 5, hq =>
    cases hq
    exact absurd (show false = true from hus) Bool.false_ne_true
  | n + 6, hq => cases hq
theorem rxQST {PX : State → Prop} {Dg : va_G} {A : Nat → Prop} {ad xa : Nat → Nat} {l : Launch} {X : (Nat → Int → Int) → Prop} (hPX : rx_PXOK rxNW A PX) (hsl : ∀ s : State, PX s → ∀ o idx n : Nat, rxSl o idx = some n → ∃ tx : String, vk_R (rxNm o) idx tx (ad n) s)
    (hX : ∀ S S_p : Nat → Int → Int, X S → bx_same rxL (bx_mdl rxCST.2.2.1) S S_p → X S_p)
    (ih : ∀ (j2 : Nat) (ct2 : bx_Ct) (M2 : rx_Mt), ct2 ∈ rxCnE j2 → ct2.2.2.2.1 + 1 ≤ rxCST.2.2.2.1 → rxT.2.2.2.2.2 j2 = some M2 → bx_Con rxG rxNW rxAO PX Dg rxL X vwCl A ad l M2 ct2) (hQEM : bx_ConP rxG rxNW rxAO PX Dg rxL X vwCl A ad l rxM266 rxCEM rxPEM rxPSEM) : bx_ConP rxG rxNW rxAO PX Dg rxL X vwCl A ad l rxM275 rxCST rxPST rxPSST :=
  rxQof (xa := xa) (Cn := rxCnE) (f := 30000) (j := 275) (tab := rxYST) (us := rxUST) hPX hsl hX ih rfl rxYcST rxIST rxmST
    (fun S0 ws r I0 I ht0 ht as he he1 hX0 hI0 hP hs ha => by
      have e := he.symm.trans (show bx_ent0 rxNP rxCST.1 bx_I0 [] = some ([(0, 0), (0, 0), (0, 0), (0, 0), (0, 0), (0, 0), (0, 0), (0, 0), (1, 6)], [], [.inr (3, (0, 480)), .inr (0, (8, 0))]) from rfl)
      cases e
      subst ha
      have h0 : r 0 = 0 := hs.1
      show rxIST_0 S0 _ S0 (r 8)
      refine ⟨rfl, ?_⟩
      simp only [List.map_cons, List.map_nil, bx_xv_ok h0]
      rfl)
    (fun S0 ws hP => rxuST (xa := xa) hPX hX hQEM hP) (fun S0 ws hP => rxgCST hP) (fun S0 ws hP => rxgEST hP)
