noncomputable def rxTw (t : Int) : Nat := if t = 3 then 50 else if t = 4 then 0 else 20
theorem rxTw_cases (t : Int) : (t = 3 ∧ rxTw t = 50) ∨ (t = 4 ∧ rxTw t = 0) ∨ (t ≠ 3 ∧ t ≠ 4 ∧ rxTw t = 20) := by
  unfold rxTw
  by_cases h : t = 3
  · rw [if_pos h]
    omega
  · rw [if_neg h]
    by_cases h2 : t = 4
    · rw [if_pos h2]
      omega
    · rw [if_neg h2]
      omega
theorem rxPz_no {S : Nat → Int → Int} (h : S 480 24 = 0) (h2 : S 480 25 = 0) : rxPz S := by
  refine ⟨fun i a b => by omega, ?_, fun i j a b c => by omega, fun i a b => by omega⟩
  rw [h2, h]
  rfl
theorem rxRe_st {S0 S S_p : Nat → Int → Int} {f c c_p : Int} (h : rxKp S0 S f) (g : rxEf S S_p c c_p) (f0 : 0 ≤ f) (w : rxWz S f c) : rxKp S0 S_p f ∧ rxWz S_p f c_p := by
  obtain ⟨a, b⟩ := g f f0 w
  exact ⟨fun k k0 k1 => ⟨(b k k0 k1).1.trans (h k k0 k1).1, (b k k0 k1).2.trans (h k k0 k1).2⟩, a⟩
noncomputable def rxRi (S0 S : Nat → Int → Int) (turn : Int) : Prop := rxPt S ∧ (S 480 14 = 0 → rxKp S0 S (S0 480 18) ∧ ((turn ≤ 1 ∧ rxWz S (S0 480 18) 0) ∨ (2 ≤ turn ∧ rxWz S (S0 480 18) 1)) ∧ (turn = 0 ∨ turn = 2 → rxNoSq S) ∧ (turn = 4 → (∀ j : Int, 0 ≤ j → j < S 480 24 → S 489 j < 31)))
noncomputable def rxCRE : bx_Ct := ([(3, (1, 480, 0)), (0, (0, 0, 1))], none, [(12, 9), (12, 10), (12, 11), (12, 12), (12, 13), (12, 14), (12, 18), (12, 21), (12, 24), (12, 25), (1068, 0), (1069, 0), (1070, 0), (1071, 0)], 6, [])
noncomputable def rxIRE_0 (S0 : Nat → Int → Int) (ws : List Int) (S : Nat → Int → Int) (test : Int) : Prop := S = S0 ∧ ws = [480, test]
noncomputable def rxmRE_0 (S0 : Nat → Int → Int) (ws : List Int) (S : Nat → Int → Int) (test : Int) : Nat := 10000000
noncomputable def rxzRE_0 : rx_Z := ([(0, 0), (0, 0), (0, 0), (0, 0), (0, 0), (0, 0), (0, 0), (0, 0), (0, 1)], [], [], 0, 0, 0, [(0, .inr (3, (0, 480))), (1, .inr (0, (8, 0)))], [])
noncomputable def rxIRE_1 (S0 : Nat → Int → Int) (ws : List Int) (S : Nat → Int → Int) (test turn : Int) : Prop := rxRi S0 S turn
noncomputable def rxmRE_1 (S0 : Nat → Int → Int) (ws : List Int) (S : Nat → Int → Int) (test turn : Int) : Nat := 1000000 * (1 - S 480 14).toNat + 100 * (1000 - S 480 9).toNat + rxTw turn
noncomputable def rxzRE_1 : rx_Z := ([(0, 0), (0, 0), (0, 0), (0, 0), (0, 0), (0, 0), (0, 0), (0, 0), (0, 1), (0, 4)], [], [], 0, 0, 20, [(0, .inr (3, (0, 480))), (1, .inr (0, (8, 0))), (2, .inr (0, (9, 0)))], [])
noncomputable def rxIRE_2 (S0 : Nat → Int → Int) (ws : List Int) (S : Nat → Int → Int) (test : Int) : Prop := rxPt S ∧ S 480 14 = 0 ∧ rxKp S0 S (S0 480 18) ∧ rxWz S (S0 480 18) 0 ∧ rxNoSq S
noncomputable def rxmRE_2 (S0 : Nat → Int → Int) (ws : List Int) (S : Nat → Int → Int) (test : Int) : Nat := 1000000 * (1 - S 480 14).toNat + 100 * (1000 - S 480 9).toNat + 15
noncomputable def rxzRE_2 : rx_Z := ([(0, 0), (0, 0), (0, 0), (0, 0), (0, 0), (0, 0), (0, 0), (0, 0), (0, 1)], [], [], 0, 0, 37, [(0, .inr (3, (0, 480))), (1, .inr (0, (8, 0)))], [.inr (3, (0, 480))])
noncomputable def rxIRE_3 (S0 : Nat → Int → Int) (ws : List Int) (S : Nat → Int → Int) (test t : Int) : Prop := rxRi S0 S t
noncomputable def rxmRE_3 (S0 : Nat → Int → Int) (ws : List Int) (S : Nat → Int → Int) (test t : Int) : Nat := 1000000 * (1 - S 480 14).toNat + 100 * (1000 - S 480 9).toNat + rxTw t + 5
noncomputable def rxzRE_3 : rx_Z := ([(0, 0), (0, 0), (0, 0), (0, 0), (0, 0), (0, 0), (0, 0), (0, 0), (0, 1), (0, 3)], [], [], 0, 0, 40, [(0, .inr (3, (0, 480))), (1, .inr (0, (8, 0)))], [.inr (0, (9, 0))])
noncomputable def rxIRE_4 (S0 : Nat → Int → Int) (ws : List Int) (S : Nat → Int → Int) (test : Int) : Prop := rxPt S ∧ S 480 14 = 0 ∧ rxKp S0 S (S0 480 18) ∧ rxWz S (S0 480 18) 0
noncomputable def rxmRE_4 (S0 : Nat → Int → Int) (ws : List Int) (S : Nat → Int → Int) (test : Int) : Nat := 1000000 * (1 - S 480 14).toNat + 100 * (1000 - S 480 9).toNat + 15
noncomputable def rxzRE_4 : rx_Z := ([(0, 0), (0, 0), (0, 0), (0, 0), (0, 0), (0, 0), (0, 0), (0, 0), (0, 1)], [], [], 0, 0, 49, [(0, .inr (3, (0, 480))), (1, .inr (0, (8, 0)))], [.inr (3, (0, 480))])
noncomputable def rxIRE_5 (S0 : Nat → Int → Int) (ws : List Int) (S : Nat → Int → Int) (test t : Int) : Prop := rxRi S0 S t
noncomputable def rxmRE_5 (S0 : Nat → Int → Int) (ws : List Int) (S : Nat → Int → Int) (test t : Int) : Nat := 1000000 * (1 - S 480 14).toNat + 100 * (1000 - S 480 9).toNat + rxTw t + 5
noncomputable def rxzRE_5 : rx_Z := ([(0, 0), (0, 0), (0, 0), (0, 0), (0, 0), (0, 0), (0, 0), (0, 0), (0, 1), (0, 3)], [], [], 0, 0, 52, [(0, .inr (3, (0, 480))), (1, .inr (0, (8, 0)))], [.inr (0, (9, 0))])
noncomputable def rxIRE_6 (S0 : Nat → Int → Int) (ws : List Int) (S : Nat → Int → Int) (test tb : Int) : Prop := rxPt S ∧ S 480 14 = 0 ∧ rxKp S0 S (S0 480 18) ∧ rxWz S (S0 480 18) 1
noncomputable def rxmRE_6 (S0 : Nat → Int → Int) (ws : List Int) (S : Nat → Int → Int) (test tb : Int) : Nat := 1000000 * (1 - S 480 14).toNat + 100 * (1000 - S 480 9).toNat + 45
noncomputable def rxzRE_6 : rx_Z := ([(0, 0), (0, 0), (0, 0), (0, 0), (0, 0), (0, 0), (0, 0), (0, 0), (0, 1), (0, 1)], [], [], 0, 0, 62, [(0, .inr (3, (0, 480))), (1, .inr (0, (8, 0)))], [.inr (0, (9, 0)), .inr (3, (0, 480))])
noncomputable def rxIRE_7 (S0 : Nat → Int → Int) (ws : List Int) (S : Nat → Int → Int) (test tb t : Int) : Prop := rxRi S0 S t
noncomputable def rxmRE_7 (S0 : Nat → Int → Int) (ws : List Int) (S : Nat → Int → Int) (test tb t : Int) : Nat := 1000000 * (1 - S 480 14).toNat + 100 * (1000 - S 480 9).toNat + rxTw t + 5
noncomputable def rxzRE_7 : rx_Z := ([(0, 0), (0, 0), (0, 0), (0, 0), (0, 0), (0, 0), (0, 0), (0, 0), (0, 1), (0, 1), (0, 4)], [], [], 0, 0, 65, [(0, .inr (3, (0, 480))), (1, .inr (0, (8, 0)))], [.inr (0, (10, 0))])
noncomputable def rxIRE_8 (S0 : Nat → Int → Int) (ws : List Int) (S : Nat → Int → Int) (test : Int) : Prop := rxPt S ∧ S 480 14 = 0 ∧ rxKp S0 S (S0 480 18) ∧ rxWz S (S0 480 18) 1 ∧ rxNoSq S
noncomputable def rxmRE_8 (S0 : Nat → Int → Int) (ws : List Int) (S : Nat → Int → Int) (test : Int) : Nat := 1000000 * (1 - S 480 14).toNat + 100 * (1000 - S 480 9).toNat + 15
noncomputable def rxzRE_8 : rx_Z := ([(0, 0), (0, 0), (0, 0), (0, 0), (0, 0), (0, 0), (0, 0), (0, 0), (0, 1)], [], [], 0, 0, 69, [(0, .inr (3, (0, 480))), (1, .inr (0, (8, 0)))], [.inr (3, (0, 480))])
noncomputable def rxIRE_9 (S0 : Nat → Int → Int) (ws : List Int) (S : Nat → Int → Int) (test t : Int) : Prop := rxRi S0 S t
noncomputable def rxmRE_9 (S0 : Nat → Int → Int) (ws : List Int) (S : Nat → Int → Int) (test t : Int) : Nat := 1000000 * (1 - S 480 14).toNat + 100 * (1000 - S 480 9).toNat + rxTw t + 5
noncomputable def rxzRE_9 : rx_Z := ([(0, 0), (0, 0), (0, 0), (0, 0), (0, 0), (0, 0), (0, 0), (0, 0), (0, 1), (0, 4)], [], [], 0, 0, 72, [(0, .inr (3, (0, 480))), (1, .inr (0, (8, 0)))], [.inr (0, (9, 0))])
noncomputable def rxIRE_10 (S0 : Nat → Int → Int) (ws : List Int) (S : Nat → Int → Int) : Prop := rxPt S ∧ (S 480 14 = 0 → rxKp S0 S (S0 480 18) ∧ rxWz S (S0 480 18) 1 ∧ (∀ j : Int, 0 ≤ j → j < S 480 24 → S 489 j < 31))
noncomputable def rxmRE_10 (S0 : Nat → Int → Int) (ws : List Int) (S : Nat → Int → Int) : Nat := 20
noncomputable def rxzRE_10 : rx_Z := ([(0, 0), (0, 0), (0, 0), (0, 0), (0, 0), (0, 0), (0, 0), (0, 0)], [], [], 0, 0, 78, [(0, .inr (3, (0, 480)))], [.inr (0, (0, 1)), .inr (3, (0, 480))])
noncomputable def rxIRE_11 (S0 : Nat → Int → Int) (ws : List Int) (S : Nat → Int → Int) : Prop := rxTk S ∧ (S 480 14 = 0 → rxKp S0 S (S0 480 18) ∧ rxWz S (S0 480 18) 1 ∧ S 480 24 = 0 ∧ S 480 18 ≤ S 480 9)
noncomputable def rxmRE_11 (S0 : Nat → Int → Int) (ws : List Int) (S : Nat → Int → Int) : Nat := 10
noncomputable def rxzRE_11 : rx_Z := ([(0, 0), (0, 0), (0, 0), (0, 0), (0, 0), (0, 0), (0, 0), (0, 0)], [], [], 0, 0, 81, [(0, .inr (3, (0, 480)))], [])
noncomputable def rxoRE_0_0 : bx_HO := (([(0, 0), (0, 0), (0, 0), (0, 0), (0, 0), (0, 0), (0, 0), (0, 0), (1, 1)], [(3, (8, 0), (0, 0))], [(((0, 0), 1851192626986356802442008000046409524956554626371924516682072067000000), .inr (0, (0, 0))), (((0, 480), 25), .inr (0, (0, 0))), (((0, 0), 1851192626986356802241301293259633916682733161918089263128248323000000), .inr (0, (0, 0))), (((0, 480), 24), .inr (0, (0, 0)))], 0, 0, 20, [(2, .inr (0, (0, 0))), (0, .inr (3, (0, 480))), (1, .inr (0, (8, 0)))], []), [], [], [(0, 0), (0, 0), (0, 0), (0, 0), (0, 0), (0, 0), (0, 0), (0, 0), (8, 0), (0, 0)], 1)
noncomputable def rxoRE_0_1 : bx_HO := (([(0, 0), (0, 0), (0, 0), (0, 0), (0, 0), (0, 0), (0, 0), (0, 0), (0, 0)], [], [(((0, 0), 1851192626986356802442008000046409524956554626371924516682072067000000), .inr (0, (0, 0))), (((0, 480), 25), .inr (0, (0, 0))), (((0, 0), 1851192626986356802241301293259633916682733161918089263128248323000000), .inr (0, (0, 0))), (((0, 480), 24), .inr (0, (0, 0)))], 0, 0, 20, [(2, .inr (0, (0, 1))), (0, .inr (3, (0, 480))), (1, .inr (0, (8, 0)))], []), [], [], [(0, 0), (0, 0), (0, 0), (0, 0), (0, 0), (0, 0), (0, 0), (0, 0), (8, 0), (0, 1)], 1)
noncomputable def rxoRE_1_0 : bx_HO := (([(0, 0), (0, 0), (0, 0), (0, 0), (0, 0), (0, 0), (0, 0), (0, 0), (0, 1), (0, 0), (0, 0)], [(3, (9, 0), (0, 4))], [(((0, 0), 1851192626986356800234234225391877833944518517379736727590010880000000), .inr (0, (10, 0))), (((0, 480), 14), .inr (0, (10, 0)))], 0, 0, 37, [(0, .inr (3, (0, 480))), (1, .inr (0, (8, 0))), (2, .inr (0, (9, 0)))], [.inr (3, (0, 480))]), [], [], [(0, 0), (0, 0), (0, 0), (0, 0), (0, 0), (0, 0), (0, 0), (0, 0), (8, 0)], 2)
noncomputable def rxoRE_1_1 : bx_HO := (([(0, 0), (0, 0), (0, 0), (0, 0), (0, 0), (0, 0), (0, 0), (0, 0), (0, 1), (1, 1), (0, 0)], [(3, (9, 0), (0, 0)), (3, (9, 0), (0, 4))], [(((0, 0), 1851192626986356800234234225391877833944518517379736727590010880000000), .inr (0, (10, 0))), (((0, 480), 14), .inr (0, (10, 0)))], 0, 0, 49, [(0, .inr (3, (0, 480))), (1, .inr (0, (8, 0))), (2, .inr (0, (9, 0)))], [.inr (3, (0, 480))]), [], [], [(0, 0), (0, 0), (0, 0), (0, 0), (0, 0), (0, 0), (0, 0), (0, 0), (8, 0)], 4)
noncomputable def rxoRE_1_2 : bx_HO := (([(0, 0), (0, 0), (0, 0), (0, 0), (0, 0), (0, 0), (0, 0), (0, 0), (0, 1), (3, 3), (0, 0)], [(3, (9, 0), (0, 1)), (3, (9, 0), (0, 0)), (3, (9, 0), (0, 4))], [(((0, 0), 1851192626986356800234234225391877833944518517379736727590010880000000), .inr (0, (10, 0))), (((0, 480), 14), .inr (0, (10, 0)))], 0, 0, 62, [(0, .inr (3, (0, 480))), (1, .inr (0, (8, 0))), (2, .inr (0, (9, 0)))], [.inr (0, (8, 0)), .inr (3, (0, 480))]), [], [], [(0, 0), (0, 0), (0, 0), (0, 0), (0, 0), (0, 0), (0, 0), (0, 0), (8, 0), (8, 0)], 6)
noncomputable def rxoRE_1_3 : bx_HO := (([(0, 0), (0, 0), (0, 0), (0, 0), (0, 0), (0, 0), (0, 0), (0, 0), (0, 1), (2, 2), (0, 0)], [(3, (9, 0), (0, 3)), (3, (9, 0), (0, 1)), (3, (9, 0), (0, 0)), (3, (9, 0), (0, 4))], [(((0, 0), 1851192626986356800234234225391877833944518517379736727590010880000000), .inr (0, (10, 0))), (((0, 480), 14), .inr (0, (10, 0)))], 0, 0, 69, [(0, .inr (3, (0, 480))), (1, .inr (0, (8, 0))), (2, .inr (0, (9, 0)))], [.inr (3, (0, 480))]), [], [], [(0, 0), (0, 0), (0, 0), (0, 0), (0, 0), (0, 0), (0, 0), (0, 0), (8, 0)], 8)
noncomputable def rxoRE_1_4 : bx_HO := (([(0, 0), (0, 0), (0, 0), (0, 0), (0, 0), (0, 0), (0, 0), (0, 0), (0, 1), (4, 4), (0, 0)], [], [(((0, 0), 1851192626986356800234234225391877833944518517379736727590010880000000), .inr (0, (10, 0))), (((0, 480), 14), .inr (0, (10, 0)))], 0, 0, 78, [(0, .inr (3, (0, 480))), (1, .inr (0, (8, 0))), (2, .inr (0, (9, 0)))], [.inr (0, (0, 1)), .inr (3, (0, 480))]), [], [], [(0, 0), (0, 0), (0, 0), (0, 0), (0, 0), (0, 0), (0, 0), (0, 0)], 10)
noncomputable def rxoRE_1_5 : bx_HO := (([(0, 0), (0, 0), (0, 0), (0, 0), (0, 0), (0, 0), (0, 0), (0, 0), (0, 1), (0, 4), (1, 1)], [(3, (10, 0), (0, 0))], [(((0, 0), 1851192626986356800234234225391877833944518517379736727590010880000000), .inr (0, (10, 0))), (((0, 480), 14), .inr (0, (10, 0)))], 0, 0, 78, [(0, .inr (3, (0, 480))), (1, .inr (0, (8, 0))), (2, .inr (0, (9, 0)))], [.inr (0, (0, 1)), .inr (3, (0, 480))]), [], [], [(0, 0), (0, 0), (0, 0), (0, 0), (0, 0), (0, 0), (0, 0), (0, 0)], 10)
noncomputable def rxoRE_3_0 : bx_HO := (([(0, 0), (0, 0), (0, 0), (0, 0), (0, 0), (0, 0), (0, 0), (0, 0), (0, 1), (0, 3)], [], [], 0, 0, 20, [(2, .inr (0, (9, 0))), (0, .inr (3, (0, 480))), (1, .inr (0, (8, 0)))], []), [], [], [(0, 0), (0, 0), (0, 0), (0, 0), (0, 0), (0, 0), (0, 0), (0, 0), (8, 0), (9, 0)], 1)
noncomputable def rxoRE_5_0 : bx_HO := (([(0, 0), (0, 0), (0, 0), (0, 0), (0, 0), (0, 0), (0, 0), (0, 0), (0, 1), (0, 3)], [], [], 0, 0, 20, [(2, .inr (0, (9, 0))), (0, .inr (3, (0, 480))), (1, .inr (0, (8, 0)))], []), [], [], [(0, 0), (0, 0), (0, 0), (0, 0), (0, 0), (0, 0), (0, 0), (0, 0), (8, 0), (9, 0)], 1)
noncomputable def rxoRE_7_0 : bx_HO := (([(0, 0), (0, 0), (0, 0), (0, 0), (0, 0), (0, 0), (0, 0), (0, 0), (0, 1), (0, 1), (0, 4)], [], [], 0, 0, 20, [(2, .inr (0, (10, 0))), (0, .inr (3, (0, 480))), (1, .inr (0, (8, 0)))], []), [], [], [(0, 0), (0, 0), (0, 0), (0, 0), (0, 0), (0, 0), (0, 0), (0, 0), (8, 0), (10, 0)], 1)
noncomputable def rxoRE_9_0 : bx_HO := (([(0, 0), (0, 0), (0, 0), (0, 0), (0, 0), (0, 0), (0, 0), (0, 0), (0, 1), (0, 4)], [], [], 0, 0, 20, [(2, .inr (0, (9, 0))), (0, .inr (3, (0, 480))), (1, .inr (0, (8, 0)))], []), [], [], [(0, 0), (0, 0), (0, 0), (0, 0), (0, 0), (0, 0), (0, 0), (0, 0), (8, 0), (9, 0)], 1)
noncomputable def rxeRE_11_0 : rx_End × List (Nat × Int × Int) := (([(0, 0), (0, 0), (0, 0), (0, 0), (0, 0), (0, 0), (0, 0), (0, 0)], [], [], none), [])
noncomputable def rxYRE : List bx_HE := [(rxzRE_0, [rxoRE_0_0, rxoRE_0_1], []), (rxzRE_1, [rxoRE_1_0, rxoRE_1_1, rxoRE_1_2, rxoRE_1_3, rxoRE_1_4, rxoRE_1_5], []), (rxzRE_2, [], []), (rxzRE_3, [rxoRE_3_0], []), (rxzRE_4, [], []), (rxzRE_5, [rxoRE_5_0], []), (rxzRE_6, [], []), (rxzRE_7, [rxoRE_7_0], []), (rxzRE_8, [], []), (rxzRE_9, [rxoRE_9_0], []), (rxzRE_10, [], []), (rxzRE_11, [], [rxeRE_11_0])]
noncomputable def rxURE (q : bx_HE) : Bool := Nat.beq (rx_zpc q.1) 37 || Nat.beq (rx_zpc q.1) 49 || Nat.beq (rx_zpc q.1) 62 || Nat.beq (rx_zpc q.1) 69 || Nat.beq (rx_zpc q.1) 78
noncomputable def rxYBRE : bx_B := (rxV, rxNP, rxDmf, bx_mdH rxCRE.2.2.1)
set_option maxRecDepth 100000 in
theorem rxYcRE : bx_chkH rxYBRE rxM282 rxCRE rxYRE (rxURE, fun cut z => rx_ex2 (rxCT rxYBRE rxCnE) cut 30000 rxCRE.2.2.2.1 282 z) = true := by decide +kernel
noncomputable def rxIRE (S0 : Nat → Int → Int) (ws : List Int) (i : Nat) : bx_SP := fun S r => match i with | 0 => rxIRE_0 S0 ws S (r 8) | 1 => rxIRE_1 S0 ws S (r 8) (r 9) | 2 => rxIRE_2 S0 ws S (r 8) | 3 => rxIRE_3 S0 ws S (r 8) (r 9) | 4 => rxIRE_4 S0 ws S (r 8) | 5 => rxIRE_5 S0 ws S (r 8) (r 9) | 6 => rxIRE_6 S0 ws S (r 8) (r 9) | 7 => rxIRE_7 S0 ws S (r 8) (r 9) (r 10) | 8 => rxIRE_8 S0 ws S (r 8) | 9 => rxIRE_9 S0 ws S (r 8) (r 9) | 10 => rxIRE_10 S0 ws S | 11 => rxIRE_11 S0 ws S | _ => False
noncomputable def rxmRE (S0 : Nat → Int → Int) (ws : List Int) (i : Nat) (S : Nat → Int → Int) (r : Nat → Int) : Nat := match i with | 0 => rxmRE_0 S0 ws S (r 8) | 1 => rxmRE_1 S0 ws S (r 8) (r 9) | 2 => rxmRE_2 S0 ws S (r 8) | 3 => rxmRE_3 S0 ws S (r 8) (r 9) | 4 => rxmRE_4 S0 ws S (r 8) | 5 => rxmRE_5 S0 ws S (r 8) (r 9) | 6 => rxmRE_6 S0 ws S (r 8) (r 9) | 7 => rxmRE_7 S0 ws S (r 8) (r 9) (r 10) | 8 => rxmRE_8 S0 ws S (r 8) | 9 => rxmRE_9 S0 ws S (r 8) (r 9) | 10 => rxmRE_10 S0 ws S | 11 => rxmRE_11 S0 ws S | _ => 0
noncomputable def rxPRE (S0 : Nat → Int → Int) (ws : List Int) : Prop := rxTk S0 ∧ S0 480 18 ≤ S0 480 9 ∧ S0 480 14 = 0 ∧ 0 ≤ S0 480 18
noncomputable def rxPSRE (S0 : Nat → Int → Int) (ws : List Int) (S : Nat → Int → Int) (w : Option Int) : Prop := w = none ∧ rxTk S ∧ (S 480 14 = 0 → rxSeg (S 487) (S 488) (S0 480 18) (S 480 18) ∧ rxKp S0 S (S0 480 18) ∧ S0 480 18 ≤ S 480 18 ∧ S 480 18 ≤ S 480 9)
theorem rxkRE_2 {S0 : Nat → Int → Int} {ws : List Int} {S : Nat → Int → Int} {test : Int} (hP : rxPRE S0 ws) (hin : bx_same rxL (bx_mdl rxCRE.2.2.1) S0 S) (I0 : bx_Inv rxL S) (hinv : rxIRE_2 S0 ws S test) (l8 : 0 ≤ test) (u8 : test ≤ 1) : rxPRN S [480] ∧ ∀ (S_p : Nat → Int → Int) (t : Int), 0 ≤ t → t ≤ 3 → rxPSRN S [480] S_p (some t) → bx_Inv rxL S_p → bx_same rxL (bx_mdl rxCRN.2.2.1) S S_p → rxIRE_3 S0 ws S_p test t ∧ rxmRE_3 S0 ws S_p test t < rxmRE_2 S0 ws S test := by
  obtain ⟨h1, h2, h3, h4, h5⟩ := hinv
  have b18 : 0 ≤ S0 480 18 := hP.2.2.2
  refine ⟨⟨h1, h2, h5⟩, fun S_p t l u hq I1 hsm => ?_⟩
  obtain ⟨t_p, hw, ht, q1, q2⟩ := hq
  have he : t = t_p := Option.some.inj hw
  subst he
  have b14 := rxBox14 I1
  have f0 := q1.1.1
  have f1 := h1.1.1
  have g8 := rxBox8 I1
  have g9 := q1.1.2.1
  have g10 := q1.1.2.2.1
  have hc := rxTw_cases t
  refine ⟨⟨q1, fun q => ?_⟩, ?_⟩
  · obtain ⟨-, c⟩ := q2 q
    rcases c with ⟨c1, c2, c3⟩ | ⟨c1, c2⟩ | ⟨c1, c2⟩
    · have g := rxRe_st h3 c2 b18 h4
      exact ⟨g.1, Or.inl ⟨by omega, g.2⟩, fun _ => c3, fun r => by omega⟩
    · have g := rxRe_st h3 c2 b18 h4
      exact ⟨g.1, Or.inl ⟨by omega, g.2⟩, fun r => by omega, fun r => by omega⟩
    · have g := rxRe_st h3 c2 b18 h4
      exact ⟨g.1, Or.inr ⟨by omega, g.2⟩, fun r => by omega, fun r => by omega⟩
  · unfold rxmRE_2 rxmRE_3
    by_cases q : S_p 480 14 = 0
    · have := (q2 q).1
      omega
    · omega
theorem rxsRE_2 {X : (Nat → Int → Int) → Prop} {S0 : Nat → Int → Int} {ws : List Int} (hP : rxPRE S0 ws) : rx_obK X S0 rxCRE.2.2.1 rxCRN.2.2.1 (rxIRE S0 ws) (rxmRE S0 ws) 2 3 rxzRE_2 rxzRE_3 [.inr (3, (0, 480))] (some 9) rxPRN rxPSRN := by
  intro S r hinv hXS I0 hin hs_ hf_
  have b_ := bx_bds_sat hs_
  have f_ := bx_fcl_ok hs_.1 hf_
  obtain ⟨⟨l8, u8⟩, -⟩ := b_
  have g := rxkRE_2 hP hin I0 hinv l8 u8
  have ea : List.map (bx_num r) [.inr (3, (0, 480))] = [480] := by
    simp only [List.map_cons, List.map_nil, bx_xv_ok hs_.1]
    rfl
  rw [ea]
  refine ⟨g.1, fun S_p w r_p hPS hX_p I1 hsm hr hw hs_p => ?_⟩
  have hw := hw _ rfl
  subst hw
  have b_p := hs_p.2.2 9 _ _ rfl
  have g2 := g.2 S_p (r_p 9) b_p.1 b_p.2 hPS I1 hsm
  show rxIRE_3 S0 ws S_p (r_p 8) (r_p 9) ∧ rxmRE_3 S0 ws S_p (r_p 8) (r_p 9) < _
  rw [hr 8 (by decide)]
  exact g2
theorem rxkRE_4 {S0 : Nat → Int → Int} {ws : List Int} {S : Nat → Int → Int} {test : Int} (hP : rxPRE S0 ws) (hin : bx_same rxL (bx_mdl rxCRE.2.2.1) S0 S) (I0 : bx_Inv rxL S) (hinv : rxIRE_4 S0 ws S test) (l8 : 0 ≤ test) (u8 : test ≤ 1) : rxPRP S [480] ∧ ∀ (S_p : Nat → Int → Int) (t : Int), 0 ≤ t → t ≤ 3 → rxPSRP S [480] S_p (some t) → bx_Inv rxL S_p → bx_same rxL (bx_mdl rxCRP.2.2.1) S S_p → rxIRE_5 S0 ws S_p test t ∧ rxmRE_5 S0 ws S_p test t < rxmRE_4 S0 ws S test := by
  obtain ⟨h1, h2, h3, h4⟩ := hinv
  have b18 : 0 ≤ S0 480 18 := hP.2.2.2
  refine ⟨⟨h1, h2⟩, fun S_p t l u hq I1 hsm => ?_⟩
  obtain ⟨t_p, hw, ht, q1, q2⟩ := hq
  have he : t = t_p := Option.some.inj hw
  subst he
  have b14 := rxBox14 I1
  have f0 := q1.1.1
  have f1 := h1.1.1
  have g8 := rxBox8 I1
  have g9 := q1.1.2.1
  have g10 := q1.1.2.2.1
  have hc := rxTw_cases t
  refine ⟨⟨q1, fun q => ?_⟩, ?_⟩
  · obtain ⟨-, c⟩ := q2 q
    rcases c with ⟨c1, c2⟩ | ⟨c1, c2⟩
    · have g := rxRe_st h3 c2 b18 h4
      exact ⟨g.1, Or.inl ⟨by omega, g.2⟩, fun r => by omega, fun r => by omega⟩
    · have g := rxRe_st h3 c2 b18 h4
      exact ⟨g.1, Or.inr ⟨by omega, g.2⟩, fun r => by omega, fun r => by omega⟩
  · unfold rxmRE_4 rxmRE_5
    by_cases q : S_p 480 14 = 0
    · have := (q2 q).1
      omega
    · omega
theorem rxsRE_4 {X : (Nat → Int → Int) → Prop} {S0 : Nat → Int → Int} {ws : List Int} (hP : rxPRE S0 ws) : rx_obK X S0 rxCRE.2.2.1 rxCRP.2.2.1 (rxIRE S0 ws) (rxmRE S0 ws) 4 5 rxzRE_4 rxzRE_5 [.inr (3, (0, 480))] (some 9) rxPRP rxPSRP := by
  intro S r hinv hXS I0 hin hs_ hf_
  have b_ := bx_bds_sat hs_
  have f_ := bx_fcl_ok hs_.1 hf_
  obtain ⟨⟨l8, u8⟩, -⟩ := b_
  have g := rxkRE_4 hP hin I0 hinv l8 u8
  have ea : List.map (bx_num r) [.inr (3, (0, 480))] = [480] := by
    simp only [List.map_cons, List.map_nil, bx_xv_ok hs_.1]
    rfl
  rw [ea]
  refine ⟨g.1, fun S_p w r_p hPS hX_p I1 hsm hr hw hs_p => ?_⟩
  have hw := hw _ rfl
  subst hw
  have b_p := hs_p.2.2 9 _ _ rfl
  have g2 := g.2 S_p (r_p 9) b_p.1 b_p.2 hPS I1 hsm
  show rxIRE_5 S0 ws S_p (r_p 8) (r_p 9) ∧ rxmRE_5 S0 ws S_p (r_p 8) (r_p 9) < _
  rw [hr 8 (by decide)]
  exact g2
theorem rxkRE_6 {S0 : Nat → Int → Int} {ws : List Int} {S : Nat → Int → Int} {test tb : Int} (hP : rxPRE S0 ws) (hin : bx_same rxL (bx_mdl rxCRE.2.2.1) S0 S) (I0 : bx_Inv rxL S) (hinv : rxIRE_6 S0 ws S test tb) (l8 : 0 ≤ test) (u8 : test ≤ 1) (l9 : 0 ≤ tb) (u9 : tb ≤ 1) : rxPBS S [480, tb] ∧ ∀ (S_p : Nat → Int → Int) (t : Int), 0 ≤ t → t ≤ 4 → rxPSBS S [480, tb] S_p (some t) → bx_Inv rxL S_p → bx_same rxL (bx_mdl rxCBS.2.2.1) S S_p → rxIRE_7 S0 ws S_p test tb t ∧ rxmRE_7 S0 ws S_p test tb t < rxmRE_6 S0 ws S test tb := by
  obtain ⟨h1, h2, h3, h4⟩ := hinv
  have b18 : 0 ≤ S0 480 18 := hP.2.2.2
  refine ⟨⟨h1, h2, trivial⟩, fun S_p t l u hq I1 hsm => ?_⟩
  obtain ⟨t_p, hw, q1, ht, q2⟩ := hq
  have he : t = t_p := Option.some.inj hw
  subst he
  have b14 := rxBox14 I1
  have f0 := q1.1.1
  have f1 := h1.1.1
  have g8 := rxBox8 I1
  have g9 := q1.1.2.1
  have g10 := q1.1.2.2.1
  have hc := rxTw_cases t
  refine ⟨⟨q1, fun q => ?_⟩, ?_⟩
  · rcases q2 q with ⟨c1, c0, c2⟩ | ⟨c1, rfl, c2⟩ | ⟨c1, c0, c2⟩ | ⟨c1, rfl, c2⟩
    · have g := rxRe_st h3 c2 b18 h4
      exact ⟨g.1, Or.inl ⟨by omega, g.2⟩, fun r => by omega, fun r => by omega⟩
    · exact ⟨h3, Or.inr ⟨by omega, h4⟩, fun _ => c2, fun r => by omega⟩
    · have g := rxRe_st h3 c2 b18 h4
      exact ⟨g.1, Or.inr ⟨by omega, g.2⟩, fun r => by omega, fun r => by omega⟩
    · exact ⟨h3, Or.inr ⟨by omega, h4⟩, fun r => by omega, fun _ => c2⟩
  · unfold rxmRE_6 rxmRE_7
    by_cases q : S_p 480 14 = 0
    · rcases q2 q with ⟨c1, c0, c2⟩ | ⟨c1, rfl, c2⟩ | ⟨c1, c0, c2⟩ | ⟨c1, rfl, c2⟩
      · omega
      · omega
      · omega
      · omega
    · omega
theorem rxsRE_6 {X : (Nat → Int → Int) → Prop} {S0 : Nat → Int → Int} {ws : List Int} (hP : rxPRE S0 ws) : rx_obK X S0 rxCRE.2.2.1 rxCBS.2.2.1 (rxIRE S0 ws) (rxmRE S0 ws) 6 7 rxzRE_6 rxzRE_7 [.inr (3, (0, 480)), .inr (0, (9, 0))] (some 10) rxPBS rxPSBS := by
  intro S r hinv hXS I0 hin hs_ hf_
  have b_ := bx_bds_sat hs_
  have f_ := bx_fcl_ok hs_.1 hf_
  obtain ⟨⟨l8, u8⟩, ⟨l9, u9⟩, -⟩ := b_
  have g := rxkRE_6 hP hin I0 hinv l8 u8 l9 u9
  have ea : List.map (bx_num r) [.inr (3, (0, 480)), .inr (0, (9, 0))] = [480, (r 9)] := by
    simp only [List.map_cons, List.map_nil, bx_xv_ok hs_.1]
    rfl
  rw [ea]
  refine ⟨g.1, fun S_p w r_p hPS hX_p I1 hsm hr hw hs_p => ?_⟩
  have hw := hw _ rfl
  subst hw
  have b_p := hs_p.2.2 10 _ _ rfl
  have g2 := g.2 S_p (r_p 10) b_p.1 b_p.2 hPS I1 hsm
  show rxIRE_7 S0 ws S_p (r_p 8) (r_p 9) (r_p 10) ∧ rxmRE_7 S0 ws S_p (r_p 8) (r_p 9) (r_p 10) < _
  rw [hr 8 (by decide), hr 9 (by decide)]
  exact g2
theorem rxkRE_8 {S0 : Nat → Int → Int} {ws : List Int} {S : Nat → Int → Int} {test : Int} (hP : rxPRE S0 ws) (hin : bx_same rxL (bx_mdl rxCRE.2.2.1) S0 S) (I0 : bx_Inv rxL S) (hinv : rxIRE_8 S0 ws S test) (l8 : 0 ≤ test) (u8 : test ≤ 1) : rxPBT S [480] ∧ ∀ (S_p : Nat → Int → Int) (t : Int), 0 ≤ t → t ≤ 4 → rxPSBT S [480] S_p (some t) → bx_Inv rxL S_p → bx_same rxL (bx_mdl rxCBT.2.2.1) S S_p → rxIRE_9 S0 ws S_p test t ∧ rxmRE_9 S0 ws S_p test t < rxmRE_8 S0 ws S test := by
  obtain ⟨h1, h2, h3, h4, h5⟩ := hinv
  have b18 : 0 ≤ S0 480 18 := hP.2.2.2
  refine ⟨⟨h1, h2, h5⟩, fun S_p t l u hq I1 hsm => ?_⟩
  obtain ⟨t_p, hw, q1, ht, q2⟩ := hq
  have he : t = t_p := Option.some.inj hw
  subst he
  have b14 := rxBox14 I1
  have f0 := q1.1.1
  have f1 := h1.1.1
  have g8 := rxBox8 I1
  have g9 := q1.1.2.1
  have g10 := q1.1.2.2.1
  have hc := rxTw_cases t
  refine ⟨⟨q1, fun q => ?_⟩, ?_⟩
  · rcases q2 q with ⟨c1, c0, c2, c3⟩ | ⟨c1, c0, c2, c3⟩ | ⟨c1, rfl, c2⟩
    · have g := rxRe_st h3 c2 b18 h4
      exact ⟨g.1, Or.inl ⟨by omega, g.2⟩, fun _ => c3, fun r => by omega⟩
    · have g := rxRe_st h3 c2 b18 h4
      exact ⟨g.1, Or.inr ⟨by omega, g.2⟩, fun _ => c3, fun r => by omega⟩
    · exact ⟨h3, Or.inr ⟨by omega, h4⟩, fun r => by omega, fun _ => c2⟩
  · unfold rxmRE_8 rxmRE_9
    by_cases q : S_p 480 14 = 0
    · rcases q2 q with ⟨c1, c0, c2, c3⟩ | ⟨c1, c0, c2, c3⟩ | ⟨c1, rfl, c2⟩
      · omega
      · omega
      · omega
    · omega
theorem rxsRE_8 {X : (Nat → Int → Int) → Prop} {S0 : Nat → Int → Int} {ws : List Int} (hP : rxPRE S0 ws) : rx_obK X S0 rxCRE.2.2.1 rxCBT.2.2.1 (rxIRE S0 ws) (rxmRE S0 ws) 8 9 rxzRE_8 rxzRE_9 [.inr (3, (0, 480))] (some 9) rxPBT rxPSBT := by
  intro S r hinv hXS I0 hin hs_ hf_
  have b_ := bx_bds_sat hs_
  have f_ := bx_fcl_ok hs_.1 hf_
  obtain ⟨⟨l8, u8⟩, -⟩ := b_
  have g := rxkRE_8 hP hin I0 hinv l8 u8
  have ea : List.map (bx_num r) [.inr (3, (0, 480))] = [480] := by
    simp only [List.map_cons, List.map_nil, bx_xv_ok hs_.1]
    rfl
  rw [ea]
  refine ⟨g.1, fun S_p w r_p hPS hX_p I1 hsm hr hw hs_p => ?_⟩
  have hw := hw _ rfl
  subst hw
  have b_p := hs_p.2.2 9 _ _ rfl
  have g2 := g.2 S_p (r_p 9) b_p.1 b_p.2 hPS I1 hsm
  show rxIRE_9 S0 ws S_p (r_p 8) (r_p 9) ∧ rxmRE_9 S0 ws S_p (r_p 8) (r_p 9) < _
  rw [hr 8 (by decide)]
  exact g2
theorem rxkRE_10 {S0 : Nat → Int → Int} {ws : List Int} {S : Nat → Int → Int} (hP : rxPRE S0 ws) (hin : bx_same rxL (bx_mdl rxCRE.2.2.1) S0 S) (I0 : bx_Inv rxL S) (hinv : rxIRE_10 S0 ws S)  : rxPST S [480, 1] ∧ ∀ (S_p : Nat → Int → Int), rxPSST S [480, 1] S_p none → bx_Inv rxL S_p → bx_same rxL (bx_mdl rxCST.2.2.1) S S_p → rxIRE_11 S0 ws S_p ∧ rxmRE_11 S0 ws S_p < rxmRE_10 S0 ws S := by
  obtain ⟨⟨k1, k2, k3, k4⟩, h2⟩ := hinv
  have b18 : 0 ≤ S0 480 18 := hP.2.2.2
  have b8 := rxBox8 I0
  have t2 := k1.2.1
  have t3 := k1.2.2.1
  refine ⟨⟨k2, k3, by omega⟩, fun S_p hq I1 hsm => ⟨?_, by unfold rxmRE_10 rxmRE_11; omega⟩⟩
  obtain ⟨-, l, hw, hs, ht⟩ := hq
  have hl : (1 : Int) = l := Option.some.inj (congrArg (fun l => l[1]?) hw)
  subst hl
  have hm := rxTm_of hsm (by decide +kernel)
  have m14 := hm.2.2.2.2.2
  have m9 := hm.2.1
  have u1 := hs.2.1
  have u2 := hs.2.2.2.2.1
  refine ⟨hm.tk k1, fun q => ?_⟩
  obtain ⟨c1, c2, c3⟩ := h2 (by omega)
  have g := rxRe_st c1 (rxSt_ef hs) b18 c2
  have g0 := rxNone c3 hs ht
  exact ⟨g.1, g.2, g0, by omega⟩
theorem rxsRE_10 {X : (Nat → Int → Int) → Prop} {S0 : Nat → Int → Int} {ws : List Int} (hP : rxPRE S0 ws) : rx_obK X S0 rxCRE.2.2.1 rxCST.2.2.1 (rxIRE S0 ws) (rxmRE S0 ws) 10 11 rxzRE_10 rxzRE_11 [.inr (3, (0, 480)), .inr (0, (0, 1))] none rxPST rxPSST := by
  intro S r hinv hXS I0 hin hs_ hf_
  have b_ := bx_bds_sat hs_
  have f_ := bx_fcl_ok hs_.1 hf_
  have g := rxkRE_10 hP hin I0 hinv 
  have ea : List.map (bx_num r) [.inr (3, (0, 480)), .inr (0, (0, 1))] = [480, 1] := by
    simp only [List.map_cons, List.map_nil, bx_xv_ok hs_.1]
    rfl
  rw [ea]
  refine ⟨g.1, fun S_p w r_p hPS hX_p I1 hsm hr hw hs_p => ?_⟩
  have hw : w = none := hPS.1
  subst hw
  have g2 := g.2 S_p hPS I1 hsm
  show rxIRE_11 S0 ws S_p ∧ rxmRE_11 S0 ws S_p < _
  exact g2
theorem rxcRE_0_0 {S0 : Nat → Int → Int} {ws : List Int} {S : Nat → Int → Int} {test : Int} (hP : rxPRE S0 ws) (hin : bx_same rxL (bx_mdl rxCRE.2.2.1) S0 S) (I0 : bx_Inv rxL S) (hinv : rxIRE_0 S0 ws S test) (l8 : 1 ≤ test) (u8 : test ≤ 1) (f0 : test ≠ 0) : (True) ∧ (True) ∧ rxIRE_1 S0 ws (bx_up (bx_up S 480 24 0) 480 25 0) test 0 ∧ rxmRE_1 S0 ws (bx_up (bx_up S 480 24 0) 480 25 0) test 0 < rxmRE_0 S0 ws S test := by
  obtain ⟨rfl, hw⟩ := hinv
  obtain ⟨p1, p2, p3, p4⟩ := hP
  have b18 := rxBox18 I0
  have b14 := rxBox14 I0
  have e24 : (bx_up (bx_up S 480 24 0) 480 25 0) 480 24 = 0 := by simp [bx_up]
  have e25 : (bx_up (bx_up S 480 24 0) 480 25 0) 480 25 = 0 := by simp [bx_up]
  have e18 : (bx_up (bx_up S 480 24 0) 480 25 0) 480 18 = S 480 18 := by simp [bx_up]
  have e9 : (bx_up (bx_up S 480 24 0) 480 25 0) 480 9 = S 480 9 := by simp [bx_up]
  have e14 : (bx_up (bx_up S 480 24 0) 480 25 0) 480 14 = S 480 14 := by simp [bx_up]
  have hk : rxTk (bx_up (bx_up S 480 24 0) 480 25 0) := by
    unfold rxTk
    simp [bx_up]
    unfold rxTk at p1
    omega
  have hn := rxWz_new e24
  rw [e18] at hn
  refine ⟨trivial, trivial, ⟨⟨hk, rxPz_no e24 e25, by omega, by omega⟩, fun _ => ⟨fun k _ _ => ⟨by simp [bx_up], by simp [bx_up]⟩, Or.inl ⟨by omega, hn⟩, fun _ i a b => by omega, fun q => by omega⟩⟩, ?_⟩
  unfold rxmRE_0 rxmRE_1
  have k0 := p1.1
  have hc := rxTw_cases 0
  simp only [e9, e14]
  omega
theorem rxgRE_0_0 {X : (Nat → Int → Int) → Prop} {S0 : Nat → Int → Int} {ws : List Int} (hP : rxPRE S0 ws) : bx_obC rxL X S0 rxCRE.2.2.1 (rxIRE S0 ws) (rxmRE S0 ws) 0 rxzRE_0 rxoRE_0_0 := by
  intro S S_p r r_p hinv hX hin hsm_ hseg
  obtain ⟨I0, I1, h0_, hr_, b_, f_, d_⟩ := bx_cl (evs := [(1, (0, 480), (0, 25), .inr (0, (0, 0))), (1, (0, 480), (0, 24), .inr (0, (0, 0)))]) (fvs := [(3, (8, 0), (0, 0), (0, 0))]) hseg (by decide +kernel) (by decide +kernel)
  have hinv : rxIRE_0 S0 ws S (r 8) := hinv
  rw [← hr_ 8 (by decide)] at hinv
  obtain ⟨⟨l8, u8⟩, -⟩ := b_
  obtain ⟨f0, -⟩ := f_
  obtain ⟨T0, ⟨T1, w_, w1⟩, w0⟩ := d_
  subst w0
  subst w1
  subst w_
  have g := rxcRE_0_0 hP hin I0 hinv l8 u8 f0
  refine ⟨bx_narP_ok (l := []) g.1, bx_nfP_ok h0_ (fvs := []) (by decide +kernel) g.2.1, ?_, ?_⟩
  · show rxIRE_1 S0 ws (bx_up (bx_up T1 480 (24) (0)) 480 (25) (0)) (bx_val [(0, 0), (0, 0), (0, 0), (0, 0), (0, 0), (0, 0), (0, 0), (0, 0), (8, 0), (0, 0)] r_p 8) (bx_val [(0, 0), (0, 0), (0, 0), (0, 0), (0, 0), (0, 0), (0, 0), (0, 0), (8, 0), (0, 0)] r_p 9)
    rw [bx_val_x (n := 8) (e := (8, 0)) h0_ rfl, bx_val_x (n := 9) (e := (0, 0)) h0_ rfl]
    exact g.2.2.1
  · show rxmRE_1 S0 ws (bx_up (bx_up T1 480 (24) (0)) 480 (25) (0)) (bx_val [(0, 0), (0, 0), (0, 0), (0, 0), (0, 0), (0, 0), (0, 0), (0, 0), (8, 0), (0, 0)] r_p 8) (bx_val [(0, 0), (0, 0), (0, 0), (0, 0), (0, 0), (0, 0), (0, 0), (0, 0), (8, 0), (0, 0)] r_p 9) < rxmRE_0 S0 ws T1 (r 8)
    rw [bx_val_x (n := 8) (e := (8, 0)) h0_ rfl, bx_val_x (n := 9) (e := (0, 0)) h0_ rfl, ← hr_ 8 (by decide)]
    exact g.2.2.2
theorem rxcRE_0_1 {S0 : Nat → Int → Int} {ws : List Int} {S : Nat → Int → Int} {test : Int} (hP : rxPRE S0 ws) (hin : bx_same rxL (bx_mdl rxCRE.2.2.1) S0 S) (I0 : bx_Inv rxL S) (hinv : rxIRE_0 S0 ws S test) (l8 : 0 ≤ test) (u8 : test ≤ 0) : (True) ∧ (True) ∧ rxIRE_1 S0 ws (bx_up (bx_up S 480 24 0) 480 25 0) test 1 ∧ rxmRE_1 S0 ws (bx_up (bx_up S 480 24 0) 480 25 0) test 1 < rxmRE_0 S0 ws S test := by
  obtain ⟨rfl, hw⟩ := hinv
  obtain ⟨p1, p2, p3, p4⟩ := hP
  have b18 := rxBox18 I0
  have b14 := rxBox14 I0
  have e24 : (bx_up (bx_up S 480 24 0) 480 25 0) 480 24 = 0 := by simp [bx_up]
  have e25 : (bx_up (bx_up S 480 24 0) 480 25 0) 480 25 = 0 := by simp [bx_up]
  have e18 : (bx_up (bx_up S 480 24 0) 480 25 0) 480 18 = S 480 18 := by simp [bx_up]
  have e9 : (bx_up (bx_up S 480 24 0) 480 25 0) 480 9 = S 480 9 := by simp [bx_up]
  have e14 : (bx_up (bx_up S 480 24 0) 480 25 0) 480 14 = S 480 14 := by simp [bx_up]
  have hk : rxTk (bx_up (bx_up S 480 24 0) 480 25 0) := by
    unfold rxTk
    simp [bx_up]
    unfold rxTk at p1
    omega
  have hn := rxWz_new e24
  rw [e18] at hn
  refine ⟨trivial, trivial, ⟨⟨hk, rxPz_no e24 e25, by omega, by omega⟩, fun _ => ⟨fun k _ _ => ⟨by simp [bx_up], by simp [bx_up]⟩, Or.inl ⟨by omega, hn⟩, fun _ i a b => by omega, fun q => by omega⟩⟩, ?_⟩
  unfold rxmRE_0 rxmRE_1
  have k0 := p1.1
  have hc := rxTw_cases 1
  simp only [e9, e14]
  omega
theorem rxgRE_0_1 {X : (Nat → Int → Int) → Prop} {S0 : Nat → Int → Int} {ws : List Int} (hP : rxPRE S0 ws) : bx_obC rxL X S0 rxCRE.2.2.1 (rxIRE S0 ws) (rxmRE S0 ws) 0 rxzRE_0 rxoRE_0_1 := by
  intro S S_p r r_p hinv hX hin hsm_ hseg
  obtain ⟨I0, I1, h0_, hr_, b_, f_, d_⟩ := bx_cl (evs := [(1, (0, 480), (0, 25), .inr (0, (0, 0))), (1, (0, 480), (0, 24), .inr (0, (0, 0)))]) (fvs := []) hseg (by decide +kernel) (by decide +kernel)
  have hinv : rxIRE_0 S0 ws S (r 8) := hinv
  rw [← hr_ 8 (by decide)] at hinv
  obtain ⟨⟨l8, u8⟩, -⟩ := b_
  obtain ⟨T0, ⟨T1, w_, w1⟩, w0⟩ := d_
  subst w0
  subst w1
  subst w_
  have g := rxcRE_0_1 hP hin I0 hinv l8 u8
  refine ⟨bx_narP_ok (l := []) g.1, bx_nfP_ok h0_ (fvs := []) (by decide +kernel) g.2.1, ?_, ?_⟩
  · show rxIRE_1 S0 ws (bx_up (bx_up T1 480 (24) (0)) 480 (25) (0)) (bx_val [(0, 0), (0, 0), (0, 0), (0, 0), (0, 0), (0, 0), (0, 0), (0, 0), (8, 0), (0, 1)] r_p 8) (bx_val [(0, 0), (0, 0), (0, 0), (0, 0), (0, 0), (0, 0), (0, 0), (0, 0), (8, 0), (0, 1)] r_p 9)
    rw [bx_val_x (n := 8) (e := (8, 0)) h0_ rfl, bx_val_x (n := 9) (e := (0, 1)) h0_ rfl]
    exact g.2.2.1
  · show rxmRE_1 S0 ws (bx_up (bx_up T1 480 (24) (0)) 480 (25) (0)) (bx_val [(0, 0), (0, 0), (0, 0), (0, 0), (0, 0), (0, 0), (0, 0), (0, 0), (8, 0), (0, 1)] r_p 8) (bx_val [(0, 0), (0, 0), (0, 0), (0, 0), (0, 0), (0, 0), (0, 0), (0, 0), (8, 0), (0, 1)] r_p 9) < rxmRE_0 S0 ws T1 (r 8)
    rw [bx_val_x (n := 8) (e := (8, 0)) h0_ rfl, bx_val_x (n := 9) (e := (0, 1)) h0_ rfl, ← hr_ 8 (by decide)]
    exact g.2.2.2
theorem rxcRE_1_0 {S0 : Nat → Int → Int} {ws : List Int} {S : Nat → Int → Int} {test turn x10 : Int} (hP : rxPRE S0 ws) (hin : bx_same rxL (bx_mdl rxCRE.2.2.1) S0 S) (I0 : bx_Inv rxL S) (hinv : rxIRE_1 S0 ws S test turn) (l8 : 0 ≤ test) (u8 : test ≤ 1) (l9 : 0 ≤ turn) (u9 : turn ≤ 0) (l10 : 0 ≤ x10) (u10 : x10 ≤ 0) (f0 : turn ≠ 4) (e0 : S 480 14 = x10) : (True) ∧ (True) ∧ rxIRE_2 S0 ws S test ∧ rxmRE_2 S0 ws S test < rxmRE_1 S0 ws S test turn := by
  obtain ⟨h1, h2⟩ := hinv
  have b14 := rxBox14 I0
  have f0 := h1.1.1
  have hc := rxTw_cases turn
  have b8 := rxBox8 I0
  have f1 := h1.1.2.1
  have f2 := h1.1.2.2.1
  obtain ⟨c1, c2, c3, c4⟩ := h2 (by omega)
  rcases c2 with ⟨c5, c2⟩ | ⟨c5, c2⟩
  · exact ⟨trivial, trivial, ⟨h1, by omega, c1, c2, c3 (by omega)⟩, by unfold rxmRE_1 rxmRE_2; omega⟩
  · omega
theorem rxgRE_1_0 {X : (Nat → Int → Int) → Prop} {S0 : Nat → Int → Int} {ws : List Int} (hP : rxPRE S0 ws) : bx_obC rxL X S0 rxCRE.2.2.1 (rxIRE S0 ws) (rxmRE S0 ws) 1 rxzRE_1 rxoRE_1_0 := by
  intro S S_p r r_p hinv hX hin hsm_ hseg
  obtain ⟨I0, I1, h0_, hr_, b_, f_, d_⟩ := bx_cl (evs := [(0, (0, 480), (0, 14), .inr (0, (10, 0)))]) (fvs := [(3, (9, 0), (0, 4), (0, 0))]) hseg (by decide +kernel) (by decide +kernel)
  have hinv : rxIRE_1 S0 ws S (r 8) (r 9) := hinv
  rw [← hr_ 8 (by decide), ← hr_ 9 (by decide)] at hinv
  obtain ⟨⟨l8, u8⟩, ⟨l9, u9⟩, ⟨l10, u10⟩, -⟩ := b_
  obtain ⟨f0, -⟩ := f_
  obtain ⟨e0, w_⟩ := d_
  subst w_
  have g := rxcRE_1_0 hP hin I0 hinv l8 u8 l9 u9 l10 u10 f0 e0
  refine ⟨bx_narP_ok (l := []) g.1, bx_nfP_ok h0_ (fvs := []) (by decide +kernel) g.2.1, ?_, ?_⟩
  · show rxIRE_2 S0 ws S_p (bx_val [(0, 0), (0, 0), (0, 0), (0, 0), (0, 0), (0, 0), (0, 0), (0, 0), (8, 0)] r_p 8)
    rw [bx_val_x (n := 8) (e := (8, 0)) h0_ rfl]
    exact g.2.2.1
  · show rxmRE_2 S0 ws S_p (bx_val [(0, 0), (0, 0), (0, 0), (0, 0), (0, 0), (0, 0), (0, 0), (0, 0), (8, 0)] r_p 8) < rxmRE_1 S0 ws S_p (r 8) (r 9)
    rw [bx_val_x (n := 8) (e := (8, 0)) h0_ rfl, ← hr_ 8 (by decide), ← hr_ 9 (by decide)]
    exact g.2.2.2
theorem rxcRE_1_1 {S0 : Nat → Int → Int} {ws : List Int} {S : Nat → Int → Int} {test turn x10 : Int} (hP : rxPRE S0 ws) (hin : bx_same rxL (bx_mdl rxCRE.2.2.1) S0 S) (I0 : bx_Inv rxL S) (hinv : rxIRE_1 S0 ws S test turn) (l8 : 0 ≤ test) (u8 : test ≤ 1) (l9 : 1 ≤ turn) (u9 : turn ≤ 1) (l10 : 0 ≤ x10) (u10 : x10 ≤ 0) (f0 : turn ≠ 0) (f1 : turn ≠ 4) (e0 : S 480 14 = x10) : (True) ∧ (True) ∧ rxIRE_4 S0 ws S test ∧ rxmRE_4 S0 ws S test < rxmRE_1 S0 ws S test turn := by
  obtain ⟨h1, h2⟩ := hinv
  have b14 := rxBox14 I0
  have f0 := h1.1.1
  have hc := rxTw_cases turn
  have b8 := rxBox8 I0
  have f1 := h1.1.2.1
  have f2 := h1.1.2.2.1
  obtain ⟨c1, c2, c3, c4⟩ := h2 (by omega)
  rcases c2 with ⟨c5, c2⟩ | ⟨c5, c2⟩
  · exact ⟨trivial, trivial, ⟨h1, by omega, c1, c2⟩, by unfold rxmRE_1 rxmRE_4; omega⟩
  · omega
theorem rxgRE_1_1 {X : (Nat → Int → Int) → Prop} {S0 : Nat → Int → Int} {ws : List Int} (hP : rxPRE S0 ws) : bx_obC rxL X S0 rxCRE.2.2.1 (rxIRE S0 ws) (rxmRE S0 ws) 1 rxzRE_1 rxoRE_1_1 := by
  intro S S_p r r_p hinv hX hin hsm_ hseg
  obtain ⟨I0, I1, h0_, hr_, b_, f_, d_⟩ := bx_cl (evs := [(0, (0, 480), (0, 14), .inr (0, (10, 0)))]) (fvs := [(3, (9, 0), (0, 0), (0, 0)), (3, (9, 0), (0, 4), (0, 0))]) hseg (by decide +kernel) (by decide +kernel)
  have hinv : rxIRE_1 S0 ws S (r 8) (r 9) := hinv
  rw [← hr_ 8 (by decide), ← hr_ 9 (by decide)] at hinv
  obtain ⟨⟨l8, u8⟩, ⟨l9, u9⟩, ⟨l10, u10⟩, -⟩ := b_
  obtain ⟨f0, f1, -⟩ := f_
  obtain ⟨e0, w_⟩ := d_
  subst w_
  have g := rxcRE_1_1 hP hin I0 hinv l8 u8 l9 u9 l10 u10 f0 f1 e0
  refine ⟨bx_narP_ok (l := []) g.1, bx_nfP_ok h0_ (fvs := []) (by decide +kernel) g.2.1, ?_, ?_⟩
  · show rxIRE_4 S0 ws S_p (bx_val [(0, 0), (0, 0), (0, 0), (0, 0), (0, 0), (0, 0), (0, 0), (0, 0), (8, 0)] r_p 8)
    rw [bx_val_x (n := 8) (e := (8, 0)) h0_ rfl]
    exact g.2.2.1
  · show rxmRE_4 S0 ws S_p (bx_val [(0, 0), (0, 0), (0, 0), (0, 0), (0, 0), (0, 0), (0, 0), (0, 0), (8, 0)] r_p 8) < rxmRE_1 S0 ws S_p (r 8) (r 9)
    rw [bx_val_x (n := 8) (e := (8, 0)) h0_ rfl, ← hr_ 8 (by decide), ← hr_ 9 (by decide)]
    exact g.2.2.2
theorem rxcRE_1_2 {S0 : Nat → Int → Int} {ws : List Int} {S : Nat → Int → Int} {test turn x10 : Int} (hP : rxPRE S0 ws) (hin : bx_same rxL (bx_mdl rxCRE.2.2.1) S0 S) (I0 : bx_Inv rxL S) (hinv : rxIRE_1 S0 ws S test turn) (l8 : 0 ≤ test) (u8 : test ≤ 1) (l9 : 3 ≤ turn) (u9 : turn ≤ 3) (l10 : 0 ≤ x10) (u10 : x10 ≤ 0) (f0 : turn ≠ 1) (f1 : turn ≠ 0) (f2 : turn ≠ 4) (e0 : S 480 14 = x10) : (True) ∧ (True) ∧ rxIRE_6 S0 ws S test test ∧ rxmRE_6 S0 ws S test test < rxmRE_1 S0 ws S test turn := by
  obtain ⟨h1, h2⟩ := hinv
  have b14 := rxBox14 I0
  have f0 := h1.1.1
  have hc := rxTw_cases turn
  have b8 := rxBox8 I0
  have f1 := h1.1.2.1
  have f2 := h1.1.2.2.1
  obtain ⟨c1, c2, c3, c4⟩ := h2 (by omega)
  rcases c2 with ⟨c5, c2⟩ | ⟨c5, c2⟩
  · omega
  · exact ⟨trivial, trivial, ⟨h1, by omega, c1, c2⟩, by unfold rxmRE_1 rxmRE_6; omega⟩
theorem rxgRE_1_2 {X : (Nat → Int → Int) → Prop} {S0 : Nat → Int → Int} {ws : List Int} (hP : rxPRE S0 ws) : bx_obC rxL X S0 rxCRE.2.2.1 (rxIRE S0 ws) (rxmRE S0 ws) 1 rxzRE_1 rxoRE_1_2 := by
  intro S S_p r r_p hinv hX hin hsm_ hseg
  obtain ⟨I0, I1, h0_, hr_, b_, f_, d_⟩ := bx_cl (evs := [(0, (0, 480), (0, 14), .inr (0, (10, 0)))]) (fvs := [(3, (9, 0), (0, 1), (0, 0)), (3, (9, 0), (0, 0), (0, 0)), (3, (9, 0), (0, 4), (0, 0))]) hseg (by decide +kernel) (by decide +kernel)
  have hinv : rxIRE_1 S0 ws S (r 8) (r 9) := hinv
  rw [← hr_ 8 (by decide), ← hr_ 9 (by decide)] at hinv
  obtain ⟨⟨l8, u8⟩, ⟨l9, u9⟩, ⟨l10, u10⟩, -⟩ := b_
  obtain ⟨f0, f1, f2, -⟩ := f_
  obtain ⟨e0, w_⟩ := d_
  subst w_
  have g := rxcRE_1_2 hP hin I0 hinv l8 u8 l9 u9 l10 u10 f0 f1 f2 e0
  refine ⟨bx_narP_ok (l := []) g.1, bx_nfP_ok h0_ (fvs := []) (by decide +kernel) g.2.1, ?_, ?_⟩
  · show rxIRE_6 S0 ws S_p (bx_val [(0, 0), (0, 0), (0, 0), (0, 0), (0, 0), (0, 0), (0, 0), (0, 0), (8, 0), (8, 0)] r_p 8) (bx_val [(0, 0), (0, 0), (0, 0), (0, 0), (0, 0), (0, 0), (0, 0), (0, 0), (8, 0), (8, 0)] r_p 9)
    rw [bx_val_x (n := 8) (e := (8, 0)) h0_ rfl, bx_val_x (n := 9) (e := (8, 0)) h0_ rfl]
    exact g.2.2.1
  · show rxmRE_6 S0 ws S_p (bx_val [(0, 0), (0, 0), (0, 0), (0, 0), (0, 0), (0, 0), (0, 0), (0, 0), (8, 0), (8, 0)] r_p 8) (bx_val [(0, 0), (0, 0), (0, 0), (0, 0), (0, 0), (0, 0), (0, 0), (0, 0), (8, 0), (8, 0)] r_p 9) < rxmRE_1 S0 ws S_p (r 8) (r 9)
    rw [bx_val_x (n := 8) (e := (8, 0)) h0_ rfl, bx_val_x (n := 9) (e := (8, 0)) h0_ rfl, ← hr_ 8 (by decide), ← hr_ 9 (by decide)]
    exact g.2.2.2
theorem rxcRE_1_3 {S0 : Nat → Int → Int} {ws : List Int} {S : Nat → Int → Int} {test turn x10 : Int} (hP : rxPRE S0 ws) (hin : bx_same rxL (bx_mdl rxCRE.2.2.1) S0 S) (I0 : bx_Inv rxL S) (hinv : rxIRE_1 S0 ws S test turn) (l8 : 0 ≤ test) (u8 : test ≤ 1) (l9 : 2 ≤ turn) (u9 : turn ≤ 2) (l10 : 0 ≤ x10) (u10 : x10 ≤ 0) (f0 : turn ≠ 3) (f1 : turn ≠ 1) (f2 : turn ≠ 0) (f3 : turn ≠ 4) (e0 : S 480 14 = x10) : (True) ∧ (True) ∧ rxIRE_8 S0 ws S test ∧ rxmRE_8 S0 ws S test < rxmRE_1 S0 ws S test turn := by
  obtain ⟨h1, h2⟩ := hinv
  have b14 := rxBox14 I0
  have f0 := h1.1.1
  have hc := rxTw_cases turn
  have b8 := rxBox8 I0
  have f1 := h1.1.2.1
  have f2 := h1.1.2.2.1
  obtain ⟨c1, c2, c3, c4⟩ := h2 (by omega)
  rcases c2 with ⟨c5, c2⟩ | ⟨c5, c2⟩
  · omega
  · exact ⟨trivial, trivial, ⟨h1, by omega, c1, c2, c3 (by omega)⟩, by unfold rxmRE_1 rxmRE_8; omega⟩
theorem rxgRE_1_3 {X : (Nat → Int → Int) → Prop} {S0 : Nat → Int → Int} {ws : List Int} (hP : rxPRE S0 ws) : bx_obC rxL X S0 rxCRE.2.2.1 (rxIRE S0 ws) (rxmRE S0 ws) 1 rxzRE_1 rxoRE_1_3 := by
  intro S S_p r r_p hinv hX hin hsm_ hseg
  obtain ⟨I0, I1, h0_, hr_, b_, f_, d_⟩ := bx_cl (evs := [(0, (0, 480), (0, 14), .inr (0, (10, 0)))]) (fvs := [(3, (9, 0), (0, 3), (0, 0)), (3, (9, 0), (0, 1), (0, 0)), (3, (9, 0), (0, 0), (0, 0)), (3, (9, 0), (0, 4), (0, 0))]) hseg (by decide +kernel) (by decide +kernel)
  have hinv : rxIRE_1 S0 ws S (r 8) (r 9) := hinv
  rw [← hr_ 8 (by decide), ← hr_ 9 (by decide)] at hinv
  obtain ⟨⟨l8, u8⟩, ⟨l9, u9⟩, ⟨l10, u10⟩, -⟩ := b_
  obtain ⟨f0, f1, f2, f3, -⟩ := f_
  obtain ⟨e0, w_⟩ := d_
  subst w_
  have g := rxcRE_1_3 hP hin I0 hinv l8 u8 l9 u9 l10 u10 f0 f1 f2 f3 e0
  refine ⟨bx_narP_ok (l := []) g.1, bx_nfP_ok h0_ (fvs := []) (by decide +kernel) g.2.1, ?_, ?_⟩
  · show rxIRE_8 S0 ws S_p (bx_val [(0, 0), (0, 0), (0, 0), (0, 0), (0, 0), (0, 0), (0, 0), (0, 0), (8, 0)] r_p 8)
    rw [bx_val_x (n := 8) (e := (8, 0)) h0_ rfl]
    exact g.2.2.1
  · show rxmRE_8 S0 ws S_p (bx_val [(0, 0), (0, 0), (0, 0), (0, 0), (0, 0), (0, 0), (0, 0), (0, 0), (8, 0)] r_p 8) < rxmRE_1 S0 ws S_p (r 8) (r 9)
    rw [bx_val_x (n := 8) (e := (8, 0)) h0_ rfl, ← hr_ 8 (by decide), ← hr_ 9 (by decide)]
    exact g.2.2.2
theorem rxcRE_1_4 {S0 : Nat → Int → Int} {ws : List Int} {S : Nat → Int → Int} {test turn x10 : Int} (hP : rxPRE S0 ws) (hin : bx_same rxL (bx_mdl rxCRE.2.2.1) S0 S) (I0 : bx_Inv rxL S) (hinv : rxIRE_1 S0 ws S test turn) (l8 : 0 ≤ test) (u8 : test ≤ 1) (l9 : 4 ≤ turn) (u9 : turn ≤ 4) (l10 : 0 ≤ x10) (u10 : x10 ≤ 0) (e0 : S 480 14 = x10) : (True) ∧ (True) ∧ rxIRE_10 S0 ws S ∧ rxmRE_10 S0 ws S < rxmRE_1 S0 ws S test turn := by
  obtain ⟨h1, h2⟩ := hinv
  have b14 := rxBox14 I0
  have f0 := h1.1.1
  have hc := rxTw_cases turn
  have b8 := rxBox8 I0
  have f1 := h1.1.2.1
  have f2 := h1.1.2.2.1
  refine ⟨trivial, trivial, ⟨h1, fun q => ?_⟩, by unfold rxmRE_1 rxmRE_10; omega⟩
  obtain ⟨c1, c2, c3, c4⟩ := h2 q
  rcases c2 with ⟨c2, -⟩ | ⟨-, c2⟩
  · omega
  · exact ⟨c1, c2, c4 (by omega)⟩
theorem rxgRE_1_4 {X : (Nat → Int → Int) → Prop} {S0 : Nat → Int → Int} {ws : List Int} (hP : rxPRE S0 ws) : bx_obC rxL X S0 rxCRE.2.2.1 (rxIRE S0 ws) (rxmRE S0 ws) 1 rxzRE_1 rxoRE_1_4 := by
  intro S S_p r r_p hinv hX hin hsm_ hseg
  obtain ⟨I0, I1, h0_, hr_, b_, f_, d_⟩ := bx_cl (evs := [(0, (0, 480), (0, 14), .inr (0, (10, 0)))]) (fvs := []) hseg (by decide +kernel) (by decide +kernel)
  have hinv : rxIRE_1 S0 ws S (r 8) (r 9) := hinv
  rw [← hr_ 8 (by decide), ← hr_ 9 (by decide)] at hinv
  obtain ⟨⟨l8, u8⟩, ⟨l9, u9⟩, ⟨l10, u10⟩, -⟩ := b_
  obtain ⟨e0, w_⟩ := d_
  subst w_
  have g := rxcRE_1_4 hP hin I0 hinv l8 u8 l9 u9 l10 u10 e0
  refine ⟨bx_narP_ok (l := []) g.1, bx_nfP_ok h0_ (fvs := []) (by decide +kernel) g.2.1, ?_, ?_⟩
  · show rxIRE_10 S0 ws S_p
    exact g.2.2.1
  · show rxmRE_10 S0 ws S_p < rxmRE_1 S0 ws S_p (r 8) (r 9)
    rw [← hr_ 8 (by decide), ← hr_ 9 (by decide)]
    exact g.2.2.2
theorem rxcRE_1_5 {S0 : Nat → Int → Int} {ws : List Int} {S : Nat → Int → Int} {test turn x10 : Int} (hP : rxPRE S0 ws) (hin : bx_same rxL (bx_mdl rxCRE.2.2.1) S0 S) (I0 : bx_Inv rxL S) (hinv : rxIRE_1 S0 ws S test turn) (l8 : 0 ≤ test) (u8 : test ≤ 1) (l9 : 0 ≤ turn) (u9 : turn ≤ 4) (l10 : 1 ≤ x10) (u10 : x10 ≤ 1) (f0 : x10 ≠ 0) (e0 : S 480 14 = x10) : (True) ∧ (True) ∧ rxIRE_10 S0 ws S ∧ rxmRE_10 S0 ws S < rxmRE_1 S0 ws S test turn := by
  obtain ⟨h1, h2⟩ := hinv
  have b14 := rxBox14 I0
  have f0 := h1.1.1
  have hc := rxTw_cases turn
  have b8 := rxBox8 I0
  have f1 := h1.1.2.1
  have f2 := h1.1.2.2.1
  refine ⟨trivial, trivial, ⟨h1, fun q => ?_⟩, by unfold rxmRE_1 rxmRE_10; omega⟩
  obtain ⟨c1, c2, c3, c4⟩ := h2 q
  rcases c2 with ⟨c2, -⟩ | ⟨-, c2⟩
  · omega
  · exact ⟨c1, c2, c4 (by omega)⟩
theorem rxgRE_1_5 {X : (Nat → Int → Int) → Prop} {S0 : Nat → Int → Int} {ws : List Int} (hP : rxPRE S0 ws) : bx_obC rxL X S0 rxCRE.2.2.1 (rxIRE S0 ws) (rxmRE S0 ws) 1 rxzRE_1 rxoRE_1_5 := by
  intro S S_p r r_p hinv hX hin hsm_ hseg
  obtain ⟨I0, I1, h0_, hr_, b_, f_, d_⟩ := bx_cl (evs := [(0, (0, 480), (0, 14), .inr (0, (10, 0)))]) (fvs := [(3, (10, 0), (0, 0), (0, 0))]) hseg (by decide +kernel) (by decide +kernel)
  have hinv : rxIRE_1 S0 ws S (r 8) (r 9) := hinv
  rw [← hr_ 8 (by decide), ← hr_ 9 (by decide)] at hinv
  obtain ⟨⟨l8, u8⟩, ⟨l9, u9⟩, ⟨l10, u10⟩, -⟩ := b_
  obtain ⟨f0, -⟩ := f_
  obtain ⟨e0, w_⟩ := d_
  subst w_
  have g := rxcRE_1_5 hP hin I0 hinv l8 u8 l9 u9 l10 u10 f0 e0
  refine ⟨bx_narP_ok (l := []) g.1, bx_nfP_ok h0_ (fvs := []) (by decide +kernel) g.2.1, ?_, ?_⟩
  · show rxIRE_10 S0 ws S_p
    exact g.2.2.1
  · show rxmRE_10 S0 ws S_p < rxmRE_1 S0 ws S_p (r 8) (r 9)
    rw [← hr_ 8 (by decide), ← hr_ 9 (by decide)]
    exact g.2.2.2
theorem rxcRE_3_0 {S0 : Nat → Int → Int} {ws : List Int} {S : Nat → Int → Int} {test t : Int} (hP : rxPRE S0 ws) (hin : bx_same rxL (bx_mdl rxCRE.2.2.1) S0 S) (I0 : bx_Inv rxL S) (hinv : rxIRE_3 S0 ws S test t) (l8 : 0 ≤ test) (u8 : test ≤ 1) (l9 : 0 ≤ t) (u9 : t ≤ 3) : (True) ∧ (True) ∧ rxIRE_1 S0 ws S test t ∧ rxmRE_1 S0 ws S test t < rxmRE_3 S0 ws S test t := by
  exact ⟨trivial, trivial, hinv, by unfold rxmRE_3 rxmRE_1; omega⟩
theorem rxgRE_3_0 {X : (Nat → Int → Int) → Prop} {S0 : Nat → Int → Int} {ws : List Int} (hP : rxPRE S0 ws) : bx_obC rxL X S0 rxCRE.2.2.1 (rxIRE S0 ws) (rxmRE S0 ws) 3 rxzRE_3 rxoRE_3_0 := by
  intro S S_p r r_p hinv hX hin hsm_ hseg
  obtain ⟨I0, I1, h0_, hr_, b_, f_, d_⟩ := bx_cl (evs := []) (fvs := []) hseg (by decide +kernel) (by decide +kernel)
  have hinv : rxIRE_3 S0 ws S (r 8) (r 9) := hinv
  rw [← hr_ 8 (by decide), ← hr_ 9 (by decide)] at hinv
  obtain ⟨⟨l8, u8⟩, ⟨l9, u9⟩, -⟩ := b_
  have w_ := d_
  subst w_
  have g := rxcRE_3_0 hP hin I0 hinv l8 u8 l9 u9
  refine ⟨bx_narP_ok (l := []) g.1, bx_nfP_ok h0_ (fvs := []) (by decide +kernel) g.2.1, ?_, ?_⟩
  · show rxIRE_1 S0 ws S_p (bx_val [(0, 0), (0, 0), (0, 0), (0, 0), (0, 0), (0, 0), (0, 0), (0, 0), (8, 0), (9, 0)] r_p 8) (bx_val [(0, 0), (0, 0), (0, 0), (0, 0), (0, 0), (0, 0), (0, 0), (0, 0), (8, 0), (9, 0)] r_p 9)
    rw [bx_val_x (n := 8) (e := (8, 0)) h0_ rfl, bx_val_x (n := 9) (e := (9, 0)) h0_ rfl]
    exact g.2.2.1
  · show rxmRE_1 S0 ws S_p (bx_val [(0, 0), (0, 0), (0, 0), (0, 0), (0, 0), (0, 0), (0, 0), (0, 0), (8, 0), (9, 0)] r_p 8) (bx_val [(0, 0), (0, 0), (0, 0), (0, 0), (0, 0), (0, 0), (0, 0), (0, 0), (8, 0), (9, 0)] r_p 9) < rxmRE_3 S0 ws S_p (r 8) (r 9)
    rw [bx_val_x (n := 8) (e := (8, 0)) h0_ rfl, bx_val_x (n := 9) (e := (9, 0)) h0_ rfl, ← hr_ 8 (by decide), ← hr_ 9 (by decide)]
    exact g.2.2.2
theorem rxcRE_5_0 {S0 : Nat → Int → Int} {ws : List Int} {S : Nat → Int → Int} {test t : Int} (hP : rxPRE S0 ws) (hin : bx_same rxL (bx_mdl rxCRE.2.2.1) S0 S) (I0 : bx_Inv rxL S) (hinv : rxIRE_5 S0 ws S test t) (l8 : 0 ≤ test) (u8 : test ≤ 1) (l9 : 0 ≤ t) (u9 : t ≤ 3) : (True) ∧ (True) ∧ rxIRE_1 S0 ws S test t ∧ rxmRE_1 S0 ws S test t < rxmRE_5 S0 ws S test t := by
  exact ⟨trivial, trivial, hinv, by unfold rxmRE_5 rxmRE_1; omega⟩
theorem rxgRE_5_0 {X : (Nat → Int → Int) → Prop} {S0 : Nat → Int → Int} {ws : List Int} (hP : rxPRE S0 ws) : bx_obC rxL X S0 rxCRE.2.2.1 (rxIRE S0 ws) (rxmRE S0 ws) 5 rxzRE_5 rxoRE_5_0 := by
  intro S S_p r r_p hinv hX hin hsm_ hseg
  obtain ⟨I0, I1, h0_, hr_, b_, f_, d_⟩ := bx_cl (evs := []) (fvs := []) hseg (by decide +kernel) (by decide +kernel)
  have hinv : rxIRE_5 S0 ws S (r 8) (r 9) := hinv
  rw [← hr_ 8 (by decide), ← hr_ 9 (by decide)] at hinv
  obtain ⟨⟨l8, u8⟩, ⟨l9, u9⟩, -⟩ := b_
  have w_ := d_
  subst w_
  have g := rxcRE_5_0 hP hin I0 hinv l8 u8 l9 u9
  refine ⟨bx_narP_ok (l := []) g.1, bx_nfP_ok h0_ (fvs := []) (by decide +kernel) g.2.1, ?_, ?_⟩
  · show rxIRE_1 S0 ws S_p (bx_val [(0, 0), (0, 0), (0, 0), (0, 0), (0, 0), (0, 0), (0, 0), (0, 0), (8, 0), (9, 0)] r_p 8) (bx_val [(0, 0), (0, 0), (0, 0), (0, 0), (0, 0), (0, 0), (0, 0), (0, 0), (8, 0), (9, 0)] r_p 9)
    rw [bx_val_x (n := 8) (e := (8, 0)) h0_ rfl, bx_val_x (n := 9) (e := (9, 0)) h0_ rfl]
    exact g.2.2.1
  · show rxmRE_1 S0 ws S_p (bx_val [(0, 0), (0, 0), (0, 0), (0, 0), (0, 0), (0, 0), (0, 0), (0, 0), (8, 0), (9, 0)] r_p 8) (bx_val [(0, 0), (0, 0), (0, 0), (0, 0), (0, 0), (0, 0), (0, 0), (0, 0), (8, 0), (9, 0)] r_p 9) < rxmRE_5 S0 ws S_p (r 8) (r 9)
    rw [bx_val_x (n := 8) (e := (8, 0)) h0_ rfl, bx_val_x (n := 9) (e := (9, 0)) h0_ rfl, ← hr_ 8 (by decide), ← hr_ 9 (by decide)]
    exact g.2.2.2
theorem rxcRE_7_0 {S0 : Nat → Int → Int} {ws : List Int} {S : Nat → Int → Int} {test tb t : Int} (hP : rxPRE S0 ws) (hin : bx_same rxL (bx_mdl rxCRE.2.2.1) S0 S) (I0 : bx_Inv rxL S) (hinv : rxIRE_7 S0 ws S test tb t) (l8 : 0 ≤ test) (u8 : test ≤ 1) (l9 : 0 ≤ tb) (u9 : tb ≤ 1) (l10 : 0 ≤ t) (u10 : t ≤ 4) : (True) ∧ (True) ∧ rxIRE_1 S0 ws S test t ∧ rxmRE_1 S0 ws S test t < rxmRE_7 S0 ws S test tb t := by
  exact ⟨trivial, trivial, hinv, by unfold rxmRE_7 rxmRE_1; omega⟩
theorem rxgRE_7_0 {X : (Nat → Int → Int) → Prop} {S0 : Nat → Int → Int} {ws : List Int} (hP : rxPRE S0 ws) : bx_obC rxL X S0 rxCRE.2.2.1 (rxIRE S0 ws) (rxmRE S0 ws) 7 rxzRE_7 rxoRE_7_0 := by
  intro S S_p r r_p hinv hX hin hsm_ hseg
  obtain ⟨I0, I1, h0_, hr_, b_, f_, d_⟩ := bx_cl (evs := []) (fvs := []) hseg (by decide +kernel) (by decide +kernel)
  have hinv : rxIRE_7 S0 ws S (r 8) (r 9) (r 10) := hinv
  rw [← hr_ 8 (by decide), ← hr_ 9 (by decide), ← hr_ 10 (by decide)] at hinv
  obtain ⟨⟨l8, u8⟩, ⟨l9, u9⟩, ⟨l10, u10⟩, -⟩ := b_
  have w_ := d_
  subst w_
  have g := rxcRE_7_0 hP hin I0 hinv l8 u8 l9 u9 l10 u10
  refine ⟨bx_narP_ok (l := []) g.1, bx_nfP_ok h0_ (fvs := []) (by decide +kernel) g.2.1, ?_, ?_⟩
  · show rxIRE_1 S0 ws S_p (bx_val [(0, 0), (0, 0), (0, 0), (0, 0), (0, 0), (0, 0), (0, 0), (0, 0), (8, 0), (10, 0)] r_p 8) (bx_val [(0, 0), (0, 0), (0, 0), (0, 0), (0, 0), (0, 0), (0, 0), (0, 0), (8, 0), (10, 0)] r_p 9)
    rw [bx_val_x (n := 8) (e := (8, 0)) h0_ rfl, bx_val_x (n := 9) (e := (10, 0)) h0_ rfl]
    exact g.2.2.1
  · show rxmRE_1 S0 ws S_p (bx_val [(0, 0), (0, 0), (0, 0), (0, 0), (0, 0), (0, 0), (0, 0), (0, 0), (8, 0), (10, 0)] r_p 8) (bx_val [(0, 0), (0, 0), (0, 0), (0, 0), (0, 0), (0, 0), (0, 0), (0, 0), (8, 0), (10, 0)] r_p 9) < rxmRE_7 S0 ws S_p (r 8) (r 9) (r 10)
    rw [bx_val_x (n := 8) (e := (8, 0)) h0_ rfl, bx_val_x (n := 9) (e := (10, 0)) h0_ rfl, ← hr_ 8 (by decide), ← hr_ 9 (by decide), ← hr_ 10 (by decide)]
    exact g.2.2.2
theorem rxcRE_9_0 {S0 : Nat → Int → Int} {ws : List Int} {S : Nat → Int → Int} {test t : Int} (hP : rxPRE S0 ws) (hin : bx_same rxL (bx_mdl rxCRE.2.2.1) S0 S) (I0 : bx_Inv rxL S) (hinv : rxIRE_9 S0 ws S test t) (l8 : 0 ≤ test) (u8 : test ≤ 1) (l9 : 0 ≤ t) (u9 : t ≤ 4) : (True) ∧ (True) ∧ rxIRE_1 S0 ws S test t ∧ rxmRE_1 S0 ws S test t < rxmRE_9 S0 ws S test t := by
  exact ⟨trivial, trivial, hinv, by unfold rxmRE_9 rxmRE_1; omega⟩
theorem rxgRE_9_0 {X : (Nat → Int → Int) → Prop} {S0 : Nat → Int → Int} {ws : List Int} (hP : rxPRE S0 ws) : bx_obC rxL X S0 rxCRE.2.2.1 (rxIRE S0 ws) (rxmRE S0 ws) 9 rxzRE_9 rxoRE_9_0 := by
  intro S S_p r r_p hinv hX hin hsm_ hseg
  obtain ⟨I0, I1, h0_, hr_, b_, f_, d_⟩ := bx_cl (evs := []) (fvs := []) hseg (by decide +kernel) (by decide +kernel)
  have hinv : rxIRE_9 S0 ws S (r 8) (r 9) := hinv
  rw [← hr_ 8 (by decide), ← hr_ 9 (by decide)] at hinv
  obtain ⟨⟨l8, u8⟩, ⟨l9, u9⟩, -⟩ := b_
  have w_ := d_
  subst w_
  have g := rxcRE_9_0 hP hin I0 hinv l8 u8 l9 u9
  refine ⟨bx_narP_ok (l := []) g.1, bx_nfP_ok h0_ (fvs := []) (by decide +kernel) g.2.1, ?_, ?_⟩
  · show rxIRE_1 S0 ws S_p (bx_val [(0, 0), (0, 0), (0, 0), (0, 0), (0, 0), (0, 0), (0, 0), (0, 0), (8, 0), (9, 0)] r_p 8) (bx_val [(0, 0), (0, 0), (0, 0), (0, 0), (0, 0), (0, 0), (0, 0), (0, 0), (8, 0), (9, 0)] r_p 9)
    rw [bx_val_x (n := 8) (e := (8, 0)) h0_ rfl, bx_val_x (n := 9) (e := (9, 0)) h0_ rfl]
    exact g.2.2.1
  · show rxmRE_1 S0 ws S_p (bx_val [(0, 0), (0, 0), (0, 0), (0, 0), (0, 0), (0, 0), (0, 0), (0, 0), (8, 0), (9, 0)] r_p 8) (bx_val [(0, 0), (0, 0), (0, 0), (0, 0), (0, 0), (0, 0), (0, 0), (0, 0), (8, 0), (9, 0)] r_p 9) < rxmRE_9 S0 ws S_p (r 8) (r 9)
    rw [bx_val_x (n := 8) (e := (8, 0)) h0_ rfl, bx_val_x (n := 9) (e := (9, 0)) h0_ rfl, ← hr_ 8 (by decide), ← hr_ 9 (by decide)]
    exact g.2.2.2
theorem rxdRE_11_0 {S0 : Nat → Int → Int} {ws : List Int} {S : Nat → Int → Int} (hP : rxPRE S0 ws) (hin : bx_same rxL (bx_mdl rxCRE.2.2.1) S0 S) (hin2 : bx_same rxL (bx_mdl rxCRE.2.2.1) S S) (I0 : bx_Inv rxL S) (I1 : bx_Inv rxL S) (hinv : rxIRE_11 S0 ws S)  : (True) ∧ rxPSRE S0 ws S none := by
  obtain ⟨h1, h2⟩ := hinv
  refine ⟨trivial, rfl, h1, fun q => ?_⟩
  obtain ⟨c1, c2, c3, c4⟩ := h2 q
  have hf : S0 480 18 ≤ S 480 18 := by
    obtain ⟨d, a0, a1, -⟩ := c2
    exact a1
  exact ⟨rxWz_seg c2 c3, c1, hf, c4⟩
theorem rxfRE_11_0 {X : (Nat → Int → Int) → Prop} {S0 : Nat → Int → Int} {ws : List Int} (hP : rxPRE S0 ws) : bx_obE rxL X S0 rxCRE.2.2.1 (rxIRE S0 ws) (rxPSRE S0 ws) 11 rxzRE_11 rxeRE_11_0 := by
  intro S S_p r r_p hinv hX hin hsm_ hseg
  obtain ⟨I0, I1, h0_, hr_, b_, f_, d_⟩ := bx_cl (evs := []) (fvs := []) hseg (by decide +kernel) (by decide +kernel)
  have hinv : rxIRE_11 S0 ws S := hinv
  have w_ := d_
  subst w_
  have g := rxdRE_11_0 hP hin hsm_ I0 I1 hinv 
  refine ⟨bx_narP_ok (l := []) g.1, ?_⟩
  exact g.2
theorem rxgCRE {X : (Nat → Int → Int) → Prop} {S0 : Nat → Int → Int} {ws : List Int} (hP : rxPRE S0 ws) : bx_allI (fun i q => rxURE q = true ∨ bx_allP (fun o => bx_obC rxL X S0 rxCRE.2.2.1 (rxIRE S0 ws) (rxmRE S0 ws) i q.1 o) q.2.1) 0 rxYRE := ⟨Or.inr ⟨rxgRE_0_0 hP, rxgRE_0_1 hP, trivial⟩, Or.inr ⟨rxgRE_1_0 hP, rxgRE_1_1 hP, rxgRE_1_2 hP, rxgRE_1_3 hP, rxgRE_1_4 hP, rxgRE_1_5 hP, trivial⟩, Or.inl rfl, Or.inr ⟨rxgRE_3_0 hP, trivial⟩, Or.inl rfl, Or.inr ⟨rxgRE_5_0 hP, trivial⟩, Or.inl rfl, Or.inr ⟨rxgRE_7_0 hP, trivial⟩, Or.inl rfl, Or.inr ⟨rxgRE_9_0 hP, trivial⟩, Or.inl rfl, Or.inr trivial, trivial⟩
theorem rxgERE {X : (Nat → Int → Int) → Prop} {S0 : Nat → Int → Int} {ws : List Int} (hP : rxPRE S0 ws) : bx_allI (fun i q => rxURE q = true ∨ bx_allP (fun E => bx_obE rxL X S0 rxCRE.2.2.1 (rxIRE S0 ws) (rxPSRE S0 ws) i q.1 E) q.2.2) 0 rxYRE := ⟨Or.inr trivial, Or.inr trivial, Or.inl rfl, Or.inr trivial, Or.inl rfl, Or.inr trivial, Or.inl rfl, Or.inr trivial, Or.inl rfl, Or.inr trivial, Or.inl rfl, Or.inr ⟨rxfRE_11_0 hP, trivial⟩, trivial⟩
theorem rxuRE {PX : State → Prop} {Dg : va_G} {A : Nat → Prop} {ad xa : Nat → Nat} {l : Launch} {X : (Nat → Int → Int) → Prop} (hPX : rx_PXOK rxNW A PX) (hX : ∀ S S1 : Nat → Int → Int, X S → bx_same rxL (bx_mdl rxCRE.2.2.1) S S1 → X S1) (hQRN : bx_ConP rxG rxNW rxAO PX Dg rxL X vwCl A ad l rxM278 rxCRN rxPRN rxPSRN) (hQRP : bx_ConP rxG rxNW rxAO PX Dg rxL X vwCl A ad l rxM274 rxCRP rxPRP rxPSRP) (hQBS : bx_ConP rxG rxNW rxAO PX Dg rxL X vwCl A ad l rxM279 rxCBS rxPBS rxPSBS) (hQBT : bx_ConP rxG rxNW rxAO PX Dg rxL X vwCl A ad l rxM280 rxCBT rxPBT rxPSBT) (hQST : bx_ConP rxG rxNW rxAO PX Dg rxL X vwCl A ad l rxM275 rxCST rxPST rxPSST) {S0 : Nat → Int → Int} {ws : List Int} (hP : rxPRE S0 ws) : ∀ (i : Nat) (q : bx_HE), rxYRE[i]? = some q → rxURE q = true → ∀ {p : Program} {e : Env} {R : Room} {s : State} {m : MethodId} {args : Array Value} {below : List Frame} {meth : Method} {c : Code} {Q : State → Prop} {H0 : Heap}, rx_Fr rxG rxNW rxAO PX p s m args meth c rxM282 → (∀ q, H0.size ≤ q → A q) → H0 = s.heap → rxM282.2.2.2.2.2.2.1 ≤ R.cells → rxM282.2.2.2.2.2.2.2 ≤ R.slots → rxCRE.2.2.2.1 ≤ R.frames → rxCRE.2.2.2.1 * 40 ≤ R.locals → bx_Step p l e R s m args below meth c Q Dg rxL X vwCl A xa H0 ad rxM282 rxYRE (rxIRE S0 ws) (rxmRE S0 ws) S0 rxCRE.2.2.1 i q := by
  intro i q hq hus p e R s m args below meth c Q H0 hF hA hH0 hmc hms hd hdl
  match i, hq with
  | 0, hq =>
    cases hq
    exact absurd (show false = true from hus) Bool.false_ne_true
  | 1, hq =>
    cases hq
    exact absurd (show false = true from hus) Bool.false_ne_true
  | 2, hq =>
    cases hq
    exact rx_stepC (ins := .invokevirtual 361) (len := 3) (i_p := 3) (M_p := rxM278) (d := rxCRE.2.2.2.1) (as := [.inr (3, (0, 480))]) (t := []) (ct := rxCRN) hPX hF rfl hA hH0 hmc hms hd hdl (by decide +kernel) rfl rfl (by decide +kernel) (by decide +kernel) hQRN (by decide +kernel) rfl (Or.inr ⟨_, _, _, 1, rfl, rfl, by omega, rfl, rfl, rfl⟩) (rxsRE_2 hP)
  | 3, hq =>
    cases hq
    exact absurd (show false = true from hus) Bool.false_ne_true
  | 4, hq =>
    cases hq
    exact rx_stepC (ins := .invokevirtual 344) (len := 3) (i_p := 5) (M_p := rxM274) (d := rxCRE.2.2.2.1) (as := [.inr (3, (0, 480))]) (t := []) (ct := rxCRP) hPX hF rfl hA hH0 hmc hms hd hdl (by decide +kernel) rfl rfl (by decide +kernel) (by decide +kernel) hQRP (by decide +kernel) rfl (Or.inr ⟨_, _, _, 1, rfl, rfl, by omega, rfl, rfl, rfl⟩) (rxsRE_4 hP)
  | 5, hq =>
    cases hq
    exact absurd (show false = true from hus) Bool.false_ne_true
  | 6, hq =>
    cases hq
    exact rx_stepC (ins := .invokevirtual 364) (len := 3) (i_p := 7) (M_p := rxM279) (d := rxCRE.2.2.2.1) (as := [.inr (3, (0, 480)), .inr (0, (9, 0))]) (t := []) (ct := rxCBS) hPX hF rfl hA hH0 hmc hms hd hdl (by decide +kernel) rfl rfl (by decide +kernel) (by decide +kernel) hQBS (by decide +kernel) rfl (Or.inr ⟨_, _, _, 1, rfl, rfl, by omega, rfl, rfl, rfl⟩) (rxsRE_6 hP)
  | 7, hq =>
    cases hq
    exact absurd (show false = true from hus) Bool.false_ne_true
  | 8, hq =>
    cases hq
    exact rx_stepC (ins := .invokevirtual 368) (len := 3) (i_p := 9) (M_p := rxM280) (d := rxCRE.2.2.2.1) (as := [.inr (3, (0, 480))]) (t := []) (ct := rxCBT) hPX hF rfl hA hH0 hmc hms hd hdl (by decide +kernel) rfl rfl (by decide +kernel) (by decide +kernel) hQBT (by decide +kernel) rfl (Or.inr ⟨_, _, _, 1, rfl, rfl, by omega, rfl, rfl, rfl⟩) (rxsRE_8 hP)
  | 9, hq =>
    cases hq
    exact absurd (show false = true from hus) Bool.false_ne_true
  | 10, hq =>
    cases hq
    exact rx_stepC (ins := .invokevirtual 347) (len := 3) (i_p := 11) (M_p := rxM275) (d := rxCRE.2.2.2.1) (as := [.inr (3, (0, 480)), .inr (0, (0, 1))]) (t := []) (ct := rxCST) hPX hF rfl hA hH0 hmc hms hd hdl (by decide +kernel) rfl rfl (by decide +kernel) (by decide +kernel) hQST (by decide +kernel) rfl (Or.inl ⟨rfl, rfl, rfl⟩) (rxsRE_10 hP)
  | 11, hq =>
    cases hq
    exact absurd (show false = true from hus) Bool.false_ne_true
  | n + 12, hq => cases hq
theorem rxQRE {PX : State → Prop} {Dg : va_G} {A : Nat → Prop} {ad xa : Nat → Nat} {l : Launch} {X : (Nat → Int → Int) → Prop} (hPX : rx_PXOK rxNW A PX) (hsl : ∀ s : State, PX s → ∀ o idx n : Nat, rxSl o idx = some n → ∃ tx : String, vk_R (rxNm o) idx tx (ad n) s)
    (hX : ∀ S S_p : Nat → Int → Int, X S → bx_same rxL (bx_mdl rxCRE.2.2.1) S S_p → X S_p)
    (ih : ∀ (j2 : Nat) (ct2 : bx_Ct) (M2 : rx_Mt), ct2 ∈ rxCnE j2 → ct2.2.2.2.1 + 1 ≤ rxCRE.2.2.2.1 → rxT.2.2.2.2.2 j2 = some M2 → bx_Con rxG rxNW rxAO PX Dg rxL X vwCl A ad l M2 ct2) (hQRN : bx_ConP rxG rxNW rxAO PX Dg rxL X vwCl A ad l rxM278 rxCRN rxPRN rxPSRN) (hQRP : bx_ConP rxG rxNW rxAO PX Dg rxL X vwCl A ad l rxM274 rxCRP rxPRP rxPSRP) (hQBS : bx_ConP rxG rxNW rxAO PX Dg rxL X vwCl A ad l rxM279 rxCBS rxPBS rxPSBS) (hQBT : bx_ConP rxG rxNW rxAO PX Dg rxL X vwCl A ad l rxM280 rxCBT rxPBT rxPSBT) (hQST : bx_ConP rxG rxNW rxAO PX Dg rxL X vwCl A ad l rxM275 rxCST rxPST rxPSST) : bx_ConP rxG rxNW rxAO PX Dg rxL X vwCl A ad l rxM282 rxCRE rxPRE rxPSRE :=
  rxQof (xa := xa) (Cn := rxCnE) (f := 30000) (j := 282) (tab := rxYRE) (us := rxURE) hPX hsl hX ih rfl rxYcRE rxIRE rxmRE
    (fun S0 ws r I0 I ht0 ht as he he1 hX0 hI0 hP hs ha => by
      have e := he.symm.trans (show bx_ent0 rxNP rxCRE.1 bx_I0 [] = some ([(0, 0), (0, 0), (0, 0), (0, 0), (0, 0), (0, 0), (0, 0), (0, 0), (0, 1)], [], [.inr (3, (0, 480)), .inr (0, (8, 0))]) from rfl)
      cases e
      subst ha
      have h0 : r 0 = 0 := hs.1
      show rxIRE_0 S0 _ S0 (r 8)
      refine ⟨rfl, ?_⟩
      simp only [List.map_cons, List.map_nil, bx_xv_ok h0]
      rfl)
    (fun S0 ws hP => rxuRE (xa := xa) hPX hX hQRN hQRP hQBS hQBT hQST hP) (fun S0 ws hP => rxgCRE hP) (fun S0 ws hP => rxgERE hP)
