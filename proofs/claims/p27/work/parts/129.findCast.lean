noncomputable def rxCastP (S : Nat → Int → Int) (k : Int) : Int := (if 0 < k then S 508 0 else if 0 = k then S 508 0 + 1 else 0) * 100000 + (if 1 < k then S 508 1 else if 1 = k then S 508 1 + 1 else 0) * 10000 + (if 2 < k then S 508 2 else if 2 = k then S 508 2 + 1 else 0) * 1000 + (if 3 < k then S 508 3 else if 3 = k then S 508 3 + 1 else 0) * 100 + (if 4 < k then S 508 4 else if 4 = k then S 508 4 + 1 else 0) * 10 + (if 5 < k then S 508 5 else if 5 = k then S 508 5 + 1 else 0)
noncomputable def rxCastQ (S : Nat → Int → Int) (k : Int) : Int := (if 0 ≤ k then S 508 0 else 0) * 100000 + (if 1 ≤ k then S 508 1 else 0) * 10000 + (if 2 ≤ k then S 508 2 else 0) * 1000 + (if 3 ≤ k then S 508 3 else 0) * 100 + (if 4 ≤ k then S 508 4 else 0) * 10 + (if 5 ≤ k then S 508 5 else 0)
theorem rxCast_lo {S : Nat → Int → Int} {k : Int} (k0 : 0 ≤ k) (k5 : k ≤ 5) (h : ∀ j : Int, 0 ≤ j → j < k → 0 ≤ S 508 j) (hk : -1 ≤ S 508 k) : 0 ≤ rxCastP S k := by
  have a0 := h 0 (by omega)
  have a1 := h 1 (by omega)
  have a2 := h 2 (by omega)
  have a3 := h 3 (by omega)
  have a4 := h 4 (by omega)
  rcases (show k = 0 ∨ k = 1 ∨ k = 2 ∨ k = 3 ∨ k = 4 ∨ k = 5 by omega) with rfl | rfl | rfl | rfl | rfl | rfl <;> simp [rxCastP] at * <;> omega
theorem rxCast_hi {S : Nat → Int → Int} {k : Int} (k0 : 0 ≤ k) (k5 : k ≤ 5) (h : ∀ j : Int, 0 ≤ j → j < k → 0 ≤ S 508 j ∧ S 508 j ≤ 7) (hk : S 508 k ≤ 7) : rxCastP S k ≤ 1000000 := by
  have a0 := h 0 (by omega)
  have a1 := h 1 (by omega)
  have a2 := h 2 (by omega)
  have a3 := h 3 (by omega)
  have a4 := h 4 (by omega)
  rcases (show k = 0 ∨ k = 1 ∨ k = 2 ∨ k = 3 ∨ k = 4 ∨ k = 5 by omega) with rfl | rfl | rfl | rfl | rfl | rfl <;> simp [rxCastP] at * <;> omega
theorem rxCast_pop {S : Nat → Int → Int} {k : Int} (k0 : 1 ≤ k) (k5 : k ≤ 5) (hk : S 508 k ≤ 7) : rxCastP S k + 2 ≤ rxCastP (bx_up S 508 k (S 508 k + 1)) (k + (-1)) := by
  rcases (show k = 1 ∨ k = 2 ∨ k = 3 ∨ k = 4 ∨ k = 5 by omega) with rfl | rfl | rfl | rfl | rfl <;> simp [rxCastP, bx_up] at * <;> omega
theorem rxCast_inc {S : Nat → Int → Int} {k : Int} (k0 : 0 ≤ k) (k5 : k ≤ 5) : rxCastQ (bx_up S 508 k (S 508 k + 1)) k = rxCastP S k := by
  rcases (show k = 0 ∨ k = 1 ∨ k = 2 ∨ k = 3 ∨ k = 4 ∨ k = 5 by omega) with rfl | rfl | rfl | rfl | rfl | rfl <;> simp [rxCastP, rxCastQ, bx_up]
theorem rxCast_next {S : Nat → Int → Int} {k : Int} (k0 : 0 ≤ k) (k5 : k ≤ 5) : rxCastQ S k + 1 ≤ rxCastP S k := by
  rcases (show k = 0 ∨ k = 1 ∨ k = 2 ∨ k = 3 ∨ k = 4 ∨ k = 5 by omega) with rfl | rfl | rfl | rfl | rfl | rfl <;> simp [rxCastP, rxCastQ] <;> omega
theorem rxCast_push {S : Nat → Int → Int} {k : Int} (k0 : 0 ≤ k) (k5 : k ≤ 4) : rxCastP (bx_up S 508 (k + 1) (-1)) (k + 1) = rxCastQ S k := by
  rcases (show k = 0 ∨ k = 1 ∨ k = 2 ∨ k = 3 ∨ k = 4 by omega) with rfl | rfl | rfl | rfl | rfl <;> simp [rxCastP, rxCastQ, bx_up]
theorem rxCast_cg {S S_p : Nat → Int → Int} {k : Int} (h : ∀ j : Int, 0 ≤ j → j < 6 → S_p 508 j = S 508 j) : rxCastQ S_p k = rxCastQ S k := by
  unfold rxCastQ
  rw [h 0 (by omega) (by omega), h 1 (by omega) (by omega), h 2 (by omega) (by omega), h 3 (by omega) (by omega), h 4 (by omega) (by omega), h 5 (by omega) (by omega)]
noncomputable def rxI317_0 (S0 : Nat → Int → Int) (ws : List Int) (S : Nat → Int → Int) : Prop := S = S0 ∧ ws = [480]
noncomputable def rxm317_0 (S0 : Nat → Int → Int) (ws : List Int) (S : Nat → Int → Int) : Nat := 10000000000
noncomputable def rxz317_0 : rx_Z := ([(0, 0), (0, 0), (0, 0), (0, 0), (0, 0), (0, 0), (0, 0), (0, 0)], [], [], 0, 0, 0, [(0, .inr (3, (0, 480)))], [])
noncomputable def rxI317_1 (S0 : Nat → Int → Int) (ws : List Int) (S : Nat → Int → Int) (parts k : Int) : Prop := True
noncomputable def rxm317_1 (S0 : Nat → Int → Int) (ws : List Int) (S : Nat → Int → Int) (parts k : Int) : Nat := 5000000000 + 10 * (100 - k).toNat
noncomputable def rxz317_1 : rx_Z := ([(0, 0), (0, 0), (0, 0), (0, 0), (0, 0), (0, 0), (0, 0), (0, 0), (0, 6), (0, 48)], [], [], 0, 0, 9, [(0, .inr (3, (0, 480))), (1, .inr (0, (8, 0))), (2, .inr (0, (9, 0)))], [])
noncomputable def rxI317_2 (S0 : Nat → Int → Int) (ws : List Int) (S : Nat → Int → Int) (parts k k2 v : Int) : Prop := True
noncomputable def rxm317_2 (S0 : Nat → Int → Int) (ws : List Int) (S : Nat → Int → Int) (parts k k2 v : Int) : Nat := 5000000000 + 10 * (100 - k).toNat - 5
noncomputable def rxz317_2 : rx_Z := ([(0, 0), (0, 0), (0, 0), (0, 0), (0, 0), (0, 0), (0, 0), (0, 0), (0, 6), (0, 47), (0, 47), (0, 1)], [], [], 0, 0, 78, [(0, .inr (3, (0, 480))), (1, .inr (0, (8, 0))), (2, .inr (0, (9, 0)))], [.inr (0, (11, 0)), .inr (0, (10, 0)), .inr (3, (0, 510))])
noncomputable def rxI317_3 (S0 : Nat → Int → Int) (ws : List Int) (S : Nat → Int → Int) (parts : Int) : Prop := True
noncomputable def rxm317_3 (S0 : Nat → Int → Int) (ws : List Int) (S : Nat → Int → Int) (parts : Int) : Nat := 100
noncomputable def rxz317_3 : rx_Z := ([(0, 0), (0, 0), (0, 0), (0, 0), (0, 0), (0, 0), (0, 0), (0, 0), (0, 0)], [], [], 0, 0, 103, [(0, .inr (3, (0, 480))), (1, .inr (0, (8, 0)))], [.inr (0, (0, 0)), .inr (3, (0, 480))])
noncomputable def rxI317_4 (S0 : Nat → Int → Int) (ws : List Int) (S : Nat → Int → Int) (parts : Int) : Prop := True
noncomputable def rxm317_4 (S0 : Nat → Int → Int) (ws : List Int) (S : Nat → Int → Int) (parts : Int) : Nat := 50
noncomputable def rxz317_4 : rx_Z := ([(0, 0), (0, 0), (0, 0), (0, 0), (0, 0), (0, 0), (0, 0), (0, 0), (0, 0)], [], [], 0, 0, 106, [(0, .inr (3, (0, 480))), (1, .inr (0, (8, 0)))], [])
noncomputable def rxI317_5 (S0 : Nat → Int → Int) (ws : List Int) (S : Nat → Int → Int) (parts k : Int) : Prop := k < parts ∧ (∀ j : Int, 0 ≤ j → j < k → 0 ≤ S 508 j ∧ S 508 j ≤ 7) ∧ (0 ≤ k → -1 ≤ S 508 k ∧ S 508 k ≤ 7)
noncomputable def rxm317_5 (S0 : Nat → Int → Int) (ws : List Int) (S : Nat → Int → Int) (parts k : Int) : Nat := if k < 0 then 5 else 100 * (10000000 - rxCastP S k).toNat + 10 * (10 - k).toNat + 9
noncomputable def rxz317_5 : rx_Z := ([(0, 0), (0, 0), (0, 0), (0, 0), (0, 0), (0, 0), (0, 0), (0, 0), (1, 6), ((-1), 5)], [], [], 0, 0, 116, [(0, .inr (3, (0, 480))), (1, .inr (0, (8, 0))), (2, .inr (0, (9, 0)))], [])
noncomputable def rxI317_6 (S0 : Nat → Int → Int) (ws : List Int) (S : Nat → Int → Int) (parts k k2 q : Int) : Prop := k2 = k ∧ q = S 508 k ∧ k < parts ∧ (∀ j : Int, 0 ≤ j → j < k → 0 ≤ S 508 j ∧ S 508 j ≤ 7) ∧ (0 ≤ k → -1 ≤ S 508 k ∧ S 508 k ≤ 7)
noncomputable def rxm317_6 (S0 : Nat → Int → Int) (ws : List Int) (S : Nat → Int → Int) (parts k k2 q : Int) : Nat := 100 * (10000000 - rxCastP S k).toNat + 10 * (10 - k).toNat + 8
noncomputable def rxz317_6 : rx_Z := ([(0, 0), (0, 0), (0, 0), (0, 0), (0, 0), (0, 0), (0, 0), (0, 0), (1, 6), (0, 5), (0, 5), ((-1), 7)], [], [], 0, 0, 127, [(0, .inr (3, (0, 480))), (1, .inr (0, (8, 0))), (2, .inr (0, (9, 0)))], [.inr (0, (11, 0)), .inr (0, (10, 0)), .inr (3, (0, 508))])
noncomputable def rxI317_7 (S0 : Nat → Int → Int) (ws : List Int) (S : Nat → Int → Int) (parts k a : Int) : Prop := a = k ∧ 0 ≤ S 508 k ∧ k < parts ∧ (∀ j : Int, 0 ≤ j → j < k → 0 ≤ S 508 j ∧ S 508 j ≤ 7) ∧ (0 ≤ k → -1 ≤ S 508 k ∧ S 508 k ≤ 7)
noncomputable def rxm317_7 (S0 : Nat → Int → Int) (ws : List Int) (S : Nat → Int → Int) (parts k a : Int) : Nat := 100 * (10000000 - rxCastQ S k).toNat + 10 * (10 - k).toNat + 7
noncomputable def rxz317_7 : rx_Z := ([(0, 0), (0, 0), (0, 0), (0, 0), (0, 0), (0, 0), (0, 0), (0, 0), (1, 6), (0, 5), (0, 5)], [], [], 0, 0, 153, [(0, .inr (3, (0, 480))), (1, .inr (0, (8, 0))), (2, .inr (0, (9, 0)))], [.inr (0, (10, 0)), .inr (3, (0, 480))])
noncomputable def rxI317_8 (S0 : Nat → Int → Int) (ws : List Int) (S : Nat → Int → Int) (parts k a can : Int) : Prop := 0 ≤ S 508 k ∧ k < parts ∧ (∀ j : Int, 0 ≤ j → j < k → 0 ≤ S 508 j ∧ S 508 j ≤ 7) ∧ (0 ≤ k → -1 ≤ S 508 k ∧ S 508 k ≤ 7)
noncomputable def rxm317_8 (S0 : Nat → Int → Int) (ws : List Int) (S : Nat → Int → Int) (parts k a can : Int) : Nat := 100 * (10000000 - rxCastQ S k).toNat + 10 * (10 - k).toNat + 6
noncomputable def rxz317_8 : rx_Z := ([(0, 0), (0, 0), (0, 0), (0, 0), (0, 0), (0, 0), (0, 0), (0, 0), (1, 6), (0, 5), (0, 5), (0, 1)], [], [], 0, 0, 156, [(0, .inr (3, (0, 480))), (1, .inr (0, (8, 0))), (2, .inr (0, (9, 0)))], [.inr (0, (11, 0))])
noncomputable def rxI317_9 (S0 : Nat → Int → Int) (ws : List Int) (S : Nat → Int → Int) (parts k a : Int) : Prop := 0 ≤ S 508 k ∧ k < parts ∧ (∀ j : Int, 0 ≤ j → j < k → 0 ≤ S 508 j ∧ S 508 j ≤ 7) ∧ (0 ≤ k → -1 ≤ S 508 k ∧ S 508 k ≤ 7)
noncomputable def rxm317_9 (S0 : Nat → Int → Int) (ws : List Int) (S : Nat → Int → Int) (parts k a : Int) : Nat := 100 * (10000000 - rxCastQ S k).toNat + 10 * (10 - k).toNat + 5
noncomputable def rxz317_9 : rx_Z := ([(0, 0), (0, 0), (0, 0), (0, 0), (0, 0), (0, 0), (0, 0), (0, 0), (1, 6), (0, 5), (1, 6)], [], [], 0, 0, 168, [(0, .inr (3, (0, 480))), (1, .inr (0, (8, 0))), (2, .inr (0, (9, 0)))], [.inr (0, (10, 0)), .inr (3, (0, 480))])
noncomputable def rxI317_10 (S0 : Nat → Int → Int) (ws : List Int) (S : Nat → Int → Int) (parts k a : Int) : Prop := 0 ≤ S 508 k ∧ k < parts ∧ (∀ j : Int, 0 ≤ j → j < k → 0 ≤ S 508 j ∧ S 508 j ≤ 7) ∧ (0 ≤ k → -1 ≤ S 508 k ∧ S 508 k ≤ 7)
noncomputable def rxm317_10 (S0 : Nat → Int → Int) (ws : List Int) (S : Nat → Int → Int) (parts k a : Int) : Nat := 100 * (10000000 - rxCastQ S k).toNat + 10 * (10 - k).toNat + 4
noncomputable def rxz317_10 : rx_Z := ([(0, 0), (0, 0), (0, 0), (0, 0), (0, 0), (0, 0), (0, 0), (0, 0), (1, 6), (0, 5), (1, 6)], [], [], 0, 0, 171, [(0, .inr (3, (0, 480))), (1, .inr (0, (8, 0))), (2, .inr (0, (9, 0)))], [])
noncomputable def rxI317_11 (S0 : Nat → Int → Int) (ws : List Int) (S : Nat → Int → Int) (parts k : Int) : Prop := k + 1 < parts ∧ 0 ≤ S 508 k ∧ k < parts ∧ (∀ j : Int, 0 ≤ j → j < k → 0 ≤ S 508 j ∧ S 508 j ≤ 7) ∧ (0 ≤ k → -1 ≤ S 508 k ∧ S 508 k ≤ 7)
noncomputable def rxm317_11 (S0 : Nat → Int → Int) (ws : List Int) (S : Nat → Int → Int) (parts k : Int) : Nat := 100 * (10000000 - rxCastQ S k).toNat + 10 * (10 - k).toNat + 4
noncomputable def rxz317_11 : rx_Z := ([(0, 0), (0, 0), (0, 0), (0, 0), (0, 0), (0, 0), (0, 0), (0, 0), (1, 6), (0, 4)], [], [], 0, 0, 174, [(0, .inr (3, (0, 480))), (1, .inr (0, (8, 0))), (2, .inr (0, (9, 0)))], [])
noncomputable def rxo317_0_0 : bx_HO := (([(0, 0), (0, 0), (0, 0), (0, 0), (0, 0), (0, 0), (0, 0), (0, 0), (0, 6)], [], [(((0, 0), 1851192626986356797424340330377019318111018015026043177837658112000000), .inr (0, (8, 0))), (((0, 482), 0), .inr (0, (8, 0))), (((0, 480), 3), .inr (3, (0, 482)))], 0, 0, 9, [(2, .inr (0, (0, 0))), (1, .inr (0, (8, 0))), (0, .inr (3, (0, 480)))], []), [], [], [(0, 0), (0, 0), (0, 0), (0, 0), (0, 0), (0, 0), (0, 0), (0, 0), (8, 0), (0, 0)], 1)
noncomputable def rxo317_1_0 : bx_HO := (([(0, 0), (0, 0), (0, 0), (0, 0), (0, 0), (0, 0), (0, 0), (0, 0), (1, 6), (0, 47), (0, 5), (0, 7), (1, 8), (0, 7), (0, 299), (0, 21), (0, 200), (0, 21), (1, 300), (0, 7), (0, 5), (0, 0)], [(1, (14, 0), (18, (-1))), (1, (16, 0), (14, 0)), (7, (17, 0), (13, 0)), (7, (15, 0), (13, 0)), (1, (11, 0), (12, (-1))), (0, (10, 0), (8, 0))], [(((0, 0), 10800258000000), .inl none), (((0, 0), 10800294000000), .inl none), (((0, 0), 10800303000000), .inl none), (((0, 0), 10800312000000), .inl none), (((0, 0), 966600006000000), .inl none), (((0, 0), 968400006000000), .inl none), (((0, 0), 89999100006000000), .inl none), (((0, 0), 1851192626986356845393295315618528599139257915807605837737885696000000), .inr (0, (18, 0))), (((0, 0), 1851192626986356845192582483749148413973094110610836812356255744000000), .inr (0, (16, 0))), (((0, 0), 1851192626986356798829287277884448576027768266202889952714424320000000), .inr (0, (14, 0))), (((0, 482), 7), .inr (0, (14, 0))), (((0, 0), 1851192626986356797625047037163794926384839479479878431391481856000000), .inr (0, (12, 0))), (((0, 482), 1), .inr (0, (12, 0))), (((0, 480), 3), .inr (3, (0, 482))), (((0, 480), 57), .inr (3, (0, 510)))], 0, 0, 78, [(0, .inr (3, (0, 480))), (1, .inr (0, (8, 0))), (2, .inr (0, (9, 0)))], [.inr (0, (0, 1)), .inr (0, (9, 0)), .inr (3, (0, 510))]), [], [], [(0, 0), (0, 0), (0, 0), (0, 0), (0, 0), (0, 0), (0, 0), (0, 0), (8, 0), (9, 0), (9, 0), (0, 1)], 2)
noncomputable def rxo317_1_1 : bx_HO := (([(0, 0), (0, 0), (0, 0), (0, 0), (0, 0), (0, 0), (0, 0), (0, 0), (1, 6), (0, 47), (0, 5), (0, 7), (1, 8), (0, 7), (0, 299), (0, 21), (0, 200), (0, 21), (1, 300), (0, 7), (0, 5), (1, 1)], [(3, (21, 0), (0, 0)), (1, (14, 0), (18, (-1))), (1, (16, 0), (14, 0)), (7, (17, 0), (13, 0)), (7, (15, 0), (13, 0)), (1, (11, 0), (12, (-1))), (0, (10, 0), (8, 0))], [(((0, 0), 10800258000000), .inl none), (((0, 0), 10800294000000), .inl none), (((0, 0), 10800303000000), .inl none), (((0, 0), 10800312000000), .inl none), (((0, 0), 966600006000000), .inl none), (((0, 0), 968400006000000), .inl none), (((0, 0), 89999100006000000), .inl none), (((0, 0), 1851192626986356845393295315618528599139257915807605837737885696000000), .inr (0, (18, 0))), (((0, 0), 1851192626986356845192582483749148413973094110610836812356255744000000), .inr (0, (16, 0))), (((0, 0), 1851192626986356798829287277884448576027768266202889952714424320000000), .inr (0, (14, 0))), (((0, 482), 7), .inr (0, (14, 0))), (((0, 0), 1851192626986356797625047037163794926384839479479878431391481856000000), .inr (0, (12, 0))), (((0, 482), 1), .inr (0, (12, 0))), (((0, 480), 3), .inr (3, (0, 482))), (((0, 480), 57), .inr (3, (0, 510)))], 0, 0, 78, [(0, .inr (3, (0, 480))), (1, .inr (0, (8, 0))), (2, .inr (0, (9, 0)))], [.inr (0, (0, 0)), .inr (0, (9, 0)), .inr (3, (0, 510))]), [], [], [(0, 0), (0, 0), (0, 0), (0, 0), (0, 0), (0, 0), (0, 0), (0, 0), (8, 0), (9, 0), (9, 0), (0, 0)], 2)
noncomputable def rxo317_1_2 : bx_HO := (([(0, 0), (0, 0), (0, 0), (0, 0), (0, 0), (0, 0), (0, 0), (0, 0), (1, 6), (0, 47), (0, 5), (0, 7), (1, 8), (0, 7), (0, 300), (0, 21), (0, 200), (0, 21), (0, 300)], [(0, (18, (-1)), (14, 0)), (1, (16, 0), (14, 0)), (7, (17, 0), (13, 0)), (7, (15, 0), (13, 0)), (1, (11, 0), (12, (-1))), (0, (10, 0), (8, 0))], [(((0, 0), 1851192626986356845393295315618528599139257915807605837737885696000000), .inr (0, (18, 0))), (((0, 0), 1851192626986356845192582483749148413973094110610836812356255744000000), .inr (0, (16, 0))), (((0, 0), 1851192626986356798829287277884448576027768266202889952714424320000000), .inr (0, (14, 0))), (((0, 482), 7), .inr (0, (14, 0))), (((0, 0), 1851192626986356797625047037163794926384839479479878431391481856000000), .inr (0, (12, 0))), (((0, 482), 1), .inr (0, (12, 0))), (((0, 480), 3), .inr (3, (0, 482))), (((0, 480), 57), .inr (3, (0, 510)))], 0, 0, 78, [(0, .inr (3, (0, 480))), (1, .inr (0, (8, 0))), (2, .inr (0, (9, 0)))], [.inr (0, (0, 0)), .inr (0, (9, 0)), .inr (3, (0, 510))]), [], [], [(0, 0), (0, 0), (0, 0), (0, 0), (0, 0), (0, 0), (0, 0), (0, 0), (8, 0), (9, 0), (9, 0), (0, 0)], 2)
noncomputable def rxo317_1_3 : bx_HO := (([(0, 0), (0, 0), (0, 0), (0, 0), (0, 0), (0, 0), (0, 0), (0, 0), (1, 6), (0, 47), (0, 5), (0, 7), (1, 8), (0, 7), (0, 199), (0, 21), (1, 200), (0, 21), (0, 300)], [(0, (14, 0), (16, 0)), (7, (17, 0), (13, 0)), (7, (15, 0), (13, 0)), (1, (11, 0), (12, (-1))), (0, (10, 0), (8, 0))], [(((0, 0), 1851192626986356845393295315618528599139257915807605837737885696000000), .inr (0, (18, 0))), (((0, 0), 1851192626986356845192582483749148413973094110610836812356255744000000), .inr (0, (16, 0))), (((0, 0), 1851192626986356798829287277884448576027768266202889952714424320000000), .inr (0, (14, 0))), (((0, 482), 7), .inr (0, (14, 0))), (((0, 0), 1851192626986356797625047037163794926384839479479878431391481856000000), .inr (0, (12, 0))), (((0, 482), 1), .inr (0, (12, 0))), (((0, 480), 3), .inr (3, (0, 482))), (((0, 480), 57), .inr (3, (0, 510)))], 0, 0, 78, [(0, .inr (3, (0, 480))), (1, .inr (0, (8, 0))), (2, .inr (0, (9, 0)))], [.inr (0, (0, 0)), .inr (0, (9, 0)), .inr (3, (0, 510))]), [], [], [(0, 0), (0, 0), (0, 0), (0, 0), (0, 0), (0, 0), (0, 0), (0, 0), (8, 0), (9, 0), (9, 0), (0, 0)], 2)
noncomputable def rxo317_1_4 : bx_HO := (([(0, 0), (0, 0), (0, 0), (0, 0), (0, 0), (0, 0), (0, 0), (0, 0), (1, 6), (0, 47), (0, 5), (0, 7), (0, 7)], [(0, (12, (-1)), (11, 0)), (0, (10, 0), (8, 0))], [(((0, 0), 1851192626986356797625047037163794926384839479479878431391481856000000), .inr (0, (12, 0))), (((0, 482), 1), .inr (0, (12, 0))), (((0, 480), 3), .inr (3, (0, 482))), (((0, 480), 57), .inr (3, (0, 510)))], 0, 0, 78, [(0, .inr (3, (0, 480))), (1, .inr (0, (8, 0))), (2, .inr (0, (9, 0)))], [.inr (0, (0, 0)), .inr (0, (9, 0)), .inr (3, (0, 510))]), [], [], [(0, 0), (0, 0), (0, 0), (0, 0), (0, 0), (0, 0), (0, 0), (0, 0), (8, 0), (9, 0), (9, 0), (0, 0)], 2)
noncomputable def rxo317_1_5 : bx_HO := (([(0, 0), (0, 0), (0, 0), (0, 0), (0, 0), (0, 0), (0, 0), (0, 0), (0, 5), (0, 47), (0, 5)], [(1, (8, 0), (10, 0))], [(((0, 480), 57), .inr (3, (0, 510)))], 0, 0, 78, [(0, .inr (3, (0, 480))), (1, .inr (0, (8, 0))), (2, .inr (0, (9, 0)))], [.inr (0, (0, 0)), .inr (0, (9, 0)), .inr (3, (0, 510))]), [], [], [(0, 0), (0, 0), (0, 0), (0, 0), (0, 0), (0, 0), (0, 0), (0, 0), (8, 0), (9, 0), (9, 0), (0, 0)], 2)
noncomputable def rxo317_1_6 : bx_HO := (([(0, 0), (0, 0), (0, 0), (0, 0), (0, 0), (0, 0), (0, 0), (0, 0), (0, 0), (48, 48)], [], [(((0, 0), 1851192626986356809266036030796780206266484417802323137512079363000000), .inr (0, (0, 0))), (((0, 480), 59), .inr (0, (0, 0))), (((0, 0), 1851192626986356809065329324010004597992662953348487883958255619000000), .inr (0, (0, 1000000))), (((0, 480), 58), .inr (0, (0, 1000000)))], 0, 0, 103, [(0, .inr (3, (0, 480))), (1, .inr (0, (8, 0))), (2, .inr (0, (9, 0)))], [.inr (0, (0, 0)), .inr (3, (0, 480))]), [], [], [(0, 0), (0, 0), (0, 0), (0, 0), (0, 0), (0, 0), (0, 0), (0, 0), (8, 0)], 3)
noncomputable def rxo317_1_7 : bx_HO := (([(0, 0), (0, 0), (0, 0), (0, 0), (0, 0), (0, 0), (0, 0), (0, 0), (1, 6), (48, 48)], [(3, (8, 0), (0, 0))], [(((0, 0), 1851192626986356797424340330377019318111018015026043177852993539000000), .inr (0, (0, (-1)))), (((0, 508), 0), .inr (0, (0, (-1)))), (((0, 480), 55), .inr (3, (0, 508))), (((0, 0), 1851192626986356809266036030796780206266484417802323137512079363000000), .inr (0, (0, 0))), (((0, 480), 59), .inr (0, (0, 0))), (((0, 0), 1851192626986356809065329324010004597992662953348487883958255619000000), .inr (0, (0, 1000000))), (((0, 480), 58), .inr (0, (0, 1000000)))], 0, 0, 116, [(2, .inr (0, (0, 0))), (0, .inr (3, (0, 480))), (1, .inr (0, (8, 0)))], []), [], [], [(0, 0), (0, 0), (0, 0), (0, 0), (0, 0), (0, 0), (0, 0), (0, 0), (8, 0), (0, 0)], 5)
noncomputable def rxo317_2_0 : bx_HO := (([(0, 0), (0, 0), (0, 0), (0, 0), (0, 0), (0, 0), (0, 0), (0, 0), (0, 6), (0, 47), (0, 47), (0, 1)], [], [(((0, 0), 1851192626986356797424370955790042202572729718740712036993204227000000), .inr (0, (11, 0)))], 0, 0, 9, [(2, .inr (0, (9, 1))), (0, .inr (3, (0, 480))), (1, .inr (0, (8, 0)))], []), [], [], [(0, 0), (0, 0), (0, 0), (0, 0), (0, 0), (0, 0), (0, 0), (0, 0), (8, 0), (9, 1)], 1)
noncomputable def rxe317_4_0 : rx_End × List (Nat × Int × Int) := (([(0, 0), (0, 0), (0, 0), (0, 0), (0, 0), (0, 0), (0, 0), (0, 0), (0, 0)], [], [], none), [])
noncomputable def rxo317_5_0 : bx_HO := (([(0, 0), (0, 0), (0, 0), (0, 0), (0, 0), (0, 0), (0, 0), (0, 0), (1, 6), (0, 5), ((-1), 8)], [], [(((0, 0), 1851192626986356797424367893248739914126558548369245151078121472000000), .inr (0, (10, 0))), (((0, 480), 55), .inr (3, (0, 508)))], 0, 0, 127, [(0, .inr (3, (0, 480))), (1, .inr (0, (8, 0))), (2, .inr (0, (9, 0)))], [.inr (0, (10, 0)), .inr (0, (9, 0)), .inr (3, (0, 508))]), [(10, (-1), 7)], [], [(0, 0), (0, 0), (0, 0), (0, 0), (0, 0), (0, 0), (0, 0), (0, 0), (8, 0), (9, 0), (9, 0), (10, 0)], 6)
noncomputable def rxe317_5_0 : rx_End × List (Nat × Int × Int) := (([(0, 0), (0, 0), (0, 0), (0, 0), (0, 0), (0, 0), (0, 0), (0, 0), (1, 6), ((-1), (-1))], [], [], none), [])
noncomputable def rxo317_6_0 : bx_HO := (([(0, 0), (0, 0), (0, 0), (0, 0), (0, 0), (0, 0), (0, 0), (0, 0), (1, 6), (0, 5), (0, 5), ((-1), 7), (0, 8), (0, 8)], [(1, (13, 0), (12, 0))], [(((0, 0), 1851192626986356797625047037163794926384839479479878431391481856000000), .inr (0, (13, 0))), (((0, 482), 1), .inr (0, (13, 0))), (((0, 480), 3), .inr (3, (0, 482))), (((0, 0), 1851192626986356797424367893248739914126558548369245151078121472000000), .inr (0, (12, 0))), (((0, 480), 55), .inr (3, (0, 508))), (((0, 0), 1851192626986356797424370955790042202572729718740712036992024579000000), .inr (0, (11, 1)))], 0, 0, 116, [(2, .inr (0, (9, (-1)))), (0, .inr (3, (0, 480))), (1, .inr (0, (8, 0)))], []), [], [], [(0, 0), (0, 0), (0, 0), (0, 0), (0, 0), (0, 0), (0, 0), (0, 0), (8, 0), (9, (-1))], 5)
noncomputable def rxo317_6_1 : bx_HO := (([(0, 0), (0, 0), (0, 0), (0, 0), (0, 0), (0, 0), (0, 0), (0, 0), (1, 6), (0, 5), (0, 5), ((-1), 7), ((-1), 7), (0, 8)], [(0, (12, 0), (13, 0))], [(((0, 0), 1851192626986356797625047037163794926384839479479878431391481856000000), .inr (0, (13, 0))), (((0, 482), 1), .inr (0, (13, 0))), (((0, 480), 3), .inr (3, (0, 482))), (((0, 0), 1851192626986356797424367893248739914126558548369245151078121472000000), .inr (0, (12, 0))), (((0, 480), 55), .inr (3, (0, 508))), (((0, 0), 1851192626986356797424370955790042202572729718740712036992024579000000), .inr (0, (11, 1)))], 0, 0, 153, [(0, .inr (3, (0, 480))), (1, .inr (0, (8, 0))), (2, .inr (0, (9, 0)))], [.inr (0, (9, 0)), .inr (3, (0, 480))]), [], [], [(0, 0), (0, 0), (0, 0), (0, 0), (0, 0), (0, 0), (0, 0), (0, 0), (8, 0), (9, 0), (9, 0)], 7)
noncomputable def rxo317_8_0 : bx_HO := (([(0, 0), (0, 0), (0, 0), (0, 0), (0, 0), (0, 0), (0, 0), (0, 0), (1, 6), (0, 5), (0, 5), (1, 1)], [(2, (9, 0), (8, (-1))), (3, (11, 0), (0, 0))], [], 0, 0, 168, [(0, .inr (3, (0, 480))), (1, .inr (0, (8, 0))), (2, .inr (0, (9, 0)))], [.inr (0, (8, 0)), .inr (3, (0, 480))]), [], [], [(0, 0), (0, 0), (0, 0), (0, 0), (0, 0), (0, 0), (0, 0), (0, 0), (8, 0), (9, 0), (8, 0)], 9)
noncomputable def rxo317_8_1 : bx_HO := (([(0, 0), (0, 0), (0, 0), (0, 0), (0, 0), (0, 0), (0, 0), (0, 0), (1, 6), (0, 5), (0, 5), (1, 1)], [(3, (9, 0), (8, (-1))), (3, (11, 0), (0, 0))], [], 0, 0, 174, [(0, .inr (3, (0, 480))), (1, .inr (0, (8, 0))), (2, .inr (0, (9, 0)))], []), [(9, 0, 4)], [], [(0, 0), (0, 0), (0, 0), (0, 0), (0, 0), (0, 0), (0, 0), (0, 0), (8, 0), (9, 0)], 11)
noncomputable def rxo317_8_2 : bx_HO := (([(0, 0), (0, 0), (0, 0), (0, 0), (0, 0), (0, 0), (0, 0), (0, 0), (1, 6), (0, 5), (0, 5), (0, 0)], [], [], 0, 0, 116, [(0, .inr (3, (0, 480))), (1, .inr (0, (8, 0))), (2, .inr (0, (9, 0)))], []), [], [], [(0, 0), (0, 0), (0, 0), (0, 0), (0, 0), (0, 0), (0, 0), (0, 0), (8, 0), (9, 0)], 5)
noncomputable def rxo317_10_0 : bx_HO := (([(0, 0), (0, 0), (0, 0), (0, 0), (0, 0), (0, 0), (0, 0), (0, 0), (1, 6), (0, 5), (1, 6)], [], [], 0, 0, 116, [(0, .inr (3, (0, 480))), (1, .inr (0, (8, 0))), (2, .inr (0, (9, 0)))], []), [], [], [(0, 0), (0, 0), (0, 0), (0, 0), (0, 0), (0, 0), (0, 0), (0, 0), (8, 0), (9, 0)], 5)
noncomputable def rxo317_11_0 : bx_HO := (([(0, 0), (0, 0), (0, 0), (0, 0), (0, 0), (0, 0), (0, 0), (0, 0), (1, 6), (0, 4)], [], [(((0, 0), 1851192626986356797625074600035515522400380012823080404631945219000000), .inr (0, (0, (-1)))), (((0, 480), 55), .inr (3, (0, 508)))], 0, 0, 116, [(2, .inr (0, (9, 1))), (0, .inr (3, (0, 480))), (1, .inr (0, (8, 0)))], []), [], [], [(0, 0), (0, 0), (0, 0), (0, 0), (0, 0), (0, 0), (0, 0), (0, 0), (8, 0), (9, 1)], 5)
noncomputable def rxY317 : List bx_HE := [(rxz317_0, [rxo317_0_0], []), (rxz317_1, [rxo317_1_0, rxo317_1_1, rxo317_1_2, rxo317_1_3, rxo317_1_4, rxo317_1_5, rxo317_1_6, rxo317_1_7], []), (rxz317_2, [rxo317_2_0], []), (rxz317_3, [], []), (rxz317_4, [], [rxe317_4_0]), (rxz317_5, [rxo317_5_0], [rxe317_5_0]), (rxz317_6, [rxo317_6_0, rxo317_6_1], []), (rxz317_7, [], []), (rxz317_8, [rxo317_8_0, rxo317_8_1, rxo317_8_2], []), (rxz317_9, [], []), (rxz317_10, [rxo317_10_0], []), (rxz317_11, [rxo317_11_0], [])]
noncomputable def rxU317 (q : bx_HE) : Bool := Nat.beq (rx_zpc q.1) 103 || Nat.beq (rx_zpc q.1) 153 || Nat.beq (rx_zpc q.1) 168
noncomputable def rxYB317 : bx_B := (rxV, rxNP, rxDmf, bx_mdH rxC317.2.2.1)
set_option maxRecDepth 100000 in
theorem rxYc317 : bx_chkH rxYB317 rxM317 rxC317 rxY317 (rxU317, fun cut z => rx_ex2 (rxCT rxYB317 rxCn) cut 30000 rxC317.2.2.2.1 317 z) = true := by decide +kernel
noncomputable def rxI317 (S0 : Nat → Int → Int) (ws : List Int) (i : Nat) : bx_SP := fun S r => match i with | 0 => rxI317_0 S0 ws S | 1 => rxI317_1 S0 ws S (r 8) (r 9) | 2 => rxI317_2 S0 ws S (r 8) (r 9) (r 10) (r 11) | 3 => rxI317_3 S0 ws S (r 8) | 4 => rxI317_4 S0 ws S (r 8) | 5 => rxI317_5 S0 ws S (r 8) (r 9) | 6 => rxI317_6 S0 ws S (r 8) (r 9) (r 10) (r 11) | 7 => rxI317_7 S0 ws S (r 8) (r 9) (r 10) | 8 => rxI317_8 S0 ws S (r 8) (r 9) (r 10) (r 11) | 9 => rxI317_9 S0 ws S (r 8) (r 9) (r 10) | 10 => rxI317_10 S0 ws S (r 8) (r 9) (r 10) | 11 => rxI317_11 S0 ws S (r 8) (r 9) | _ => False
noncomputable def rxm317 (S0 : Nat → Int → Int) (ws : List Int) (i : Nat) (S : Nat → Int → Int) (r : Nat → Int) : Nat := match i with | 0 => rxm317_0 S0 ws S | 1 => rxm317_1 S0 ws S (r 8) (r 9) | 2 => rxm317_2 S0 ws S (r 8) (r 9) (r 10) (r 11) | 3 => rxm317_3 S0 ws S (r 8) | 4 => rxm317_4 S0 ws S (r 8) | 5 => rxm317_5 S0 ws S (r 8) (r 9) | 6 => rxm317_6 S0 ws S (r 8) (r 9) (r 10) (r 11) | 7 => rxm317_7 S0 ws S (r 8) (r 9) (r 10) | 8 => rxm317_8 S0 ws S (r 8) (r 9) (r 10) (r 11) | 9 => rxm317_9 S0 ws S (r 8) (r 9) (r 10) | 10 => rxm317_10 S0 ws S (r 8) (r 9) (r 10) | 11 => rxm317_11 S0 ws S (r 8) (r 9) | _ => 0
noncomputable def rxP317 (S0 : Nat → Int → Int) (ws : List Int) : Prop := True
noncomputable def rxPS317 (S0 : Nat → Int → Int) (ws : List Int) (S : Nat → Int → Int) (w : Option Int) : Prop := True
theorem rxk317_3 {S0 : Nat → Int → Int} {ws : List Int} {S : Nat → Int → Int} {parts : Int} (hP : rxP317 S0 ws) (hin : bx_same rxL (bx_mdl rxC317.2.2.1) S0 S) (I0 : bx_Inv rxL S) (hinv : rxI317_3 S0 ws S parts) (l8 : 0 ≤ parts) (u8 : parts ≤ 0) : rxPKC S [480, 0] ∧ ∀ (S_p : Nat → Int → Int), rxPSKC S [480, 0] S_p none → bx_Inv rxL S_p → bx_same rxL (bx_mdl rxCKC.2.2.1) S S_p → rxI317_4 S0 ws S_p parts ∧ rxm317_4 S0 ws S_p parts < rxm317_3 S0 ws S parts := by
  exact ⟨trivial, fun S_p hq I1 hsm => ⟨trivial, by unfold rxm317_3 rxm317_4; omega⟩⟩
theorem rxs317_3 {X : (Nat → Int → Int) → Prop} {S0 : Nat → Int → Int} {ws : List Int} (hP : rxP317 S0 ws) : rx_obK X S0 rxC317.2.2.1 rxCKC.2.2.1 (rxI317 S0 ws) (rxm317 S0 ws) 3 4 rxz317_3 rxz317_4 [.inr (3, (0, 480)), .inr (0, (0, 0))] none rxPKC rxPSKC := by
  intro S r hinv hXS I0 hin hs_ hf_
  have b_ := bx_bds_sat hs_
  have f_ := bx_fcl_ok hs_.1 hf_
  obtain ⟨⟨l8, u8⟩, -⟩ := b_
  have g := rxk317_3 hP hin I0 hinv l8 u8
  have ea : List.map (bx_num r) [.inr (3, (0, 480)), .inr (0, (0, 0))] = [480, 0] := by
    simp only [List.map_cons, List.map_nil, bx_xv_ok hs_.1]
    rfl
  rw [ea]
  refine ⟨g.1, fun S_p w r_p hPS hX_p I1 hsm hr hw hs_p => ?_⟩
  have hw : w = none := hPS.1
  subst hw
  have g2 := g.2 S_p hPS I1 hsm
  show rxI317_4 S0 ws S_p (r_p 8) ∧ rxm317_4 S0 ws S_p (r_p 8) < _
  rw [hr 8 (by decide)]
  exact g2
theorem rxk317_7 {S0 : Nat → Int → Int} {ws : List Int} {S : Nat → Int → Int} {parts k a : Int} (hP : rxP317 S0 ws) (hin : bx_same rxL (bx_mdl rxC317.2.2.1) S0 S) (I0 : bx_Inv rxL S) (hinv : rxI317_7 S0 ws S parts k a) (l8 : 1 ≤ parts) (u8 : parts ≤ 6) (l9 : 0 ≤ k) (u9 : k ≤ 5) (l10 : 0 ≤ a) (u10 : a ≤ 5) : rxPCP S [480, a] ∧ ∀ (S_p : Nat → Int → Int) (can : Int), 0 ≤ can → can ≤ 1 → rxPSCP S [480, a] S_p (some can) → bx_Inv rxL S_p → bx_same rxL (bx_mdl rxCCP.2.2.1) S S_p → rxI317_8 S0 ws S_p parts k a can ∧ rxm317_8 S0 ws S_p parts k a can < rxm317_7 S0 ws S parts k a := by
  obtain ⟨rfl, h0, h1, h2, h3⟩ := hinv
  refine ⟨⟨a, rfl, h0, (h3 (by omega)).2⟩, fun S_p can g0 g1 hq I1 hsm => ?_⟩
  have hq : S_p = S := hq
  subst hq
  exact ⟨⟨h0, h1, h2, h3⟩, by unfold rxm317_7 rxm317_8; omega⟩
theorem rxs317_7 {X : (Nat → Int → Int) → Prop} {S0 : Nat → Int → Int} {ws : List Int} (hP : rxP317 S0 ws) : rx_obK X S0 rxC317.2.2.1 rxCCP.2.2.1 (rxI317 S0 ws) (rxm317 S0 ws) 7 8 rxz317_7 rxz317_8 [.inr (3, (0, 480)), .inr (0, (10, 0))] (some 11) rxPCP rxPSCP := by
  intro S r hinv hXS I0 hin hs_ hf_
  have b_ := bx_bds_sat hs_
  have f_ := bx_fcl_ok hs_.1 hf_
  obtain ⟨⟨l8, u8⟩, ⟨l9, u9⟩, ⟨l10, u10⟩, -⟩ := b_
  have g := rxk317_7 hP hin I0 hinv l8 u8 l9 u9 l10 u10
  have ea : List.map (bx_num r) [.inr (3, (0, 480)), .inr (0, (10, 0))] = [480, (r 10)] := by
    simp only [List.map_cons, List.map_nil, bx_xv_ok hs_.1]
    rfl
  rw [ea]
  refine ⟨g.1, fun S_p w r_p hPS hX_p I1 hsm hr hw hs_p => ?_⟩
  have hw := hw _ rfl
  subst hw
  have b_p := hs_p.2.2 11 _ _ rfl
  have g2 := g.2 S_p (r_p 11) b_p.1 b_p.2 hPS I1 hsm
  show rxI317_8 S0 ws S_p (r_p 8) (r_p 9) (r_p 10) (r_p 11) ∧ rxm317_8 S0 ws S_p (r_p 8) (r_p 9) (r_p 10) (r_p 11) < _
  rw [hr 8 (by decide), hr 9 (by decide), hr 10 (by decide)]
  exact g2
theorem rxk317_9 {S0 : Nat → Int → Int} {ws : List Int} {S : Nat → Int → Int} {parts k a : Int} (hP : rxP317 S0 ws) (hin : bx_same rxL (bx_mdl rxC317.2.2.1) S0 S) (I0 : bx_Inv rxL S) (hinv : rxI317_9 S0 ws S parts k a) (l8 : 1 ≤ parts) (u8 : parts ≤ 6) (l9 : 0 ≤ k) (u9 : k ≤ 5) (l10 : 1 ≤ a) (u10 : a ≤ 6) : rxPKC S [480, a] ∧ ∀ (S_p : Nat → Int → Int), rxPSKC S [480, a] S_p none → bx_Inv rxL S_p → bx_same rxL (bx_mdl rxCKC.2.2.1) S S_p → rxI317_10 S0 ws S_p parts k a ∧ rxm317_10 S0 ws S_p parts k a < rxm317_9 S0 ws S parts k a := by
  obtain ⟨h0, h1, h2, h3⟩ := hinv
  refine ⟨trivial, fun S_p hq I1 hsm => ?_⟩
  have e : ∀ j : Int, 0 ≤ j → j < 6 → S_p 508 j = S 508 j := fun j a b => rx_sameR hsm (tc := 0) (n := 6) (g := 89) rfl (by omega) (by decide +kernel) (by decide +kernel) a (by omega)
  have e2 := rxCast_cg (k := k) e
  refine ⟨⟨by rw [e k l9 (by omega)]; exact h0, h1, fun j a b => by rw [e j a (by omega)]; exact h2 j a b, fun a => by rw [e k l9 (by omega)]; exact h3 a⟩, ?_⟩
  unfold rxm317_9 rxm317_10
  rw [e2]
  omega
theorem rxs317_9 {X : (Nat → Int → Int) → Prop} {S0 : Nat → Int → Int} {ws : List Int} (hP : rxP317 S0 ws) : rx_obK X S0 rxC317.2.2.1 rxCKC.2.2.1 (rxI317 S0 ws) (rxm317 S0 ws) 9 10 rxz317_9 rxz317_10 [.inr (3, (0, 480)), .inr (0, (10, 0))] none rxPKC rxPSKC := by
  intro S r hinv hXS I0 hin hs_ hf_
  have b_ := bx_bds_sat hs_
  have f_ := bx_fcl_ok hs_.1 hf_
  obtain ⟨⟨l8, u8⟩, ⟨l9, u9⟩, ⟨l10, u10⟩, -⟩ := b_
  have g := rxk317_9 hP hin I0 hinv l8 u8 l9 u9 l10 u10
  have ea : List.map (bx_num r) [.inr (3, (0, 480)), .inr (0, (10, 0))] = [480, (r 10)] := by
    simp only [List.map_cons, List.map_nil, bx_xv_ok hs_.1]
    rfl
  rw [ea]
  refine ⟨g.1, fun S_p w r_p hPS hX_p I1 hsm hr hw hs_p => ?_⟩
  have hw : w = none := hPS.1
  subst hw
  have g2 := g.2 S_p hPS I1 hsm
  show rxI317_10 S0 ws S_p (r_p 8) (r_p 9) (r_p 10) ∧ rxm317_10 S0 ws S_p (r_p 8) (r_p 9) (r_p 10) < _
  rw [hr 8 (by decide), hr 9 (by decide), hr 10 (by decide)]
  exact g2
theorem rxc317_0_0 {S0 : Nat → Int → Int} {ws : List Int} {S : Nat → Int → Int} {x8 : Int} (hP : rxP317 S0 ws) (hin : bx_same rxL (bx_mdl rxC317.2.2.1) S0 S) (I0 : bx_Inv rxL S) (hinv : rxI317_0 S0 ws S) (l8 : 0 ≤ x8) (u8 : x8 ≤ 6) (e0 : S 482 0 = x8) : (True) ∧ (True) ∧ rxI317_1 S0 ws S x8 0 ∧ rxm317_1 S0 ws S x8 0 < rxm317_0 S0 ws S := by
  exact ⟨trivial, trivial, trivial, by unfold rxm317_0 rxm317_1; omega⟩
theorem rxg317_0_0 {X : (Nat → Int → Int) → Prop} {S0 : Nat → Int → Int} {ws : List Int} (hP : rxP317 S0 ws) : bx_obC rxL X S0 rxC317.2.2.1 (rxI317 S0 ws) (rxm317 S0 ws) 0 rxz317_0 rxo317_0_0 := by
  intro S S_p r r_p hinv hX hin hsm_ hseg
  obtain ⟨I0, I1, h0_, hr_, b_, f_, d_⟩ := bx_cl (evs := [(0, (0, 482), (0, 0), .inr (0, (8, 0)))]) (fvs := []) hseg (by decide +kernel) (by decide +kernel)
  have hinv : rxI317_0 S0 ws S := hinv
  obtain ⟨⟨l8, u8⟩, -⟩ := b_
  obtain ⟨e0, w_⟩ := d_
  subst w_
  have g := rxc317_0_0 hP hin I0 hinv l8 u8 e0
  refine ⟨bx_narP_ok (l := []) g.1, bx_nfP_ok h0_ (fvs := []) (by decide +kernel) g.2.1, ?_, ?_⟩
  · show rxI317_1 S0 ws S_p (bx_val [(0, 0), (0, 0), (0, 0), (0, 0), (0, 0), (0, 0), (0, 0), (0, 0), (8, 0), (0, 0)] r_p 8) (bx_val [(0, 0), (0, 0), (0, 0), (0, 0), (0, 0), (0, 0), (0, 0), (0, 0), (8, 0), (0, 0)] r_p 9)
    rw [bx_val_x (n := 8) (e := (8, 0)) h0_ rfl, bx_val_x (n := 9) (e := (0, 0)) h0_ rfl]
    exact g.2.2.1
  · show rxm317_1 S0 ws S_p (bx_val [(0, 0), (0, 0), (0, 0), (0, 0), (0, 0), (0, 0), (0, 0), (0, 0), (8, 0), (0, 0)] r_p 8) (bx_val [(0, 0), (0, 0), (0, 0), (0, 0), (0, 0), (0, 0), (0, 0), (0, 0), (8, 0), (0, 0)] r_p 9) < rxm317_0 S0 ws S_p
    rw [bx_val_x (n := 8) (e := (8, 0)) h0_ rfl, bx_val_x (n := 9) (e := (0, 0)) h0_ rfl]
    exact g.2.2.2
theorem rxc317_1_0 {S0 : Nat → Int → Int} {ws : List Int} {S T6 T5 T4 T3 T2 T1 T0 : Nat → Int → Int} {parts k x10 x11 x12 x13 x14 x15 x16 x17 x18 x19 x20 x21 : Int} (hP : rxP317 S0 ws) (hin : bx_same rxL (bx_mdl rxC317.2.2.1) S0 S) (I0 : bx_Inv rxL S) (hinv : rxI317_1 S0 ws S parts k) (l8 : 1 ≤ parts) (u8 : parts ≤ 6) (l9 : 0 ≤ k) (u9 : k ≤ 47) (l10 : 0 ≤ x10) (u10 : x10 ≤ 5) (l11 : 0 ≤ x11) (u11 : x11 ≤ 7) (l12 : 1 ≤ x12) (u12 : x12 ≤ 8) (l13 : 0 ≤ x13) (u13 : x13 ≤ 7) (l14 : 0 ≤ x14) (u14 : x14 ≤ 299) (l15 : 0 ≤ x15) (u15 : x15 ≤ 21) (l16 : 0 ≤ x16) (u16 : x16 ≤ 200) (l17 : 0 ≤ x17) (u17 : x17 ≤ 21) (l18 : 1 ≤ x18) (u18 : x18 ≤ 300) (l19 : 0 ≤ x19) (u19 : x19 ≤ 7) (l20 : 0 ≤ x20) (u20 : x20 ≤ 5) (l21 : 0 ≤ x21) (u21 : x21 ≤ 0) (f0 : x14 ≤ x18 + (-1)) (f1 : x16 ≤ x14) (f2 : x17 = 3 * (x13)) (f3 : x15 = 3 * (x13)) (f4 : x11 ≤ x12 + (-1)) (f5 : x10 < parts) (e10 : S 482 1 = x12) (e9 : S 482 7 = x14) (e8 : S 482 (x15 + 238) = x16) (e7 : S 482 (x17 + 239) = x18) (v6 : ∀ (p i : Nat), p < rxL.2.1 → i < bx_wd (rxL.1 p) → bx_mc (rxL.1 p) i ≠ (99999, 0) → T6 p (i : Int) = S p (i : Int)) (v5 : ∀ (p i : Nat), p < rxL.2.1 → i < bx_wd (rxL.1 p) → bx_mc (rxL.1 p) i ≠ (1076, 0) → T5 p (i : Int) = T6 p (i : Int)) (v4 : ∀ (p i : Nat), p < rxL.2.1 → i < bx_wd (rxL.1 p) → bx_mc (rxL.1 p) i ≠ (1074, 0) → T4 p (i : Int) = T5 p (i : Int)) (v3 : ∀ (p i : Nat), p < rxL.2.1 → i < bx_wd (rxL.1 p) → bx_mc (rxL.1 p) i ≠ (12, 34) → T3 p (i : Int) = T4 p (i : Int)) (v2 : ∀ (p i : Nat), p < rxL.2.1 → i < bx_wd (rxL.1 p) → bx_mc (rxL.1 p) i ≠ (12, 33) → T2 p (i : Int) = T3 p (i : Int)) (v1 : ∀ (p i : Nat), p < rxL.2.1 → i < bx_wd (rxL.1 p) → bx_mc (rxL.1 p) i ≠ (12, 32) → T1 p (i : Int) = T2 p (i : Int)) (v0 : ∀ (p i : Nat), p < rxL.2.1 → i < bx_wd (rxL.1 p) → bx_mc (rxL.1 p) i ≠ (12, 28) → T0 p (i : Int) = T1 p (i : Int)) : (True) ∧ (True) ∧ rxI317_2 S0 ws T0 parts k k 1 ∧ rxm317_2 S0 ws T0 parts k k 1 < rxm317_1 S0 ws S parts k := by
  exact ⟨trivial, trivial, trivial, by unfold rxm317_1 rxm317_2; omega⟩
theorem rxg317_1_0 {X : (Nat → Int → Int) → Prop} {S0 : Nat → Int → Int} {ws : List Int} (hP : rxP317 S0 ws) : bx_obC rxL X S0 rxC317.2.2.1 (rxI317 S0 ws) (rxm317 S0 ws) 1 rxz317_1 rxo317_1_0 := by
  intro S S_p r r_p hinv hX hin hsm_ hseg
  obtain ⟨I0, I1, h0_, hr_, b_, f_, d_⟩ := bx_cl (evs := [(2, (12, 0), (28, 0), .inl none), (2, (12, 0), (32, 0), .inl none), (2, (12, 0), (33, 0), .inl none), (2, (12, 0), (34, 0), .inl none), (2, (1074, 0), (0, 0), .inl none), (2, (1076, 0), (0, 0), .inl none), (2, (99999, 0), (0, 0), .inl none), (0, (0, 482), (17, 239), .inr (0, (18, 0))), (0, (0, 482), (15, 238), .inr (0, (16, 0))), (0, (0, 482), (0, 7), .inr (0, (14, 0))), (0, (0, 482), (0, 1), .inr (0, (12, 0)))]) (fvs := [(1, (14, 0), (18, (-1)), (0, 0)), (1, (16, 0), (14, 0), (0, 0)), (4, (17, 0), (13, 0), (0, 3)), (4, (15, 0), (13, 0), (0, 3)), (1, (11, 0), (12, (-1)), (0, 0)), (0, (10, 0), (8, 0), (0, 0))]) hseg (by decide +kernel) (by decide +kernel)
  have hinv : rxI317_1 S0 ws S (r 8) (r 9) := hinv
  rw [← hr_ 8 (by decide), ← hr_ 9 (by decide)] at hinv
  obtain ⟨⟨l8, u8⟩, ⟨l9, u9⟩, ⟨l10, u10⟩, ⟨l11, u11⟩, ⟨l12, u12⟩, ⟨l13, u13⟩, ⟨l14, u14⟩, ⟨l15, u15⟩, ⟨l16, u16⟩, ⟨l17, u17⟩, ⟨l18, u18⟩, ⟨l19, u19⟩, ⟨l20, u20⟩, ⟨l21, u21⟩, -⟩ := b_
  obtain ⟨f0, f1, f2, f3, f4, f5, -⟩ := f_
  obtain ⟨T0, ⟨T1, ⟨T2, ⟨T3, ⟨T4, ⟨T5, ⟨T6, ⟨e7, ⟨e8, ⟨e9, ⟨e10, w_⟩⟩⟩⟩, v6⟩, v5⟩, v4⟩, v3⟩, v2⟩, v1⟩, v0⟩ := d_
  subst w_
  have g := rxc317_1_0 hP hin I0 hinv l8 u8 l9 u9 l10 u10 l11 u11 l12 u12 l13 u13 l14 u14 l15 u15 l16 u16 l17 u17 l18 u18 l19 u19 l20 u20 l21 u21 f0 f1 f2 f3 f4 f5 e10 e9 e8 e7 v6 v5 v4 v3 v2 v1 v0
  refine ⟨bx_narP_ok (l := []) g.1, bx_nfP_ok h0_ (fvs := []) (by decide +kernel) g.2.1, ?_, ?_⟩
  · show rxI317_2 S0 ws S_p (bx_val [(0, 0), (0, 0), (0, 0), (0, 0), (0, 0), (0, 0), (0, 0), (0, 0), (8, 0), (9, 0), (9, 0), (0, 1)] r_p 8) (bx_val [(0, 0), (0, 0), (0, 0), (0, 0), (0, 0), (0, 0), (0, 0), (0, 0), (8, 0), (9, 0), (9, 0), (0, 1)] r_p 9) (bx_val [(0, 0), (0, 0), (0, 0), (0, 0), (0, 0), (0, 0), (0, 0), (0, 0), (8, 0), (9, 0), (9, 0), (0, 1)] r_p 10) (bx_val [(0, 0), (0, 0), (0, 0), (0, 0), (0, 0), (0, 0), (0, 0), (0, 0), (8, 0), (9, 0), (9, 0), (0, 1)] r_p 11)
    rw [bx_val_x (n := 8) (e := (8, 0)) h0_ rfl, bx_val_x (n := 9) (e := (9, 0)) h0_ rfl, bx_val_x (n := 10) (e := (9, 0)) h0_ rfl, bx_val_x (n := 11) (e := (0, 1)) h0_ rfl]
    exact g.2.2.1
  · show rxm317_2 S0 ws S_p (bx_val [(0, 0), (0, 0), (0, 0), (0, 0), (0, 0), (0, 0), (0, 0), (0, 0), (8, 0), (9, 0), (9, 0), (0, 1)] r_p 8) (bx_val [(0, 0), (0, 0), (0, 0), (0, 0), (0, 0), (0, 0), (0, 0), (0, 0), (8, 0), (9, 0), (9, 0), (0, 1)] r_p 9) (bx_val [(0, 0), (0, 0), (0, 0), (0, 0), (0, 0), (0, 0), (0, 0), (0, 0), (8, 0), (9, 0), (9, 0), (0, 1)] r_p 10) (bx_val [(0, 0), (0, 0), (0, 0), (0, 0), (0, 0), (0, 0), (0, 0), (0, 0), (8, 0), (9, 0), (9, 0), (0, 1)] r_p 11) < rxm317_1 S0 ws T6 (r 8) (r 9)
    rw [bx_val_x (n := 8) (e := (8, 0)) h0_ rfl, bx_val_x (n := 9) (e := (9, 0)) h0_ rfl, bx_val_x (n := 10) (e := (9, 0)) h0_ rfl, bx_val_x (n := 11) (e := (0, 1)) h0_ rfl, ← hr_ 8 (by decide), ← hr_ 9 (by decide)]
    exact g.2.2.2
theorem rxc317_1_1 {S0 : Nat → Int → Int} {ws : List Int} {S T6 T5 T4 T3 T2 T1 T0 : Nat → Int → Int} {parts k x10 x11 x12 x13 x14 x15 x16 x17 x18 x19 x20 x21 : Int} (hP : rxP317 S0 ws) (hin : bx_same rxL (bx_mdl rxC317.2.2.1) S0 S) (I0 : bx_Inv rxL S) (hinv : rxI317_1 S0 ws S parts k) (l8 : 1 ≤ parts) (u8 : parts ≤ 6) (l9 : 0 ≤ k) (u9 : k ≤ 47) (l10 : 0 ≤ x10) (u10 : x10 ≤ 5) (l11 : 0 ≤ x11) (u11 : x11 ≤ 7) (l12 : 1 ≤ x12) (u12 : x12 ≤ 8) (l13 : 0 ≤ x13) (u13 : x13 ≤ 7) (l14 : 0 ≤ x14) (u14 : x14 ≤ 299) (l15 : 0 ≤ x15) (u15 : x15 ≤ 21) (l16 : 0 ≤ x16) (u16 : x16 ≤ 200) (l17 : 0 ≤ x17) (u17 : x17 ≤ 21) (l18 : 1 ≤ x18) (u18 : x18 ≤ 300) (l19 : 0 ≤ x19) (u19 : x19 ≤ 7) (l20 : 0 ≤ x20) (u20 : x20 ≤ 5) (l21 : 1 ≤ x21) (u21 : x21 ≤ 1) (f0 : x21 ≠ 0) (f1 : x14 ≤ x18 + (-1)) (f2 : x16 ≤ x14) (f3 : x17 = 3 * (x13)) (f4 : x15 = 3 * (x13)) (f5 : x11 ≤ x12 + (-1)) (f6 : x10 < parts) (e10 : S 482 1 = x12) (e9 : S 482 7 = x14) (e8 : S 482 (x15 + 238) = x16) (e7 : S 482 (x17 + 239) = x18) (v6 : ∀ (p i : Nat), p < rxL.2.1 → i < bx_wd (rxL.1 p) → bx_mc (rxL.1 p) i ≠ (99999, 0) → T6 p (i : Int) = S p (i : Int)) (v5 : ∀ (p i : Nat), p < rxL.2.1 → i < bx_wd (rxL.1 p) → bx_mc (rxL.1 p) i ≠ (1076, 0) → T5 p (i : Int) = T6 p (i : Int)) (v4 : ∀ (p i : Nat), p < rxL.2.1 → i < bx_wd (rxL.1 p) → bx_mc (rxL.1 p) i ≠ (1074, 0) → T4 p (i : Int) = T5 p (i : Int)) (v3 : ∀ (p i : Nat), p < rxL.2.1 → i < bx_wd (rxL.1 p) → bx_mc (rxL.1 p) i ≠ (12, 34) → T3 p (i : Int) = T4 p (i : Int)) (v2 : ∀ (p i : Nat), p < rxL.2.1 → i < bx_wd (rxL.1 p) → bx_mc (rxL.1 p) i ≠ (12, 33) → T2 p (i : Int) = T3 p (i : Int)) (v1 : ∀ (p i : Nat), p < rxL.2.1 → i < bx_wd (rxL.1 p) → bx_mc (rxL.1 p) i ≠ (12, 32) → T1 p (i : Int) = T2 p (i : Int)) (v0 : ∀ (p i : Nat), p < rxL.2.1 → i < bx_wd (rxL.1 p) → bx_mc (rxL.1 p) i ≠ (12, 28) → T0 p (i : Int) = T1 p (i : Int)) : (True) ∧ (True) ∧ rxI317_2 S0 ws T0 parts k k 0 ∧ rxm317_2 S0 ws T0 parts k k 0 < rxm317_1 S0 ws S parts k := by
  exact ⟨trivial, trivial, trivial, by unfold rxm317_1 rxm317_2; omega⟩
theorem rxg317_1_1 {X : (Nat → Int → Int) → Prop} {S0 : Nat → Int → Int} {ws : List Int} (hP : rxP317 S0 ws) : bx_obC rxL X S0 rxC317.2.2.1 (rxI317 S0 ws) (rxm317 S0 ws) 1 rxz317_1 rxo317_1_1 := by
  intro S S_p r r_p hinv hX hin hsm_ hseg
  obtain ⟨I0, I1, h0_, hr_, b_, f_, d_⟩ := bx_cl (evs := [(2, (12, 0), (28, 0), .inl none), (2, (12, 0), (32, 0), .inl none), (2, (12, 0), (33, 0), .inl none), (2, (12, 0), (34, 0), .inl none), (2, (1074, 0), (0, 0), .inl none), (2, (1076, 0), (0, 0), .inl none), (2, (99999, 0), (0, 0), .inl none), (0, (0, 482), (17, 239), .inr (0, (18, 0))), (0, (0, 482), (15, 238), .inr (0, (16, 0))), (0, (0, 482), (0, 7), .inr (0, (14, 0))), (0, (0, 482), (0, 1), .inr (0, (12, 0)))]) (fvs := [(3, (21, 0), (0, 0), (0, 0)), (1, (14, 0), (18, (-1)), (0, 0)), (1, (16, 0), (14, 0), (0, 0)), (4, (17, 0), (13, 0), (0, 3)), (4, (15, 0), (13, 0), (0, 3)), (1, (11, 0), (12, (-1)), (0, 0)), (0, (10, 0), (8, 0), (0, 0))]) hseg (by decide +kernel) (by decide +kernel)
  have hinv : rxI317_1 S0 ws S (r 8) (r 9) := hinv
  rw [← hr_ 8 (by decide), ← hr_ 9 (by decide)] at hinv
  obtain ⟨⟨l8, u8⟩, ⟨l9, u9⟩, ⟨l10, u10⟩, ⟨l11, u11⟩, ⟨l12, u12⟩, ⟨l13, u13⟩, ⟨l14, u14⟩, ⟨l15, u15⟩, ⟨l16, u16⟩, ⟨l17, u17⟩, ⟨l18, u18⟩, ⟨l19, u19⟩, ⟨l20, u20⟩, ⟨l21, u21⟩, -⟩ := b_
  obtain ⟨f0, f1, f2, f3, f4, f5, f6, -⟩ := f_
  obtain ⟨T0, ⟨T1, ⟨T2, ⟨T3, ⟨T4, ⟨T5, ⟨T6, ⟨e7, ⟨e8, ⟨e9, ⟨e10, w_⟩⟩⟩⟩, v6⟩, v5⟩, v4⟩, v3⟩, v2⟩, v1⟩, v0⟩ := d_
  subst w_
  have g := rxc317_1_1 hP hin I0 hinv l8 u8 l9 u9 l10 u10 l11 u11 l12 u12 l13 u13 l14 u14 l15 u15 l16 u16 l17 u17 l18 u18 l19 u19 l20 u20 l21 u21 f0 f1 f2 f3 f4 f5 f6 e10 e9 e8 e7 v6 v5 v4 v3 v2 v1 v0
  refine ⟨bx_narP_ok (l := []) g.1, bx_nfP_ok h0_ (fvs := []) (by decide +kernel) g.2.1, ?_, ?_⟩
  · show rxI317_2 S0 ws S_p (bx_val [(0, 0), (0, 0), (0, 0), (0, 0), (0, 0), (0, 0), (0, 0), (0, 0), (8, 0), (9, 0), (9, 0), (0, 0)] r_p 8) (bx_val [(0, 0), (0, 0), (0, 0), (0, 0), (0, 0), (0, 0), (0, 0), (0, 0), (8, 0), (9, 0), (9, 0), (0, 0)] r_p 9) (bx_val [(0, 0), (0, 0), (0, 0), (0, 0), (0, 0), (0, 0), (0, 0), (0, 0), (8, 0), (9, 0), (9, 0), (0, 0)] r_p 10) (bx_val [(0, 0), (0, 0), (0, 0), (0, 0), (0, 0), (0, 0), (0, 0), (0, 0), (8, 0), (9, 0), (9, 0), (0, 0)] r_p 11)
    rw [bx_val_x (n := 8) (e := (8, 0)) h0_ rfl, bx_val_x (n := 9) (e := (9, 0)) h0_ rfl, bx_val_x (n := 10) (e := (9, 0)) h0_ rfl, bx_val_x (n := 11) (e := (0, 0)) h0_ rfl]
    exact g.2.2.1
  · show rxm317_2 S0 ws S_p (bx_val [(0, 0), (0, 0), (0, 0), (0, 0), (0, 0), (0, 0), (0, 0), (0, 0), (8, 0), (9, 0), (9, 0), (0, 0)] r_p 8) (bx_val [(0, 0), (0, 0), (0, 0), (0, 0), (0, 0), (0, 0), (0, 0), (0, 0), (8, 0), (9, 0), (9, 0), (0, 0)] r_p 9) (bx_val [(0, 0), (0, 0), (0, 0), (0, 0), (0, 0), (0, 0), (0, 0), (0, 0), (8, 0), (9, 0), (9, 0), (0, 0)] r_p 10) (bx_val [(0, 0), (0, 0), (0, 0), (0, 0), (0, 0), (0, 0), (0, 0), (0, 0), (8, 0), (9, 0), (9, 0), (0, 0)] r_p 11) < rxm317_1 S0 ws T6 (r 8) (r 9)
    rw [bx_val_x (n := 8) (e := (8, 0)) h0_ rfl, bx_val_x (n := 9) (e := (9, 0)) h0_ rfl, bx_val_x (n := 10) (e := (9, 0)) h0_ rfl, bx_val_x (n := 11) (e := (0, 0)) h0_ rfl, ← hr_ 8 (by decide), ← hr_ 9 (by decide)]
    exact g.2.2.2
theorem rxc317_1_2 {S0 : Nat → Int → Int} {ws : List Int} {S : Nat → Int → Int} {parts k x10 x11 x12 x13 x14 x15 x16 x17 x18 : Int} (hP : rxP317 S0 ws) (hin : bx_same rxL (bx_mdl rxC317.2.2.1) S0 S) (I0 : bx_Inv rxL S) (hinv : rxI317_1 S0 ws S parts k) (l8 : 1 ≤ parts) (u8 : parts ≤ 6) (l9 : 0 ≤ k) (u9 : k ≤ 47) (l10 : 0 ≤ x10) (u10 : x10 ≤ 5) (l11 : 0 ≤ x11) (u11 : x11 ≤ 7) (l12 : 1 ≤ x12) (u12 : x12 ≤ 8) (l13 : 0 ≤ x13) (u13 : x13 ≤ 7) (l14 : 0 ≤ x14) (u14 : x14 ≤ 300) (l15 : 0 ≤ x15) (u15 : x15 ≤ 21) (l16 : 0 ≤ x16) (u16 : x16 ≤ 200) (l17 : 0 ≤ x17) (u17 : x17 ≤ 21) (l18 : 0 ≤ x18) (u18 : x18 ≤ 300) (f0 : x18 + (-1) < x14) (f1 : x16 ≤ x14) (f2 : x17 = 3 * (x13)) (f3 : x15 = 3 * (x13)) (f4 : x11 ≤ x12 + (-1)) (f5 : x10 < parts) (e3 : S 482 1 = x12) (e2 : S 482 7 = x14) (e1 : S 482 (x15 + 238) = x16) (e0 : S 482 (x17 + 239) = x18) : (True) ∧ (True) ∧ rxI317_2 S0 ws S parts k k 0 ∧ rxm317_2 S0 ws S parts k k 0 < rxm317_1 S0 ws S parts k := by
  exact ⟨trivial, trivial, trivial, by unfold rxm317_1 rxm317_2; omega⟩
theorem rxg317_1_2 {X : (Nat → Int → Int) → Prop} {S0 : Nat → Int → Int} {ws : List Int} (hP : rxP317 S0 ws) : bx_obC rxL X S0 rxC317.2.2.1 (rxI317 S0 ws) (rxm317 S0 ws) 1 rxz317_1 rxo317_1_2 := by
  intro S S_p r r_p hinv hX hin hsm_ hseg
  obtain ⟨I0, I1, h0_, hr_, b_, f_, d_⟩ := bx_cl (evs := [(0, (0, 482), (17, 239), .inr (0, (18, 0))), (0, (0, 482), (15, 238), .inr (0, (16, 0))), (0, (0, 482), (0, 7), .inr (0, (14, 0))), (0, (0, 482), (0, 1), .inr (0, (12, 0)))]) (fvs := [(0, (18, (-1)), (14, 0), (0, 0)), (1, (16, 0), (14, 0), (0, 0)), (4, (17, 0), (13, 0), (0, 3)), (4, (15, 0), (13, 0), (0, 3)), (1, (11, 0), (12, (-1)), (0, 0)), (0, (10, 0), (8, 0), (0, 0))]) hseg (by decide +kernel) (by decide +kernel)
  have hinv : rxI317_1 S0 ws S (r 8) (r 9) := hinv
  rw [← hr_ 8 (by decide), ← hr_ 9 (by decide)] at hinv
  obtain ⟨⟨l8, u8⟩, ⟨l9, u9⟩, ⟨l10, u10⟩, ⟨l11, u11⟩, ⟨l12, u12⟩, ⟨l13, u13⟩, ⟨l14, u14⟩, ⟨l15, u15⟩, ⟨l16, u16⟩, ⟨l17, u17⟩, ⟨l18, u18⟩, -⟩ := b_
  obtain ⟨f0, f1, f2, f3, f4, f5, -⟩ := f_
  obtain ⟨e0, ⟨e1, ⟨e2, ⟨e3, w_⟩⟩⟩⟩ := d_
  subst w_
  have g := rxc317_1_2 hP hin I0 hinv l8 u8 l9 u9 l10 u10 l11 u11 l12 u12 l13 u13 l14 u14 l15 u15 l16 u16 l17 u17 l18 u18 f0 f1 f2 f3 f4 f5 e3 e2 e1 e0
  refine ⟨bx_narP_ok (l := []) g.1, bx_nfP_ok h0_ (fvs := []) (by decide +kernel) g.2.1, ?_, ?_⟩
  · show rxI317_2 S0 ws S_p (bx_val [(0, 0), (0, 0), (0, 0), (0, 0), (0, 0), (0, 0), (0, 0), (0, 0), (8, 0), (9, 0), (9, 0), (0, 0)] r_p 8) (bx_val [(0, 0), (0, 0), (0, 0), (0, 0), (0, 0), (0, 0), (0, 0), (0, 0), (8, 0), (9, 0), (9, 0), (0, 0)] r_p 9) (bx_val [(0, 0), (0, 0), (0, 0), (0, 0), (0, 0), (0, 0), (0, 0), (0, 0), (8, 0), (9, 0), (9, 0), (0, 0)] r_p 10) (bx_val [(0, 0), (0, 0), (0, 0), (0, 0), (0, 0), (0, 0), (0, 0), (0, 0), (8, 0), (9, 0), (9, 0), (0, 0)] r_p 11)
    rw [bx_val_x (n := 8) (e := (8, 0)) h0_ rfl, bx_val_x (n := 9) (e := (9, 0)) h0_ rfl, bx_val_x (n := 10) (e := (9, 0)) h0_ rfl, bx_val_x (n := 11) (e := (0, 0)) h0_ rfl]
    exact g.2.2.1
  · show rxm317_2 S0 ws S_p (bx_val [(0, 0), (0, 0), (0, 0), (0, 0), (0, 0), (0, 0), (0, 0), (0, 0), (8, 0), (9, 0), (9, 0), (0, 0)] r_p 8) (bx_val [(0, 0), (0, 0), (0, 0), (0, 0), (0, 0), (0, 0), (0, 0), (0, 0), (8, 0), (9, 0), (9, 0), (0, 0)] r_p 9) (bx_val [(0, 0), (0, 0), (0, 0), (0, 0), (0, 0), (0, 0), (0, 0), (0, 0), (8, 0), (9, 0), (9, 0), (0, 0)] r_p 10) (bx_val [(0, 0), (0, 0), (0, 0), (0, 0), (0, 0), (0, 0), (0, 0), (0, 0), (8, 0), (9, 0), (9, 0), (0, 0)] r_p 11) < rxm317_1 S0 ws S_p (r 8) (r 9)
    rw [bx_val_x (n := 8) (e := (8, 0)) h0_ rfl, bx_val_x (n := 9) (e := (9, 0)) h0_ rfl, bx_val_x (n := 10) (e := (9, 0)) h0_ rfl, bx_val_x (n := 11) (e := (0, 0)) h0_ rfl, ← hr_ 8 (by decide), ← hr_ 9 (by decide)]
    exact g.2.2.2
theorem rxc317_1_3 {S0 : Nat → Int → Int} {ws : List Int} {S : Nat → Int → Int} {parts k x10 x11 x12 x13 x14 x15 x16 x17 x18 : Int} (hP : rxP317 S0 ws) (hin : bx_same rxL (bx_mdl rxC317.2.2.1) S0 S) (I0 : bx_Inv rxL S) (hinv : rxI317_1 S0 ws S parts k) (l8 : 1 ≤ parts) (u8 : parts ≤ 6) (l9 : 0 ≤ k) (u9 : k ≤ 47) (l10 : 0 ≤ x10) (u10 : x10 ≤ 5) (l11 : 0 ≤ x11) (u11 : x11 ≤ 7) (l12 : 1 ≤ x12) (u12 : x12 ≤ 8) (l13 : 0 ≤ x13) (u13 : x13 ≤ 7) (l14 : 0 ≤ x14) (u14 : x14 ≤ 199) (l15 : 0 ≤ x15) (u15 : x15 ≤ 21) (l16 : 1 ≤ x16) (u16 : x16 ≤ 200) (l17 : 0 ≤ x17) (u17 : x17 ≤ 21) (l18 : 0 ≤ x18) (u18 : x18 ≤ 300) (f0 : x14 < x16) (f1 : x17 = 3 * (x13)) (f2 : x15 = 3 * (x13)) (f3 : x11 ≤ x12 + (-1)) (f4 : x10 < parts) (e3 : S 482 1 = x12) (e2 : S 482 7 = x14) (e1 : S 482 (x15 + 238) = x16) (e0 : S 482 (x17 + 239) = x18) : (True) ∧ (True) ∧ rxI317_2 S0 ws S parts k k 0 ∧ rxm317_2 S0 ws S parts k k 0 < rxm317_1 S0 ws S parts k := by
  exact ⟨trivial, trivial, trivial, by unfold rxm317_1 rxm317_2; omega⟩
theorem rxg317_1_3 {X : (Nat → Int → Int) → Prop} {S0 : Nat → Int → Int} {ws : List Int} (hP : rxP317 S0 ws) : bx_obC rxL X S0 rxC317.2.2.1 (rxI317 S0 ws) (rxm317 S0 ws) 1 rxz317_1 rxo317_1_3 := by
  intro S S_p r r_p hinv hX hin hsm_ hseg
  obtain ⟨I0, I1, h0_, hr_, b_, f_, d_⟩ := bx_cl (evs := [(0, (0, 482), (17, 239), .inr (0, (18, 0))), (0, (0, 482), (15, 238), .inr (0, (16, 0))), (0, (0, 482), (0, 7), .inr (0, (14, 0))), (0, (0, 482), (0, 1), .inr (0, (12, 0)))]) (fvs := [(0, (14, 0), (16, 0), (0, 0)), (4, (17, 0), (13, 0), (0, 3)), (4, (15, 0), (13, 0), (0, 3)), (1, (11, 0), (12, (-1)), (0, 0)), (0, (10, 0), (8, 0), (0, 0))]) hseg (by decide +kernel) (by decide +kernel)
  have hinv : rxI317_1 S0 ws S (r 8) (r 9) := hinv
  rw [← hr_ 8 (by decide), ← hr_ 9 (by decide)] at hinv
  obtain ⟨⟨l8, u8⟩, ⟨l9, u9⟩, ⟨l10, u10⟩, ⟨l11, u11⟩, ⟨l12, u12⟩, ⟨l13, u13⟩, ⟨l14, u14⟩, ⟨l15, u15⟩, ⟨l16, u16⟩, ⟨l17, u17⟩, ⟨l18, u18⟩, -⟩ := b_
  obtain ⟨f0, f1, f2, f3, f4, -⟩ := f_
  obtain ⟨e0, ⟨e1, ⟨e2, ⟨e3, w_⟩⟩⟩⟩ := d_
  subst w_
  have g := rxc317_1_3 hP hin I0 hinv l8 u8 l9 u9 l10 u10 l11 u11 l12 u12 l13 u13 l14 u14 l15 u15 l16 u16 l17 u17 l18 u18 f0 f1 f2 f3 f4 e3 e2 e1 e0
  refine ⟨bx_narP_ok (l := []) g.1, bx_nfP_ok h0_ (fvs := []) (by decide +kernel) g.2.1, ?_, ?_⟩
  · show rxI317_2 S0 ws S_p (bx_val [(0, 0), (0, 0), (0, 0), (0, 0), (0, 0), (0, 0), (0, 0), (0, 0), (8, 0), (9, 0), (9, 0), (0, 0)] r_p 8) (bx_val [(0, 0), (0, 0), (0, 0), (0, 0), (0, 0), (0, 0), (0, 0), (0, 0), (8, 0), (9, 0), (9, 0), (0, 0)] r_p 9) (bx_val [(0, 0), (0, 0), (0, 0), (0, 0), (0, 0), (0, 0), (0, 0), (0, 0), (8, 0), (9, 0), (9, 0), (0, 0)] r_p 10) (bx_val [(0, 0), (0, 0), (0, 0), (0, 0), (0, 0), (0, 0), (0, 0), (0, 0), (8, 0), (9, 0), (9, 0), (0, 0)] r_p 11)
    rw [bx_val_x (n := 8) (e := (8, 0)) h0_ rfl, bx_val_x (n := 9) (e := (9, 0)) h0_ rfl, bx_val_x (n := 10) (e := (9, 0)) h0_ rfl, bx_val_x (n := 11) (e := (0, 0)) h0_ rfl]
    exact g.2.2.1
  · show rxm317_2 S0 ws S_p (bx_val [(0, 0), (0, 0), (0, 0), (0, 0), (0, 0), (0, 0), (0, 0), (0, 0), (8, 0), (9, 0), (9, 0), (0, 0)] r_p 8) (bx_val [(0, 0), (0, 0), (0, 0), (0, 0), (0, 0), (0, 0), (0, 0), (0, 0), (8, 0), (9, 0), (9, 0), (0, 0)] r_p 9) (bx_val [(0, 0), (0, 0), (0, 0), (0, 0), (0, 0), (0, 0), (0, 0), (0, 0), (8, 0), (9, 0), (9, 0), (0, 0)] r_p 10) (bx_val [(0, 0), (0, 0), (0, 0), (0, 0), (0, 0), (0, 0), (0, 0), (0, 0), (8, 0), (9, 0), (9, 0), (0, 0)] r_p 11) < rxm317_1 S0 ws S_p (r 8) (r 9)
    rw [bx_val_x (n := 8) (e := (8, 0)) h0_ rfl, bx_val_x (n := 9) (e := (9, 0)) h0_ rfl, bx_val_x (n := 10) (e := (9, 0)) h0_ rfl, bx_val_x (n := 11) (e := (0, 0)) h0_ rfl, ← hr_ 8 (by decide), ← hr_ 9 (by decide)]
    exact g.2.2.2
theorem rxc317_1_4 {S0 : Nat → Int → Int} {ws : List Int} {S : Nat → Int → Int} {parts k x10 x11 x12 : Int} (hP : rxP317 S0 ws) (hin : bx_same rxL (bx_mdl rxC317.2.2.1) S0 S) (I0 : bx_Inv rxL S) (hinv : rxI317_1 S0 ws S parts k) (l8 : 1 ≤ parts) (u8 : parts ≤ 6) (l9 : 0 ≤ k) (u9 : k ≤ 47) (l10 : 0 ≤ x10) (u10 : x10 ≤ 5) (l11 : 0 ≤ x11) (u11 : x11 ≤ 7) (l12 : 0 ≤ x12) (u12 : x12 ≤ 7) (f0 : x12 + (-1) < x11) (f1 : x10 < parts) (e0 : S 482 1 = x12) : (True) ∧ (True) ∧ rxI317_2 S0 ws S parts k k 0 ∧ rxm317_2 S0 ws S parts k k 0 < rxm317_1 S0 ws S parts k := by
  exact ⟨trivial, trivial, trivial, by unfold rxm317_1 rxm317_2; omega⟩
theorem rxg317_1_4 {X : (Nat → Int → Int) → Prop} {S0 : Nat → Int → Int} {ws : List Int} (hP : rxP317 S0 ws) : bx_obC rxL X S0 rxC317.2.2.1 (rxI317 S0 ws) (rxm317 S0 ws) 1 rxz317_1 rxo317_1_4 := by
  intro S S_p r r_p hinv hX hin hsm_ hseg
  obtain ⟨I0, I1, h0_, hr_, b_, f_, d_⟩ := bx_cl (evs := [(0, (0, 482), (0, 1), .inr (0, (12, 0)))]) (fvs := [(0, (12, (-1)), (11, 0), (0, 0)), (0, (10, 0), (8, 0), (0, 0))]) hseg (by decide +kernel) (by decide +kernel)
  have hinv : rxI317_1 S0 ws S (r 8) (r 9) := hinv
  rw [← hr_ 8 (by decide), ← hr_ 9 (by decide)] at hinv
  obtain ⟨⟨l8, u8⟩, ⟨l9, u9⟩, ⟨l10, u10⟩, ⟨l11, u11⟩, ⟨l12, u12⟩, -⟩ := b_
  obtain ⟨f0, f1, -⟩ := f_
  obtain ⟨e0, w_⟩ := d_
  subst w_
  have g := rxc317_1_4 hP hin I0 hinv l8 u8 l9 u9 l10 u10 l11 u11 l12 u12 f0 f1 e0
  refine ⟨bx_narP_ok (l := []) g.1, bx_nfP_ok h0_ (fvs := []) (by decide +kernel) g.2.1, ?_, ?_⟩
  · show rxI317_2 S0 ws S_p (bx_val [(0, 0), (0, 0), (0, 0), (0, 0), (0, 0), (0, 0), (0, 0), (0, 0), (8, 0), (9, 0), (9, 0), (0, 0)] r_p 8) (bx_val [(0, 0), (0, 0), (0, 0), (0, 0), (0, 0), (0, 0), (0, 0), (0, 0), (8, 0), (9, 0), (9, 0), (0, 0)] r_p 9) (bx_val [(0, 0), (0, 0), (0, 0), (0, 0), (0, 0), (0, 0), (0, 0), (0, 0), (8, 0), (9, 0), (9, 0), (0, 0)] r_p 10) (bx_val [(0, 0), (0, 0), (0, 0), (0, 0), (0, 0), (0, 0), (0, 0), (0, 0), (8, 0), (9, 0), (9, 0), (0, 0)] r_p 11)
    rw [bx_val_x (n := 8) (e := (8, 0)) h0_ rfl, bx_val_x (n := 9) (e := (9, 0)) h0_ rfl, bx_val_x (n := 10) (e := (9, 0)) h0_ rfl, bx_val_x (n := 11) (e := (0, 0)) h0_ rfl]
    exact g.2.2.1
  · show rxm317_2 S0 ws S_p (bx_val [(0, 0), (0, 0), (0, 0), (0, 0), (0, 0), (0, 0), (0, 0), (0, 0), (8, 0), (9, 0), (9, 0), (0, 0)] r_p 8) (bx_val [(0, 0), (0, 0), (0, 0), (0, 0), (0, 0), (0, 0), (0, 0), (0, 0), (8, 0), (9, 0), (9, 0), (0, 0)] r_p 9) (bx_val [(0, 0), (0, 0), (0, 0), (0, 0), (0, 0), (0, 0), (0, 0), (0, 0), (8, 0), (9, 0), (9, 0), (0, 0)] r_p 10) (bx_val [(0, 0), (0, 0), (0, 0), (0, 0), (0, 0), (0, 0), (0, 0), (0, 0), (8, 0), (9, 0), (9, 0), (0, 0)] r_p 11) < rxm317_1 S0 ws S_p (r 8) (r 9)
    rw [bx_val_x (n := 8) (e := (8, 0)) h0_ rfl, bx_val_x (n := 9) (e := (9, 0)) h0_ rfl, bx_val_x (n := 10) (e := (9, 0)) h0_ rfl, bx_val_x (n := 11) (e := (0, 0)) h0_ rfl, ← hr_ 8 (by decide), ← hr_ 9 (by decide)]
    exact g.2.2.2
theorem rxc317_1_5 {S0 : Nat → Int → Int} {ws : List Int} {S : Nat → Int → Int} {parts k x10 : Int} (hP : rxP317 S0 ws) (hin : bx_same rxL (bx_mdl rxC317.2.2.1) S0 S) (I0 : bx_Inv rxL S) (hinv : rxI317_1 S0 ws S parts k) (l8 : 0 ≤ parts) (u8 : parts ≤ 5) (l9 : 0 ≤ k) (u9 : k ≤ 47) (l10 : 0 ≤ x10) (u10 : x10 ≤ 5) (f0 : parts ≤ x10) : (True) ∧ (True) ∧ rxI317_2 S0 ws S parts k k 0 ∧ rxm317_2 S0 ws S parts k k 0 < rxm317_1 S0 ws S parts k := by
  exact ⟨trivial, trivial, trivial, by unfold rxm317_1 rxm317_2; omega⟩
theorem rxg317_1_5 {X : (Nat → Int → Int) → Prop} {S0 : Nat → Int → Int} {ws : List Int} (hP : rxP317 S0 ws) : bx_obC rxL X S0 rxC317.2.2.1 (rxI317 S0 ws) (rxm317 S0 ws) 1 rxz317_1 rxo317_1_5 := by
  intro S S_p r r_p hinv hX hin hsm_ hseg
  obtain ⟨I0, I1, h0_, hr_, b_, f_, d_⟩ := bx_cl (evs := []) (fvs := [(1, (8, 0), (10, 0), (0, 0))]) hseg (by decide +kernel) (by decide +kernel)
  have hinv : rxI317_1 S0 ws S (r 8) (r 9) := hinv
  rw [← hr_ 8 (by decide), ← hr_ 9 (by decide)] at hinv
  obtain ⟨⟨l8, u8⟩, ⟨l9, u9⟩, ⟨l10, u10⟩, -⟩ := b_
  obtain ⟨f0, -⟩ := f_
  have w_ := d_
  subst w_
  have g := rxc317_1_5 hP hin I0 hinv l8 u8 l9 u9 l10 u10 f0
  refine ⟨bx_narP_ok (l := []) g.1, bx_nfP_ok h0_ (fvs := []) (by decide +kernel) g.2.1, ?_, ?_⟩
  · show rxI317_2 S0 ws S_p (bx_val [(0, 0), (0, 0), (0, 0), (0, 0), (0, 0), (0, 0), (0, 0), (0, 0), (8, 0), (9, 0), (9, 0), (0, 0)] r_p 8) (bx_val [(0, 0), (0, 0), (0, 0), (0, 0), (0, 0), (0, 0), (0, 0), (0, 0), (8, 0), (9, 0), (9, 0), (0, 0)] r_p 9) (bx_val [(0, 0), (0, 0), (0, 0), (0, 0), (0, 0), (0, 0), (0, 0), (0, 0), (8, 0), (9, 0), (9, 0), (0, 0)] r_p 10) (bx_val [(0, 0), (0, 0), (0, 0), (0, 0), (0, 0), (0, 0), (0, 0), (0, 0), (8, 0), (9, 0), (9, 0), (0, 0)] r_p 11)
    rw [bx_val_x (n := 8) (e := (8, 0)) h0_ rfl, bx_val_x (n := 9) (e := (9, 0)) h0_ rfl, bx_val_x (n := 10) (e := (9, 0)) h0_ rfl, bx_val_x (n := 11) (e := (0, 0)) h0_ rfl]
    exact g.2.2.1
  · show rxm317_2 S0 ws S_p (bx_val [(0, 0), (0, 0), (0, 0), (0, 0), (0, 0), (0, 0), (0, 0), (0, 0), (8, 0), (9, 0), (9, 0), (0, 0)] r_p 8) (bx_val [(0, 0), (0, 0), (0, 0), (0, 0), (0, 0), (0, 0), (0, 0), (0, 0), (8, 0), (9, 0), (9, 0), (0, 0)] r_p 9) (bx_val [(0, 0), (0, 0), (0, 0), (0, 0), (0, 0), (0, 0), (0, 0), (0, 0), (8, 0), (9, 0), (9, 0), (0, 0)] r_p 10) (bx_val [(0, 0), (0, 0), (0, 0), (0, 0), (0, 0), (0, 0), (0, 0), (0, 0), (8, 0), (9, 0), (9, 0), (0, 0)] r_p 11) < rxm317_1 S0 ws S_p (r 8) (r 9)
    rw [bx_val_x (n := 8) (e := (8, 0)) h0_ rfl, bx_val_x (n := 9) (e := (9, 0)) h0_ rfl, bx_val_x (n := 10) (e := (9, 0)) h0_ rfl, bx_val_x (n := 11) (e := (0, 0)) h0_ rfl, ← hr_ 8 (by decide), ← hr_ 9 (by decide)]
    exact g.2.2.2
theorem rxc317_1_6 {S0 : Nat → Int → Int} {ws : List Int} {S : Nat → Int → Int} {parts k : Int} (hP : rxP317 S0 ws) (hin : bx_same rxL (bx_mdl rxC317.2.2.1) S0 S) (I0 : bx_Inv rxL S) (hinv : rxI317_1 S0 ws S parts k) (l8 : 0 ≤ parts) (u8 : parts ≤ 0) (l9 : 48 ≤ k) (u9 : k ≤ 48) : (True) ∧ (True) ∧ rxI317_3 S0 ws (bx_up (bx_up S 480 58 1000000) 480 59 0) parts ∧ rxm317_3 S0 ws (bx_up (bx_up S 480 58 1000000) 480 59 0) parts < rxm317_1 S0 ws S parts k := by
  exact ⟨trivial, trivial, trivial, by unfold rxm317_1 rxm317_3; omega⟩
theorem rxg317_1_6 {X : (Nat → Int → Int) → Prop} {S0 : Nat → Int → Int} {ws : List Int} (hP : rxP317 S0 ws) : bx_obC rxL X S0 rxC317.2.2.1 (rxI317 S0 ws) (rxm317 S0 ws) 1 rxz317_1 rxo317_1_6 := by
  intro S S_p r r_p hinv hX hin hsm_ hseg
  obtain ⟨I0, I1, h0_, hr_, b_, f_, d_⟩ := bx_cl (evs := [(1, (0, 480), (0, 59), .inr (0, (0, 0))), (1, (0, 480), (0, 58), .inr (0, (0, 1000000)))]) (fvs := []) hseg (by decide +kernel) (by decide +kernel)
  have hinv : rxI317_1 S0 ws S (r 8) (r 9) := hinv
  rw [← hr_ 8 (by decide), ← hr_ 9 (by decide)] at hinv
  obtain ⟨⟨l8, u8⟩, ⟨l9, u9⟩, -⟩ := b_
  obtain ⟨T0, ⟨T1, w_, w1⟩, w0⟩ := d_
  subst w0
  subst w1
  subst w_
  have g := rxc317_1_6 hP hin I0 hinv l8 u8 l9 u9
  refine ⟨bx_narP_ok (l := []) g.1, bx_nfP_ok h0_ (fvs := []) (by decide +kernel) g.2.1, ?_, ?_⟩
  · show rxI317_3 S0 ws (bx_up (bx_up T1 480 (58) (1000000)) 480 (59) (0)) (bx_val [(0, 0), (0, 0), (0, 0), (0, 0), (0, 0), (0, 0), (0, 0), (0, 0), (8, 0)] r_p 8)
    rw [bx_val_x (n := 8) (e := (8, 0)) h0_ rfl]
    exact g.2.2.1
  · show rxm317_3 S0 ws (bx_up (bx_up T1 480 (58) (1000000)) 480 (59) (0)) (bx_val [(0, 0), (0, 0), (0, 0), (0, 0), (0, 0), (0, 0), (0, 0), (0, 0), (8, 0)] r_p 8) < rxm317_1 S0 ws T1 (r 8) (r 9)
    rw [bx_val_x (n := 8) (e := (8, 0)) h0_ rfl, ← hr_ 8 (by decide), ← hr_ 9 (by decide)]
    exact g.2.2.2
theorem rxc317_1_7 {S0 : Nat → Int → Int} {ws : List Int} {S : Nat → Int → Int} {parts k : Int} (hP : rxP317 S0 ws) (hin : bx_same rxL (bx_mdl rxC317.2.2.1) S0 S) (I0 : bx_Inv rxL S) (hinv : rxI317_1 S0 ws S parts k) (l8 : 1 ≤ parts) (u8 : parts ≤ 6) (l9 : 48 ≤ k) (u9 : k ≤ 48) (f0 : parts ≠ 0) : (True) ∧ (True) ∧ rxI317_5 S0 ws (bx_up (bx_up (bx_up S 480 58 1000000) 480 59 0) 508 0 ((-1))) parts 0 ∧ rxm317_5 S0 ws (bx_up (bx_up (bx_up S 480 58 1000000) 480 59 0) 508 0 ((-1))) parts 0 < rxm317_1 S0 ws S parts k := by
  have t0 : (bx_up (bx_up (bx_up S 480 58 1000000) 480 59 0) 508 0 ((-1))) 508 0 = -1 := by simp [bx_up]
  refine ⟨trivial, trivial, ⟨by omega, fun j h1 h2 => by omega, fun _ => ⟨by omega, by omega⟩⟩, ?_⟩
  unfold rxm317_1 rxm317_5
  rw [if_neg (by omega)]
  have := rxCast_lo (S := (bx_up (bx_up (bx_up S 480 58 1000000) 480 59 0) 508 0 ((-1)))) (k := 0) (by omega) (by omega) (fun j h1 h2 => by omega) (by omega)
  omega
theorem rxg317_1_7 {X : (Nat → Int → Int) → Prop} {S0 : Nat → Int → Int} {ws : List Int} (hP : rxP317 S0 ws) : bx_obC rxL X S0 rxC317.2.2.1 (rxI317 S0 ws) (rxm317 S0 ws) 1 rxz317_1 rxo317_1_7 := by
  intro S S_p r r_p hinv hX hin hsm_ hseg
  obtain ⟨I0, I1, h0_, hr_, b_, f_, d_⟩ := bx_cl (evs := [(1, (0, 508), (0, 0), .inr (0, (0, (-1)))), (1, (0, 480), (0, 59), .inr (0, (0, 0))), (1, (0, 480), (0, 58), .inr (0, (0, 1000000)))]) (fvs := [(3, (8, 0), (0, 0), (0, 0))]) hseg (by decide +kernel) (by decide +kernel)
  have hinv : rxI317_1 S0 ws S (r 8) (r 9) := hinv
  rw [← hr_ 8 (by decide), ← hr_ 9 (by decide)] at hinv
  obtain ⟨⟨l8, u8⟩, ⟨l9, u9⟩, -⟩ := b_
  obtain ⟨f0, -⟩ := f_
  obtain ⟨T0, ⟨T1, ⟨T2, w_, w2⟩, w1⟩, w0⟩ := d_
  subst w0
  subst w1
  subst w2
  subst w_
  have g := rxc317_1_7 hP hin I0 hinv l8 u8 l9 u9 f0
  refine ⟨bx_narP_ok (l := []) g.1, bx_nfP_ok h0_ (fvs := []) (by decide +kernel) g.2.1, ?_, ?_⟩
  · show rxI317_5 S0 ws (bx_up (bx_up (bx_up T2 480 (58) (1000000)) 480 (59) (0)) 508 (0) ((-1))) (bx_val [(0, 0), (0, 0), (0, 0), (0, 0), (0, 0), (0, 0), (0, 0), (0, 0), (8, 0), (0, 0)] r_p 8) (bx_val [(0, 0), (0, 0), (0, 0), (0, 0), (0, 0), (0, 0), (0, 0), (0, 0), (8, 0), (0, 0)] r_p 9)
    rw [bx_val_x (n := 8) (e := (8, 0)) h0_ rfl, bx_val_x (n := 9) (e := (0, 0)) h0_ rfl]
    exact g.2.2.1
  · show rxm317_5 S0 ws (bx_up (bx_up (bx_up T2 480 (58) (1000000)) 480 (59) (0)) 508 (0) ((-1))) (bx_val [(0, 0), (0, 0), (0, 0), (0, 0), (0, 0), (0, 0), (0, 0), (0, 0), (8, 0), (0, 0)] r_p 8) (bx_val [(0, 0), (0, 0), (0, 0), (0, 0), (0, 0), (0, 0), (0, 0), (0, 0), (8, 0), (0, 0)] r_p 9) < rxm317_1 S0 ws T2 (r 8) (r 9)
    rw [bx_val_x (n := 8) (e := (8, 0)) h0_ rfl, bx_val_x (n := 9) (e := (0, 0)) h0_ rfl, ← hr_ 8 (by decide), ← hr_ 9 (by decide)]
    exact g.2.2.2
theorem rxc317_2_0 {S0 : Nat → Int → Int} {ws : List Int} {S : Nat → Int → Int} {parts k k2 v : Int} (hP : rxP317 S0 ws) (hin : bx_same rxL (bx_mdl rxC317.2.2.1) S0 S) (I0 : bx_Inv rxL S) (hinv : rxI317_2 S0 ws S parts k k2 v) (l8 : 0 ≤ parts) (u8 : parts ≤ 6) (l9 : 0 ≤ k) (u9 : k ≤ 47) (l10 : 0 ≤ k2) (u10 : k2 ≤ 47) (l11 : 0 ≤ v) (u11 : v ≤ 1) : (True) ∧ (True) ∧ rxI317_1 S0 ws (bx_up S 510 k2 v) parts (k + 1) ∧ rxm317_1 S0 ws (bx_up S 510 k2 v) parts (k + 1) < rxm317_2 S0 ws S parts k k2 v := by
  exact ⟨trivial, trivial, trivial, by unfold rxm317_2 rxm317_1; omega⟩
theorem rxg317_2_0 {X : (Nat → Int → Int) → Prop} {S0 : Nat → Int → Int} {ws : List Int} (hP : rxP317 S0 ws) : bx_obC rxL X S0 rxC317.2.2.1 (rxI317 S0 ws) (rxm317 S0 ws) 2 rxz317_2 rxo317_2_0 := by
  intro S S_p r r_p hinv hX hin hsm_ hseg
  obtain ⟨I0, I1, h0_, hr_, b_, f_, d_⟩ := bx_cl (evs := [(1, (0, 510), (10, 0), .inr (0, (11, 0)))]) (fvs := []) hseg (by decide +kernel) (by decide +kernel)
  have hinv : rxI317_2 S0 ws S (r 8) (r 9) (r 10) (r 11) := hinv
  rw [← hr_ 8 (by decide), ← hr_ 9 (by decide), ← hr_ 10 (by decide), ← hr_ 11 (by decide)] at hinv
  obtain ⟨⟨l8, u8⟩, ⟨l9, u9⟩, ⟨l10, u10⟩, ⟨l11, u11⟩, -⟩ := b_
  obtain ⟨T0, w_, w0⟩ := d_
  subst w0
  subst w_
  have g := rxc317_2_0 hP hin I0 hinv l8 u8 l9 u9 l10 u10 l11 u11
  refine ⟨bx_narP_ok (l := []) g.1, bx_nfP_ok h0_ (fvs := []) (by decide +kernel) g.2.1, ?_, ?_⟩
  · show rxI317_1 S0 ws (bx_up T0 510 (r_p 10) (r_p 11)) (bx_val [(0, 0), (0, 0), (0, 0), (0, 0), (0, 0), (0, 0), (0, 0), (0, 0), (8, 0), (9, 1)] r_p 8) (bx_val [(0, 0), (0, 0), (0, 0), (0, 0), (0, 0), (0, 0), (0, 0), (0, 0), (8, 0), (9, 1)] r_p 9)
    rw [bx_val_x (n := 8) (e := (8, 0)) h0_ rfl, bx_val_x (n := 9) (e := (9, 1)) h0_ rfl]
    exact g.2.2.1
  · show rxm317_1 S0 ws (bx_up T0 510 (r_p 10) (r_p 11)) (bx_val [(0, 0), (0, 0), (0, 0), (0, 0), (0, 0), (0, 0), (0, 0), (0, 0), (8, 0), (9, 1)] r_p 8) (bx_val [(0, 0), (0, 0), (0, 0), (0, 0), (0, 0), (0, 0), (0, 0), (0, 0), (8, 0), (9, 1)] r_p 9) < rxm317_2 S0 ws T0 (r 8) (r 9) (r 10) (r 11)
    rw [bx_val_x (n := 8) (e := (8, 0)) h0_ rfl, bx_val_x (n := 9) (e := (9, 1)) h0_ rfl, ← hr_ 8 (by decide), ← hr_ 9 (by decide), ← hr_ 10 (by decide), ← hr_ 11 (by decide)]
    exact g.2.2.2
theorem rxd317_4_0 {S0 : Nat → Int → Int} {ws : List Int} {S : Nat → Int → Int} {parts : Int} (hP : rxP317 S0 ws) (hin : bx_same rxL (bx_mdl rxC317.2.2.1) S0 S) (hin2 : bx_same rxL (bx_mdl rxC317.2.2.1) S S) (I0 : bx_Inv rxL S) (I1 : bx_Inv rxL S) (hinv : rxI317_4 S0 ws S parts) (l8 : 0 ≤ parts) (u8 : parts ≤ 0) : (True) ∧ rxPS317 S0 ws S none := by
  exact ⟨trivial, trivial⟩
theorem rxf317_4_0 {X : (Nat → Int → Int) → Prop} {S0 : Nat → Int → Int} {ws : List Int} (hP : rxP317 S0 ws) : bx_obE rxL X S0 rxC317.2.2.1 (rxI317 S0 ws) (rxPS317 S0 ws) 4 rxz317_4 rxe317_4_0 := by
  intro S S_p r r_p hinv hX hin hsm_ hseg
  obtain ⟨I0, I1, h0_, hr_, b_, f_, d_⟩ := bx_cl (evs := []) (fvs := []) hseg (by decide +kernel) (by decide +kernel)
  have hinv : rxI317_4 S0 ws S (r 8) := hinv
  rw [← hr_ 8 (by decide)] at hinv
  obtain ⟨⟨l8, u8⟩, -⟩ := b_
  have w_ := d_
  subst w_
  have g := rxd317_4_0 hP hin hsm_ I0 I1 hinv l8 u8
  refine ⟨bx_narP_ok (l := []) g.1, ?_⟩
  exact g.2
theorem rxc317_5_0 {S0 : Nat → Int → Int} {ws : List Int} {S : Nat → Int → Int} {parts k x10 : Int} (hP : rxP317 S0 ws) (hin : bx_same rxL (bx_mdl rxC317.2.2.1) S0 S) (I0 : bx_Inv rxL S) (hinv : rxI317_5 S0 ws S parts k) (l8 : 1 ≤ parts) (u8 : parts ≤ 6) (l9 : 0 ≤ k) (u9 : k ≤ 5) (l10 : (-1) ≤ x10) (u10 : x10 ≤ 8) (e0 : S 508 k = x10) : (((-1) ≤ x10 ∧ x10 ≤ 7) ∧ True) ∧ (True) ∧ rxI317_6 S0 ws S parts k k x10 ∧ rxm317_6 S0 ws S parts k k x10 < rxm317_5 S0 ws S parts k := by
  obtain ⟨h1, h2, h3⟩ := hinv
  have h4 := h3 l9
  refine ⟨⟨by omega, trivial⟩, trivial, ⟨rfl, e0.symm, h1, h2, h3⟩, ?_⟩
  unfold rxm317_5 rxm317_6
  rw [if_neg (by omega)]
  omega
theorem rxg317_5_0 {X : (Nat → Int → Int) → Prop} {S0 : Nat → Int → Int} {ws : List Int} (hP : rxP317 S0 ws) : bx_obC rxL X S0 rxC317.2.2.1 (rxI317 S0 ws) (rxm317 S0 ws) 5 rxz317_5 rxo317_5_0 := by
  intro S S_p r r_p hinv hX hin hsm_ hseg
  obtain ⟨I0, I1, h0_, hr_, b_, f_, d_⟩ := bx_cl (evs := [(0, (0, 508), (9, 0), .inr (0, (10, 0)))]) (fvs := []) hseg (by decide +kernel) (by decide +kernel)
  have hinv : rxI317_5 S0 ws S (r 8) (r 9) := hinv
  rw [← hr_ 8 (by decide), ← hr_ 9 (by decide)] at hinv
  obtain ⟨⟨l8, u8⟩, ⟨l9, u9⟩, ⟨l10, u10⟩, -⟩ := b_
  obtain ⟨e0, w_⟩ := d_
  subst w_
  have g := rxc317_5_0 hP hin I0 hinv l8 u8 l9 u9 l10 u10 e0
  refine ⟨bx_narP_ok (l := [(10, (-1), 7)]) g.1, bx_nfP_ok h0_ (fvs := []) (by decide +kernel) g.2.1, ?_, ?_⟩
  · show rxI317_6 S0 ws S_p (bx_val [(0, 0), (0, 0), (0, 0), (0, 0), (0, 0), (0, 0), (0, 0), (0, 0), (8, 0), (9, 0), (9, 0), (10, 0)] r_p 8) (bx_val [(0, 0), (0, 0), (0, 0), (0, 0), (0, 0), (0, 0), (0, 0), (0, 0), (8, 0), (9, 0), (9, 0), (10, 0)] r_p 9) (bx_val [(0, 0), (0, 0), (0, 0), (0, 0), (0, 0), (0, 0), (0, 0), (0, 0), (8, 0), (9, 0), (9, 0), (10, 0)] r_p 10) (bx_val [(0, 0), (0, 0), (0, 0), (0, 0), (0, 0), (0, 0), (0, 0), (0, 0), (8, 0), (9, 0), (9, 0), (10, 0)] r_p 11)
    rw [bx_val_x (n := 8) (e := (8, 0)) h0_ rfl, bx_val_x (n := 9) (e := (9, 0)) h0_ rfl, bx_val_x (n := 10) (e := (9, 0)) h0_ rfl, bx_val_x (n := 11) (e := (10, 0)) h0_ rfl]
    exact g.2.2.1
  · show rxm317_6 S0 ws S_p (bx_val [(0, 0), (0, 0), (0, 0), (0, 0), (0, 0), (0, 0), (0, 0), (0, 0), (8, 0), (9, 0), (9, 0), (10, 0)] r_p 8) (bx_val [(0, 0), (0, 0), (0, 0), (0, 0), (0, 0), (0, 0), (0, 0), (0, 0), (8, 0), (9, 0), (9, 0), (10, 0)] r_p 9) (bx_val [(0, 0), (0, 0), (0, 0), (0, 0), (0, 0), (0, 0), (0, 0), (0, 0), (8, 0), (9, 0), (9, 0), (10, 0)] r_p 10) (bx_val [(0, 0), (0, 0), (0, 0), (0, 0), (0, 0), (0, 0), (0, 0), (0, 0), (8, 0), (9, 0), (9, 0), (10, 0)] r_p 11) < rxm317_5 S0 ws S_p (r 8) (r 9)
    rw [bx_val_x (n := 8) (e := (8, 0)) h0_ rfl, bx_val_x (n := 9) (e := (9, 0)) h0_ rfl, bx_val_x (n := 10) (e := (9, 0)) h0_ rfl, bx_val_x (n := 11) (e := (10, 0)) h0_ rfl, ← hr_ 8 (by decide), ← hr_ 9 (by decide)]
    exact g.2.2.2
theorem rxd317_5_0 {S0 : Nat → Int → Int} {ws : List Int} {S : Nat → Int → Int} {parts k : Int} (hP : rxP317 S0 ws) (hin : bx_same rxL (bx_mdl rxC317.2.2.1) S0 S) (hin2 : bx_same rxL (bx_mdl rxC317.2.2.1) S S) (I0 : bx_Inv rxL S) (I1 : bx_Inv rxL S) (hinv : rxI317_5 S0 ws S parts k) (l8 : 1 ≤ parts) (u8 : parts ≤ 6) (l9 : (-1) ≤ k) (u9 : k ≤ (-1)) : (True) ∧ rxPS317 S0 ws S none := by
  exact ⟨trivial, trivial⟩
theorem rxf317_5_0 {X : (Nat → Int → Int) → Prop} {S0 : Nat → Int → Int} {ws : List Int} (hP : rxP317 S0 ws) : bx_obE rxL X S0 rxC317.2.2.1 (rxI317 S0 ws) (rxPS317 S0 ws) 5 rxz317_5 rxe317_5_0 := by
  intro S S_p r r_p hinv hX hin hsm_ hseg
  obtain ⟨I0, I1, h0_, hr_, b_, f_, d_⟩ := bx_cl (evs := []) (fvs := []) hseg (by decide +kernel) (by decide +kernel)
  have hinv : rxI317_5 S0 ws S (r 8) (r 9) := hinv
  rw [← hr_ 8 (by decide), ← hr_ 9 (by decide)] at hinv
  obtain ⟨⟨l8, u8⟩, ⟨l9, u9⟩, -⟩ := b_
  have w_ := d_
  subst w_
  have g := rxd317_5_0 hP hin hsm_ I0 I1 hinv l8 u8 l9 u9
  refine ⟨bx_narP_ok (l := []) g.1, ?_⟩
  exact g.2
theorem rxc317_6_0 {S0 : Nat → Int → Int} {ws : List Int} {S : Nat → Int → Int} {parts k k2 q x12 x13 : Int} (hP : rxP317 S0 ws) (hin : bx_same rxL (bx_mdl rxC317.2.2.1) S0 S) (I0 : bx_Inv rxL S) (hinv : rxI317_6 S0 ws S parts k k2 q) (l8 : 1 ≤ parts) (u8 : parts ≤ 6) (l9 : 0 ≤ k) (u9 : k ≤ 5) (l10 : 0 ≤ k2) (u10 : k2 ≤ 5) (l11 : (-1) ≤ q) (u11 : q ≤ 7) (l12 : 0 ≤ x12) (u12 : x12 ≤ 8) (l13 : 0 ≤ x13) (u13 : x13 ≤ 8) (f0 : x13 ≤ x12) (e1 : (bx_up S 508 k2 (q + 1)) 508 k = x12) (e0 : (bx_up S 508 k2 (q + 1)) 482 1 = x13) : (True) ∧ (True) ∧ rxI317_5 S0 ws (bx_up S 508 k2 (q + 1)) parts (k + (-1)) ∧ rxm317_5 S0 ws (bx_up S 508 k2 (q + 1)) parts (k + (-1)) < rxm317_6 S0 ws S parts k k2 q := by
  obtain ⟨rfl, hq, h1, h2, h3⟩ := hinv
  have hne : ∀ j : Int, j ≠ k2 → bx_up S 508 k2 (q + 1) 508 j = S 508 j := fun j hj => bx_up_ne (by omega)
  refine ⟨trivial, trivial, ⟨by omega, fun j a b => ?_, fun a => ?_⟩, ?_⟩
  · rw [hne j (by omega)]
    exact h2 j a (by omega)
  · rw [hne (k2 + (-1)) (by omega)]
    have := h2 (k2 + (-1)) a (by omega)
    omega
  · unfold rxm317_5 rxm317_6
    by_cases hk : k2 + (-1) < 0
    · rw [if_pos hk]
      omega
    · rw [if_neg hk]
      have g1 := rxCast_pop (S := S) (k := k2) (by omega) (by omega) (by omega)
      have g2 := rxCast_hi (S := bx_up S 508 k2 (q + 1)) (k := k2 + (-1)) (by omega) (by omega) (fun j a b => by rw [hne j (by omega)]; exact h2 j a (by omega)) (by rw [hne _ (by omega)]; exact (h2 _ (by omega) (by omega)).2)
      rw [← hq] at g1
      omega
theorem rxg317_6_0 {X : (Nat → Int → Int) → Prop} {S0 : Nat → Int → Int} {ws : List Int} (hP : rxP317 S0 ws) : bx_obC rxL X S0 rxC317.2.2.1 (rxI317 S0 ws) (rxm317 S0 ws) 6 rxz317_6 rxo317_6_0 := by
  intro S S_p r r_p hinv hX hin hsm_ hseg
  obtain ⟨I0, I1, h0_, hr_, b_, f_, d_⟩ := bx_cl (evs := [(0, (0, 482), (0, 1), .inr (0, (13, 0))), (0, (0, 508), (9, 0), .inr (0, (12, 0))), (1, (0, 508), (10, 0), .inr (0, (11, 1)))]) (fvs := [(1, (13, 0), (12, 0), (0, 0))]) hseg (by decide +kernel) (by decide +kernel)
  have hinv : rxI317_6 S0 ws S (r 8) (r 9) (r 10) (r 11) := hinv
  rw [← hr_ 8 (by decide), ← hr_ 9 (by decide), ← hr_ 10 (by decide), ← hr_ 11 (by decide)] at hinv
  obtain ⟨⟨l8, u8⟩, ⟨l9, u9⟩, ⟨l10, u10⟩, ⟨l11, u11⟩, ⟨l12, u12⟩, ⟨l13, u13⟩, -⟩ := b_
  obtain ⟨f0, -⟩ := f_
  obtain ⟨e0, ⟨e1, ⟨T2, w_, w2⟩⟩⟩ := d_
  subst w2
  subst w_
  have g := rxc317_6_0 hP hin I0 hinv l8 u8 l9 u9 l10 u10 l11 u11 l12 u12 l13 u13 f0 e1 e0
  refine ⟨bx_narP_ok (l := []) g.1, bx_nfP_ok h0_ (fvs := []) (by decide +kernel) g.2.1, ?_, ?_⟩
  · show rxI317_5 S0 ws (bx_up T2 508 (r_p 10) (r_p 11 + 1)) (bx_val [(0, 0), (0, 0), (0, 0), (0, 0), (0, 0), (0, 0), (0, 0), (0, 0), (8, 0), (9, (-1))] r_p 8) (bx_val [(0, 0), (0, 0), (0, 0), (0, 0), (0, 0), (0, 0), (0, 0), (0, 0), (8, 0), (9, (-1))] r_p 9)
    rw [bx_val_x (n := 8) (e := (8, 0)) h0_ rfl, bx_val_x (n := 9) (e := (9, (-1))) h0_ rfl]
    exact g.2.2.1
  · show rxm317_5 S0 ws (bx_up T2 508 (r_p 10) (r_p 11 + 1)) (bx_val [(0, 0), (0, 0), (0, 0), (0, 0), (0, 0), (0, 0), (0, 0), (0, 0), (8, 0), (9, (-1))] r_p 8) (bx_val [(0, 0), (0, 0), (0, 0), (0, 0), (0, 0), (0, 0), (0, 0), (0, 0), (8, 0), (9, (-1))] r_p 9) < rxm317_6 S0 ws T2 (r 8) (r 9) (r 10) (r 11)
    rw [bx_val_x (n := 8) (e := (8, 0)) h0_ rfl, bx_val_x (n := 9) (e := (9, (-1))) h0_ rfl, ← hr_ 8 (by decide), ← hr_ 9 (by decide), ← hr_ 10 (by decide), ← hr_ 11 (by decide)]
    exact g.2.2.2
theorem rxc317_6_1 {S0 : Nat → Int → Int} {ws : List Int} {S : Nat → Int → Int} {parts k k2 q x12 x13 : Int} (hP : rxP317 S0 ws) (hin : bx_same rxL (bx_mdl rxC317.2.2.1) S0 S) (I0 : bx_Inv rxL S) (hinv : rxI317_6 S0 ws S parts k k2 q) (l8 : 1 ≤ parts) (u8 : parts ≤ 6) (l9 : 0 ≤ k) (u9 : k ≤ 5) (l10 : 0 ≤ k2) (u10 : k2 ≤ 5) (l11 : (-1) ≤ q) (u11 : q ≤ 7) (l12 : (-1) ≤ x12) (u12 : x12 ≤ 7) (l13 : 0 ≤ x13) (u13 : x13 ≤ 8) (f0 : x12 < x13) (e1 : (bx_up S 508 k2 (q + 1)) 508 k = x12) (e0 : (bx_up S 508 k2 (q + 1)) 482 1 = x13) : (True) ∧ (True) ∧ rxI317_7 S0 ws (bx_up S 508 k2 (q + 1)) parts k k ∧ rxm317_7 S0 ws (bx_up S 508 k2 (q + 1)) parts k k < rxm317_6 S0 ws S parts k k2 q := by
  obtain ⟨rfl, hq, h1, h2, h3⟩ := hinv
  have hne : ∀ j : Int, j ≠ k2 → bx_up S 508 k2 (q + 1) 508 j = S 508 j := fun j hj => bx_up_ne (by omega)
  have he : bx_up S 508 k2 (q + 1) 508 k2 = q + 1 := bx_up_at
  have g1 := rxCast_inc (S := S) (k := k2) (by omega) (by omega)
  rw [← hq] at g1
  refine ⟨trivial, trivial, ⟨rfl, by omega, by omega, fun j a b => ?_, fun a => ⟨by omega, by omega⟩⟩, ?_⟩
  · rw [hne j (by omega)]
    exact h2 j a b
  · unfold rxm317_6 rxm317_7
    rw [g1]
    omega
theorem rxg317_6_1 {X : (Nat → Int → Int) → Prop} {S0 : Nat → Int → Int} {ws : List Int} (hP : rxP317 S0 ws) : bx_obC rxL X S0 rxC317.2.2.1 (rxI317 S0 ws) (rxm317 S0 ws) 6 rxz317_6 rxo317_6_1 := by
  intro S S_p r r_p hinv hX hin hsm_ hseg
  obtain ⟨I0, I1, h0_, hr_, b_, f_, d_⟩ := bx_cl (evs := [(0, (0, 482), (0, 1), .inr (0, (13, 0))), (0, (0, 508), (9, 0), .inr (0, (12, 0))), (1, (0, 508), (10, 0), .inr (0, (11, 1)))]) (fvs := [(0, (12, 0), (13, 0), (0, 0))]) hseg (by decide +kernel) (by decide +kernel)
  have hinv : rxI317_6 S0 ws S (r 8) (r 9) (r 10) (r 11) := hinv
  rw [← hr_ 8 (by decide), ← hr_ 9 (by decide), ← hr_ 10 (by decide), ← hr_ 11 (by decide)] at hinv
  obtain ⟨⟨l8, u8⟩, ⟨l9, u9⟩, ⟨l10, u10⟩, ⟨l11, u11⟩, ⟨l12, u12⟩, ⟨l13, u13⟩, -⟩ := b_
  obtain ⟨f0, -⟩ := f_
  obtain ⟨e0, ⟨e1, ⟨T2, w_, w2⟩⟩⟩ := d_
  subst w2
  subst w_
  have g := rxc317_6_1 hP hin I0 hinv l8 u8 l9 u9 l10 u10 l11 u11 l12 u12 l13 u13 f0 e1 e0
  refine ⟨bx_narP_ok (l := []) g.1, bx_nfP_ok h0_ (fvs := []) (by decide +kernel) g.2.1, ?_, ?_⟩
  · show rxI317_7 S0 ws (bx_up T2 508 (r_p 10) (r_p 11 + 1)) (bx_val [(0, 0), (0, 0), (0, 0), (0, 0), (0, 0), (0, 0), (0, 0), (0, 0), (8, 0), (9, 0), (9, 0)] r_p 8) (bx_val [(0, 0), (0, 0), (0, 0), (0, 0), (0, 0), (0, 0), (0, 0), (0, 0), (8, 0), (9, 0), (9, 0)] r_p 9) (bx_val [(0, 0), (0, 0), (0, 0), (0, 0), (0, 0), (0, 0), (0, 0), (0, 0), (8, 0), (9, 0), (9, 0)] r_p 10)
    rw [bx_val_x (n := 8) (e := (8, 0)) h0_ rfl, bx_val_x (n := 9) (e := (9, 0)) h0_ rfl, bx_val_x (n := 10) (e := (9, 0)) h0_ rfl]
    exact g.2.2.1
  · show rxm317_7 S0 ws (bx_up T2 508 (r_p 10) (r_p 11 + 1)) (bx_val [(0, 0), (0, 0), (0, 0), (0, 0), (0, 0), (0, 0), (0, 0), (0, 0), (8, 0), (9, 0), (9, 0)] r_p 8) (bx_val [(0, 0), (0, 0), (0, 0), (0, 0), (0, 0), (0, 0), (0, 0), (0, 0), (8, 0), (9, 0), (9, 0)] r_p 9) (bx_val [(0, 0), (0, 0), (0, 0), (0, 0), (0, 0), (0, 0), (0, 0), (0, 0), (8, 0), (9, 0), (9, 0)] r_p 10) < rxm317_6 S0 ws T2 (r 8) (r 9) (r 10) (r 11)
    rw [bx_val_x (n := 8) (e := (8, 0)) h0_ rfl, bx_val_x (n := 9) (e := (9, 0)) h0_ rfl, bx_val_x (n := 10) (e := (9, 0)) h0_ rfl, ← hr_ 8 (by decide), ← hr_ 9 (by decide), ← hr_ 10 (by decide), ← hr_ 11 (by decide)]
    exact g.2.2.2
theorem rxc317_8_0 {S0 : Nat → Int → Int} {ws : List Int} {S : Nat → Int → Int} {parts k a can : Int} (hP : rxP317 S0 ws) (hin : bx_same rxL (bx_mdl rxC317.2.2.1) S0 S) (I0 : bx_Inv rxL S) (hinv : rxI317_8 S0 ws S parts k a can) (l8 : 1 ≤ parts) (u8 : parts ≤ 6) (l9 : 0 ≤ k) (u9 : k ≤ 5) (l10 : 0 ≤ a) (u10 : a ≤ 5) (l11 : 1 ≤ can) (u11 : can ≤ 1) (f0 : k = parts + (-1)) (f1 : can ≠ 0) : (True) ∧ (True) ∧ rxI317_9 S0 ws S parts k parts ∧ rxm317_9 S0 ws S parts k parts < rxm317_8 S0 ws S parts k a can := by
  exact ⟨trivial, trivial, hinv, by unfold rxm317_8 rxm317_9; omega⟩
theorem rxg317_8_0 {X : (Nat → Int → Int) → Prop} {S0 : Nat → Int → Int} {ws : List Int} (hP : rxP317 S0 ws) : bx_obC rxL X S0 rxC317.2.2.1 (rxI317 S0 ws) (rxm317 S0 ws) 8 rxz317_8 rxo317_8_0 := by
  intro S S_p r r_p hinv hX hin hsm_ hseg
  obtain ⟨I0, I1, h0_, hr_, b_, f_, d_⟩ := bx_cl (evs := []) (fvs := [(2, (9, 0), (8, (-1)), (0, 0)), (3, (11, 0), (0, 0), (0, 0))]) hseg (by decide +kernel) (by decide +kernel)
  have hinv : rxI317_8 S0 ws S (r 8) (r 9) (r 10) (r 11) := hinv
  rw [← hr_ 8 (by decide), ← hr_ 9 (by decide), ← hr_ 10 (by decide), ← hr_ 11 (by decide)] at hinv
  obtain ⟨⟨l8, u8⟩, ⟨l9, u9⟩, ⟨l10, u10⟩, ⟨l11, u11⟩, -⟩ := b_
  obtain ⟨f0, f1, -⟩ := f_
  have w_ := d_
  subst w_
  have g := rxc317_8_0 hP hin I0 hinv l8 u8 l9 u9 l10 u10 l11 u11 f0 f1
  refine ⟨bx_narP_ok (l := []) g.1, bx_nfP_ok h0_ (fvs := []) (by decide +kernel) g.2.1, ?_, ?_⟩
  · show rxI317_9 S0 ws S_p (bx_val [(0, 0), (0, 0), (0, 0), (0, 0), (0, 0), (0, 0), (0, 0), (0, 0), (8, 0), (9, 0), (8, 0)] r_p 8) (bx_val [(0, 0), (0, 0), (0, 0), (0, 0), (0, 0), (0, 0), (0, 0), (0, 0), (8, 0), (9, 0), (8, 0)] r_p 9) (bx_val [(0, 0), (0, 0), (0, 0), (0, 0), (0, 0), (0, 0), (0, 0), (0, 0), (8, 0), (9, 0), (8, 0)] r_p 10)
    rw [bx_val_x (n := 8) (e := (8, 0)) h0_ rfl, bx_val_x (n := 9) (e := (9, 0)) h0_ rfl, bx_val_x (n := 10) (e := (8, 0)) h0_ rfl]
    exact g.2.2.1
  · show rxm317_9 S0 ws S_p (bx_val [(0, 0), (0, 0), (0, 0), (0, 0), (0, 0), (0, 0), (0, 0), (0, 0), (8, 0), (9, 0), (8, 0)] r_p 8) (bx_val [(0, 0), (0, 0), (0, 0), (0, 0), (0, 0), (0, 0), (0, 0), (0, 0), (8, 0), (9, 0), (8, 0)] r_p 9) (bx_val [(0, 0), (0, 0), (0, 0), (0, 0), (0, 0), (0, 0), (0, 0), (0, 0), (8, 0), (9, 0), (8, 0)] r_p 10) < rxm317_8 S0 ws S_p (r 8) (r 9) (r 10) (r 11)
    rw [bx_val_x (n := 8) (e := (8, 0)) h0_ rfl, bx_val_x (n := 9) (e := (9, 0)) h0_ rfl, bx_val_x (n := 10) (e := (8, 0)) h0_ rfl, ← hr_ 8 (by decide), ← hr_ 9 (by decide), ← hr_ 10 (by decide), ← hr_ 11 (by decide)]
    exact g.2.2.2
theorem rxc317_8_1 {S0 : Nat → Int → Int} {ws : List Int} {S : Nat → Int → Int} {parts k a can : Int} (hP : rxP317 S0 ws) (hin : bx_same rxL (bx_mdl rxC317.2.2.1) S0 S) (I0 : bx_Inv rxL S) (hinv : rxI317_8 S0 ws S parts k a can) (l8 : 1 ≤ parts) (u8 : parts ≤ 6) (l9 : 0 ≤ k) (u9 : k ≤ 5) (l10 : 0 ≤ a) (u10 : a ≤ 5) (l11 : 1 ≤ can) (u11 : can ≤ 1) (f0 : k ≠ parts + (-1)) (f1 : can ≠ 0) : ((0 ≤ k ∧ k ≤ 4) ∧ True) ∧ (True) ∧ rxI317_11 S0 ws S parts k ∧ rxm317_11 S0 ws S parts k < rxm317_8 S0 ws S parts k a can := by
  obtain ⟨h0, h1, h2, h3⟩ := hinv
  exact ⟨⟨by omega, trivial⟩, trivial, ⟨by omega, h0, h1, h2, h3⟩, by unfold rxm317_8 rxm317_11; omega⟩
theorem rxg317_8_1 {X : (Nat → Int → Int) → Prop} {S0 : Nat → Int → Int} {ws : List Int} (hP : rxP317 S0 ws) : bx_obC rxL X S0 rxC317.2.2.1 (rxI317 S0 ws) (rxm317 S0 ws) 8 rxz317_8 rxo317_8_1 := by
  intro S S_p r r_p hinv hX hin hsm_ hseg
  obtain ⟨I0, I1, h0_, hr_, b_, f_, d_⟩ := bx_cl (evs := []) (fvs := [(3, (9, 0), (8, (-1)), (0, 0)), (3, (11, 0), (0, 0), (0, 0))]) hseg (by decide +kernel) (by decide +kernel)
  have hinv : rxI317_8 S0 ws S (r 8) (r 9) (r 10) (r 11) := hinv
  rw [← hr_ 8 (by decide), ← hr_ 9 (by decide), ← hr_ 10 (by decide), ← hr_ 11 (by decide)] at hinv
  obtain ⟨⟨l8, u8⟩, ⟨l9, u9⟩, ⟨l10, u10⟩, ⟨l11, u11⟩, -⟩ := b_
  obtain ⟨f0, f1, -⟩ := f_
  have w_ := d_
  subst w_
  have g := rxc317_8_1 hP hin I0 hinv l8 u8 l9 u9 l10 u10 l11 u11 f0 f1
  refine ⟨bx_narP_ok (l := [(9, 0, 4)]) g.1, bx_nfP_ok h0_ (fvs := []) (by decide +kernel) g.2.1, ?_, ?_⟩
  · show rxI317_11 S0 ws S_p (bx_val [(0, 0), (0, 0), (0, 0), (0, 0), (0, 0), (0, 0), (0, 0), (0, 0), (8, 0), (9, 0)] r_p 8) (bx_val [(0, 0), (0, 0), (0, 0), (0, 0), (0, 0), (0, 0), (0, 0), (0, 0), (8, 0), (9, 0)] r_p 9)
    rw [bx_val_x (n := 8) (e := (8, 0)) h0_ rfl, bx_val_x (n := 9) (e := (9, 0)) h0_ rfl]
    exact g.2.2.1
  · show rxm317_11 S0 ws S_p (bx_val [(0, 0), (0, 0), (0, 0), (0, 0), (0, 0), (0, 0), (0, 0), (0, 0), (8, 0), (9, 0)] r_p 8) (bx_val [(0, 0), (0, 0), (0, 0), (0, 0), (0, 0), (0, 0), (0, 0), (0, 0), (8, 0), (9, 0)] r_p 9) < rxm317_8 S0 ws S_p (r 8) (r 9) (r 10) (r 11)
    rw [bx_val_x (n := 8) (e := (8, 0)) h0_ rfl, bx_val_x (n := 9) (e := (9, 0)) h0_ rfl, ← hr_ 8 (by decide), ← hr_ 9 (by decide), ← hr_ 10 (by decide), ← hr_ 11 (by decide)]
    exact g.2.2.2
theorem rxc317_8_2 {S0 : Nat → Int → Int} {ws : List Int} {S : Nat → Int → Int} {parts k a can : Int} (hP : rxP317 S0 ws) (hin : bx_same rxL (bx_mdl rxC317.2.2.1) S0 S) (I0 : bx_Inv rxL S) (hinv : rxI317_8 S0 ws S parts k a can) (l8 : 1 ≤ parts) (u8 : parts ≤ 6) (l9 : 0 ≤ k) (u9 : k ≤ 5) (l10 : 0 ≤ a) (u10 : a ≤ 5) (l11 : 0 ≤ can) (u11 : can ≤ 0) : (True) ∧ (True) ∧ rxI317_5 S0 ws S parts k ∧ rxm317_5 S0 ws S parts k < rxm317_8 S0 ws S parts k a can := by
  obtain ⟨h0, h1, h2, h3⟩ := hinv
  refine ⟨trivial, trivial, ⟨h1, h2, h3⟩, ?_⟩
  have g1 := rxCast_next (S := S) (k := k) (by omega) (by omega)
  have g2 := rxCast_hi (S := S) (k := k) (by omega) (by omega) h2 (h3 l9).2
  unfold rxm317_5 rxm317_8
  rw [if_neg (by omega)]
  omega
theorem rxg317_8_2 {X : (Nat → Int → Int) → Prop} {S0 : Nat → Int → Int} {ws : List Int} (hP : rxP317 S0 ws) : bx_obC rxL X S0 rxC317.2.2.1 (rxI317 S0 ws) (rxm317 S0 ws) 8 rxz317_8 rxo317_8_2 := by
  intro S S_p r r_p hinv hX hin hsm_ hseg
  obtain ⟨I0, I1, h0_, hr_, b_, f_, d_⟩ := bx_cl (evs := []) (fvs := []) hseg (by decide +kernel) (by decide +kernel)
  have hinv : rxI317_8 S0 ws S (r 8) (r 9) (r 10) (r 11) := hinv
  rw [← hr_ 8 (by decide), ← hr_ 9 (by decide), ← hr_ 10 (by decide), ← hr_ 11 (by decide)] at hinv
  obtain ⟨⟨l8, u8⟩, ⟨l9, u9⟩, ⟨l10, u10⟩, ⟨l11, u11⟩, -⟩ := b_
  have w_ := d_
  subst w_
  have g := rxc317_8_2 hP hin I0 hinv l8 u8 l9 u9 l10 u10 l11 u11
  refine ⟨bx_narP_ok (l := []) g.1, bx_nfP_ok h0_ (fvs := []) (by decide +kernel) g.2.1, ?_, ?_⟩
  · show rxI317_5 S0 ws S_p (bx_val [(0, 0), (0, 0), (0, 0), (0, 0), (0, 0), (0, 0), (0, 0), (0, 0), (8, 0), (9, 0)] r_p 8) (bx_val [(0, 0), (0, 0), (0, 0), (0, 0), (0, 0), (0, 0), (0, 0), (0, 0), (8, 0), (9, 0)] r_p 9)
    rw [bx_val_x (n := 8) (e := (8, 0)) h0_ rfl, bx_val_x (n := 9) (e := (9, 0)) h0_ rfl]
    exact g.2.2.1
  · show rxm317_5 S0 ws S_p (bx_val [(0, 0), (0, 0), (0, 0), (0, 0), (0, 0), (0, 0), (0, 0), (0, 0), (8, 0), (9, 0)] r_p 8) (bx_val [(0, 0), (0, 0), (0, 0), (0, 0), (0, 0), (0, 0), (0, 0), (0, 0), (8, 0), (9, 0)] r_p 9) < rxm317_8 S0 ws S_p (r 8) (r 9) (r 10) (r 11)
    rw [bx_val_x (n := 8) (e := (8, 0)) h0_ rfl, bx_val_x (n := 9) (e := (9, 0)) h0_ rfl, ← hr_ 8 (by decide), ← hr_ 9 (by decide), ← hr_ 10 (by decide), ← hr_ 11 (by decide)]
    exact g.2.2.2
theorem rxc317_10_0 {S0 : Nat → Int → Int} {ws : List Int} {S : Nat → Int → Int} {parts k a : Int} (hP : rxP317 S0 ws) (hin : bx_same rxL (bx_mdl rxC317.2.2.1) S0 S) (I0 : bx_Inv rxL S) (hinv : rxI317_10 S0 ws S parts k a) (l8 : 1 ≤ parts) (u8 : parts ≤ 6) (l9 : 0 ≤ k) (u9 : k ≤ 5) (l10 : 1 ≤ a) (u10 : a ≤ 6) : (True) ∧ (True) ∧ rxI317_5 S0 ws S parts k ∧ rxm317_5 S0 ws S parts k < rxm317_10 S0 ws S parts k a := by
  obtain ⟨h0, h1, h2, h3⟩ := hinv
  refine ⟨trivial, trivial, ⟨h1, h2, h3⟩, ?_⟩
  have g1 := rxCast_next (S := S) (k := k) (by omega) (by omega)
  have g2 := rxCast_hi (S := S) (k := k) (by omega) (by omega) h2 (h3 l9).2
  unfold rxm317_5 rxm317_10
  rw [if_neg (by omega)]
  omega
theorem rxg317_10_0 {X : (Nat → Int → Int) → Prop} {S0 : Nat → Int → Int} {ws : List Int} (hP : rxP317 S0 ws) : bx_obC rxL X S0 rxC317.2.2.1 (rxI317 S0 ws) (rxm317 S0 ws) 10 rxz317_10 rxo317_10_0 := by
  intro S S_p r r_p hinv hX hin hsm_ hseg
  obtain ⟨I0, I1, h0_, hr_, b_, f_, d_⟩ := bx_cl (evs := []) (fvs := []) hseg (by decide +kernel) (by decide +kernel)
  have hinv : rxI317_10 S0 ws S (r 8) (r 9) (r 10) := hinv
  rw [← hr_ 8 (by decide), ← hr_ 9 (by decide), ← hr_ 10 (by decide)] at hinv
  obtain ⟨⟨l8, u8⟩, ⟨l9, u9⟩, ⟨l10, u10⟩, -⟩ := b_
  have w_ := d_
  subst w_
  have g := rxc317_10_0 hP hin I0 hinv l8 u8 l9 u9 l10 u10
  refine ⟨bx_narP_ok (l := []) g.1, bx_nfP_ok h0_ (fvs := []) (by decide +kernel) g.2.1, ?_, ?_⟩
  · show rxI317_5 S0 ws S_p (bx_val [(0, 0), (0, 0), (0, 0), (0, 0), (0, 0), (0, 0), (0, 0), (0, 0), (8, 0), (9, 0)] r_p 8) (bx_val [(0, 0), (0, 0), (0, 0), (0, 0), (0, 0), (0, 0), (0, 0), (0, 0), (8, 0), (9, 0)] r_p 9)
    rw [bx_val_x (n := 8) (e := (8, 0)) h0_ rfl, bx_val_x (n := 9) (e := (9, 0)) h0_ rfl]
    exact g.2.2.1
  · show rxm317_5 S0 ws S_p (bx_val [(0, 0), (0, 0), (0, 0), (0, 0), (0, 0), (0, 0), (0, 0), (0, 0), (8, 0), (9, 0)] r_p 8) (bx_val [(0, 0), (0, 0), (0, 0), (0, 0), (0, 0), (0, 0), (0, 0), (0, 0), (8, 0), (9, 0)] r_p 9) < rxm317_10 S0 ws S_p (r 8) (r 9) (r 10)
    rw [bx_val_x (n := 8) (e := (8, 0)) h0_ rfl, bx_val_x (n := 9) (e := (9, 0)) h0_ rfl, ← hr_ 8 (by decide), ← hr_ 9 (by decide), ← hr_ 10 (by decide)]
    exact g.2.2.2
theorem rxc317_11_0 {S0 : Nat → Int → Int} {ws : List Int} {S : Nat → Int → Int} {parts k : Int} (hP : rxP317 S0 ws) (hin : bx_same rxL (bx_mdl rxC317.2.2.1) S0 S) (I0 : bx_Inv rxL S) (hinv : rxI317_11 S0 ws S parts k) (l8 : 1 ≤ parts) (u8 : parts ≤ 6) (l9 : 0 ≤ k) (u9 : k ≤ 4) : (True) ∧ (True) ∧ rxI317_5 S0 ws (bx_up S 508 (k + 1) ((-1))) parts (k + 1) ∧ rxm317_5 S0 ws (bx_up S 508 (k + 1) ((-1))) parts (k + 1) < rxm317_11 S0 ws S parts k := by
  obtain ⟨hk, h0, h1, h2, h3⟩ := hinv
  have hne : ∀ j : Int, j ≠ k + 1 → bx_up S 508 (k + 1) (-1) 508 j = S 508 j := fun j hj => bx_up_ne (by omega)
  refine ⟨trivial, trivial, ⟨by omega, fun j a b => ?_, fun a => ?_⟩, ?_⟩
  · rw [hne j (by omega)]
    by_cases hj : j = k
    · subst hj
      exact ⟨h0, (h3 a).2⟩
    · exact h2 j a (by omega)
  · rw [bx_up_at]
    omega
  · unfold rxm317_5 rxm317_11
    rw [if_neg (by omega), rxCast_push (S := S) l9 (by omega)]
    omega
theorem rxg317_11_0 {X : (Nat → Int → Int) → Prop} {S0 : Nat → Int → Int} {ws : List Int} (hP : rxP317 S0 ws) : bx_obC rxL X S0 rxC317.2.2.1 (rxI317 S0 ws) (rxm317 S0 ws) 11 rxz317_11 rxo317_11_0 := by
  intro S S_p r r_p hinv hX hin hsm_ hseg
  obtain ⟨I0, I1, h0_, hr_, b_, f_, d_⟩ := bx_cl (evs := [(1, (0, 508), (9, 1), .inr (0, (0, (-1))))]) (fvs := []) hseg (by decide +kernel) (by decide +kernel)
  have hinv : rxI317_11 S0 ws S (r 8) (r 9) := hinv
  rw [← hr_ 8 (by decide), ← hr_ 9 (by decide)] at hinv
  obtain ⟨⟨l8, u8⟩, ⟨l9, u9⟩, -⟩ := b_
  obtain ⟨T0, w_, w0⟩ := d_
  subst w0
  subst w_
  have g := rxc317_11_0 hP hin I0 hinv l8 u8 l9 u9
  refine ⟨bx_narP_ok (l := []) g.1, bx_nfP_ok h0_ (fvs := []) (by decide +kernel) g.2.1, ?_, ?_⟩
  · show rxI317_5 S0 ws (bx_up T0 508 (r_p 9 + 1) ((-1))) (bx_val [(0, 0), (0, 0), (0, 0), (0, 0), (0, 0), (0, 0), (0, 0), (0, 0), (8, 0), (9, 1)] r_p 8) (bx_val [(0, 0), (0, 0), (0, 0), (0, 0), (0, 0), (0, 0), (0, 0), (0, 0), (8, 0), (9, 1)] r_p 9)
    rw [bx_val_x (n := 8) (e := (8, 0)) h0_ rfl, bx_val_x (n := 9) (e := (9, 1)) h0_ rfl]
    exact g.2.2.1
  · show rxm317_5 S0 ws (bx_up T0 508 (r_p 9 + 1) ((-1))) (bx_val [(0, 0), (0, 0), (0, 0), (0, 0), (0, 0), (0, 0), (0, 0), (0, 0), (8, 0), (9, 1)] r_p 8) (bx_val [(0, 0), (0, 0), (0, 0), (0, 0), (0, 0), (0, 0), (0, 0), (0, 0), (8, 0), (9, 1)] r_p 9) < rxm317_11 S0 ws T0 (r 8) (r 9)
    rw [bx_val_x (n := 8) (e := (8, 0)) h0_ rfl, bx_val_x (n := 9) (e := (9, 1)) h0_ rfl, ← hr_ 8 (by decide), ← hr_ 9 (by decide)]
    exact g.2.2.2
theorem rxgC317 {X : (Nat → Int → Int) → Prop} {S0 : Nat → Int → Int} {ws : List Int} (hP : rxP317 S0 ws) : bx_allI (fun i q => rxU317 q = true ∨ bx_allP (fun o => bx_obC rxL X S0 rxC317.2.2.1 (rxI317 S0 ws) (rxm317 S0 ws) i q.1 o) q.2.1) 0 rxY317 := ⟨Or.inr ⟨rxg317_0_0 hP, trivial⟩, Or.inr ⟨rxg317_1_0 hP, rxg317_1_1 hP, rxg317_1_2 hP, rxg317_1_3 hP, rxg317_1_4 hP, rxg317_1_5 hP, rxg317_1_6 hP, rxg317_1_7 hP, trivial⟩, Or.inr ⟨rxg317_2_0 hP, trivial⟩, Or.inl rfl, Or.inr trivial, Or.inr ⟨rxg317_5_0 hP, trivial⟩, Or.inr ⟨rxg317_6_0 hP, rxg317_6_1 hP, trivial⟩, Or.inl rfl, Or.inr ⟨rxg317_8_0 hP, rxg317_8_1 hP, rxg317_8_2 hP, trivial⟩, Or.inl rfl, Or.inr ⟨rxg317_10_0 hP, trivial⟩, Or.inr ⟨rxg317_11_0 hP, trivial⟩, trivial⟩
theorem rxgE317 {X : (Nat → Int → Int) → Prop} {S0 : Nat → Int → Int} {ws : List Int} (hP : rxP317 S0 ws) : bx_allI (fun i q => rxU317 q = true ∨ bx_allP (fun E => bx_obE rxL X S0 rxC317.2.2.1 (rxI317 S0 ws) (rxPS317 S0 ws) i q.1 E) q.2.2) 0 rxY317 := ⟨Or.inr trivial, Or.inr trivial, Or.inr trivial, Or.inl rfl, Or.inr ⟨rxf317_4_0 hP, trivial⟩, Or.inr ⟨rxf317_5_0 hP, trivial⟩, Or.inr trivial, Or.inl rfl, Or.inr trivial, Or.inl rfl, Or.inr trivial, Or.inr trivial, trivial⟩
theorem rxu317 {PX : State → Prop} {Dg : va_G} {A : Nat → Prop} {ad xa : Nat → Nat} {l : Launch} {X : (Nat → Int → Int) → Prop} (hPX : rx_PXOK rxNW A PX) (hX : ∀ S S1 : Nat → Int → Int, X S → bx_same rxL (bx_mdl rxC317.2.2.1) S S1 → X S1) (hQKC : bx_ConP rxG rxNW rxAO PX Dg rxL X vwCl A ad l rxM315 rxCKC rxPKC rxPSKC) (hQCP : bx_ConP rxG rxNW rxAO PX Dg rxL X vwCl A ad l rxM316 rxCCP rxPCP rxPSCP) {S0 : Nat → Int → Int} {ws : List Int} (hP : rxP317 S0 ws) : ∀ (i : Nat) (q : bx_HE), rxY317[i]? = some q → rxU317 q = true → ∀ {p : Program} {e : Env} {R : Room} {s : State} {m : MethodId} {args : Array Value} {below : List Frame} {meth : Method} {c : Code} {Q : State → Prop} {H0 : Heap}, rx_Fr rxG rxNW rxAO PX p s m args meth c rxM317 → (∀ q, H0.size ≤ q → A q) → H0 = s.heap → rxM317.2.2.2.2.2.2.1 ≤ R.cells → rxM317.2.2.2.2.2.2.2 ≤ R.slots → rxC317.2.2.2.1 ≤ R.frames → rxC317.2.2.2.1 * 40 ≤ R.locals → bx_Step p l e R s m args below meth c Q Dg rxL X vwCl A xa H0 ad rxM317 rxY317 (rxI317 S0 ws) (rxm317 S0 ws) S0 rxC317.2.2.1 i q := by
  intro i q hq hus p e R s m args below meth c Q H0 hF hA hH0 hmc hms hd hdl
  match i, hq with
  | 0, hq =>
    cases hq
    exact absurd (show false = true from hus) Bool.false_ne_true
  | 1, hq =>
    cases hq
    exact absurd (show false = true from hus) Bool.false_ne_true
  | 2, hq =>
    cases hq
    exact absurd (show false = true from hus) Bool.false_ne_true
  | 3, hq =>
    cases hq
    exact rx_stepC (ins := .invokevirtual 568) (len := 3) (i_p := 4) (M_p := rxM315) (d := rxC317.2.2.2.1) (as := [.inr (3, (0, 480)), .inr (0, (0, 0))]) (t := []) (ct := rxCKC) hPX hF rfl hA hH0 hmc hms hd hdl (by decide +kernel) rfl rfl (by decide +kernel) (by decide +kernel) hQKC (by decide +kernel) rfl (Or.inl ⟨rfl, rfl, rfl⟩) (rxs317_3 hP)
  | 4, hq =>
    cases hq
    exact absurd (show false = true from hus) Bool.false_ne_true
  | 5, hq =>
    cases hq
    exact absurd (show false = true from hus) Bool.false_ne_true
  | 6, hq =>
    cases hq
    exact absurd (show false = true from hus) Bool.false_ne_true
  | 7, hq =>
    cases hq
    exact rx_stepC (ins := .invokevirtual 571) (len := 3) (i_p := 8) (M_p := rxM316) (d := rxC317.2.2.2.1) (as := [.inr (3, (0, 480)), .inr (0, (10, 0))]) (t := []) (ct := rxCCP) hPX hF rfl hA hH0 hmc hms hd hdl (by decide +kernel) rfl rfl (by decide +kernel) (by decide +kernel) hQCP (by decide +kernel) rfl (Or.inr ⟨_, _, _, 1, rfl, rfl, by omega, rfl, rfl, rfl⟩) (rxs317_7 hP)
  | 8, hq =>
    cases hq
    exact absurd (show false = true from hus) Bool.false_ne_true
  | 9, hq =>
    cases hq
    exact rx_stepC (ins := .invokevirtual 568) (len := 3) (i_p := 10) (M_p := rxM315) (d := rxC317.2.2.2.1) (as := [.inr (3, (0, 480)), .inr (0, (10, 0))]) (t := []) (ct := rxCKC) hPX hF rfl hA hH0 hmc hms hd hdl (by decide +kernel) rfl rfl (by decide +kernel) (by decide +kernel) hQKC (by decide +kernel) rfl (Or.inl ⟨rfl, rfl, rfl⟩) (rxs317_9 hP)
  | 10, hq =>
    cases hq
    exact absurd (show false = true from hus) Bool.false_ne_true
  | 11, hq =>
    cases hq
    exact absurd (show false = true from hus) Bool.false_ne_true
  | n + 12, hq => cases hq
theorem rxQ317 {PX : State → Prop} {Dg : va_G} {A : Nat → Prop} {ad xa : Nat → Nat} {l : Launch} {X : (Nat → Int → Int) → Prop} (hPX : rx_PXOK rxNW A PX) (hsl : ∀ s : State, PX s → ∀ o idx n : Nat, rxSl o idx = some n → ∃ tx : String, vk_R (rxNm o) idx tx (ad n) s)
    (hX : ∀ S S_p : Nat → Int → Int, X S → bx_same rxL (bx_mdl rxC317.2.2.1) S S_p → X S_p)
    (ih : ∀ (j2 : Nat) (ct2 : bx_Ct) (M2 : rx_Mt), ct2 ∈ rxCn j2 → ct2.2.2.2.1 + 1 ≤ rxC317.2.2.2.1 → rxT.2.2.2.2.2 j2 = some M2 → bx_Con rxG rxNW rxAO PX Dg rxL X vwCl A ad l M2 ct2) (hQKC : bx_ConP rxG rxNW rxAO PX Dg rxL X vwCl A ad l rxM315 rxCKC rxPKC rxPSKC) (hQCP : bx_ConP rxG rxNW rxAO PX Dg rxL X vwCl A ad l rxM316 rxCCP rxPCP rxPSCP) : bx_ConP rxG rxNW rxAO PX Dg rxL X vwCl A ad l rxM317 rxC317 rxP317 rxPS317 :=
  rxQof (xa := xa) (Cn := rxCn) (f := 30000) (j := 317) (tab := rxY317) (us := rxU317) hPX hsl hX ih rfl rxYc317 rxI317 rxm317
    (fun S0 ws r I0 I ht0 ht as he he1 hX0 hI0 hP hs ha => by
      have e := he.symm.trans (show bx_ent0 rxNP rxC317.1 bx_I0 [] = some ([(0, 0), (0, 0), (0, 0), (0, 0), (0, 0), (0, 0), (0, 0), (0, 0)], [], [.inr (3, (0, 480))]) from rfl)
      cases e
      subst ha
      have h0 : r 0 = 0 := hs.1
      show rxI317_0 S0 _ S0
      refine ⟨rfl, ?_⟩
      simp only [List.map_cons, List.map_nil, bx_xv_ok h0]
      rfl)
    (fun S0 ws hP => rxu317 (xa := xa) hPX hX hQKC hQCP hP) (fun S0 ws hP => rxgC317 hP) (fun S0 ws hP => rxgE317 hP)
