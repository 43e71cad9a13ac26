noncomputable def rxIBGX_0 (S0 : Nat → Int → Int) (ws : List Int) (S : Nat → Int → Int) (pa ps : Int) : Prop := S = S0 ∧ ws = [0, pa, ps]
noncomputable def rxmBGX_0 (S0 : Nat → Int → Int) (ws : List Int) (S : Nat → Int → Int) (pa ps : Int) : Nat := rxm253_0 S0 ws S pa ps
noncomputable def rxzBGX_0 : rx_Z := ([(0, 0), (0, 0), (0, 0), (0, 0), (0, 0), (0, 0), (0, 0), (0, 0), ((-2147483648), 2147483647), ((-2147483648), 2147483647)], [], [], 0, 0, 0, [(0, .inr (3, (0, 0))), (1, .inr (0, (8, 0))), (2, .inr (0, (9, 0)))], [])
noncomputable def rxIBGX_1 (S0 : Nat → Int → Int) (ws : List Int) (S : Nat → Int → Int) (pa ps : Int) : Prop := rxI253_1 S0 ws S pa ps
noncomputable def rxmBGX_1 (S0 : Nat → Int → Int) (ws : List Int) (S : Nat → Int → Int) (pa ps : Int) : Nat := rxm253_1 S0 ws S pa ps
noncomputable def rxzBGX_1 : rx_Z := ([(0, 0), (0, 0), (0, 0), (0, 0), (0, 0), (0, 0), (0, 0), (0, 0), ((-2147483648), 2147483647), ((-2147483648), 2147483647)], [], [], 0, 0, 28, [(0, .inr (3, (0, 0))), (1, .inr (0, (8, 0))), (2, .inr (0, (9, 0)))], [.inr (0, (0, (-2))), .inr (3, (0, 0))])
noncomputable def rxIBGX_2 (S0 : Nat → Int → Int) (ws : List Int) (S : Nat → Int → Int) (pa ps res : Int) : Prop := rxI253_2 S0 ws S pa ps res
noncomputable def rxmBGX_2 (S0 : Nat → Int → Int) (ws : List Int) (S : Nat → Int → Int) (pa ps res : Int) : Nat := rxm253_2 S0 ws S pa ps res
noncomputable def rxzBGX_2 : rx_Z := ([(0, 0), (0, 0), (0, 0), (0, 0), (0, 0), (0, 0), (0, 0), (0, 0), ((-2147483648), 2147483647), ((-2147483648), 2147483647), ((-6), (-1))], [], [], 0, 0, 31, [(0, .inr (3, (0, 0))), (1, .inr (0, (8, 0))), (2, .inr (0, (9, 0)))], [.inr (0, (10, 0))])
noncomputable def rxIBGX_3 (S0 : Nat → Int → Int) (ws : List Int) (S : Nat → Int → Int) (pa ps : Int) : Prop := rxI253_3 S0 ws S pa ps
noncomputable def rxmBGX_3 (S0 : Nat → Int → Int) (ws : List Int) (S : Nat → Int → Int) (pa ps : Int) : Nat := rxm253_3 S0 ws S pa ps
noncomputable def rxzBGX_3 : rx_Z := ([(0, 0), (0, 0), (0, 0), (0, 0), (0, 0), (0, 0), (0, 0), (0, 0), (0, 5), (0, 7)], [], [], 0, 0, 38, [(0, .inr (3, (0, 0))), (1, .inr (0, (8, 0))), (2, .inr (0, (9, 0)))], [.inr (0, (9, 0)), .inr (0, (8, 0)), .inr (3, (0, 1))])
noncomputable def rxIBGX_4 (S0 : Nat → Int → Int) (ws : List Int) (S : Nat → Int → Int) (pa ps r : Int) : Prop := rxI253_4 S0 ws S pa ps r
noncomputable def rxmBGX_4 (S0 : Nat → Int → Int) (ws : List Int) (S : Nat → Int → Int) (pa ps r : Int) : Nat := rxm253_4 S0 ws S pa ps r
noncomputable def rxzBGX_4 : rx_Z := ([(0, 0), (0, 0), (0, 0), (0, 0), (0, 0), (0, 0), (0, 0), (0, 0), (0, 5), (0, 7), (0, 1)], [], [], 0, 0, 41, [(0, .inr (3, (0, 0))), (1, .inr (0, (8, 0))), (2, .inr (0, (9, 0)))], [.inr (0, (10, 0))])
noncomputable def rxIBGX_5 (S0 : Nat → Int → Int) (ws : List Int) (S : Nat → Int → Int) (pa ps : Int) : Prop := rxI253_5 S0 ws S pa ps
noncomputable def rxmBGX_5 (S0 : Nat → Int → Int) (ws : List Int) (S : Nat → Int → Int) (pa ps : Int) : Nat := rxm253_5 S0 ws S pa ps
noncomputable def rxzBGX_5 : rx_Z := ([(0, 0), (0, 0), (0, 0), (0, 0), (0, 0), (0, 0), (0, 0), (0, 0), (0, 5), (0, 7)], [], [], 0, 0, 47, [(0, .inr (3, (0, 0))), (1, .inr (0, (8, 0))), (2, .inr (0, (9, 0)))], [.inr (0, (0, (-3))), .inr (3, (0, 0))])
noncomputable def rxIBGX_6 (S0 : Nat → Int → Int) (ws : List Int) (S : Nat → Int → Int) (pa ps res : Int) : Prop := rxI253_6 S0 ws S pa ps res
noncomputable def rxmBGX_6 (S0 : Nat → Int → Int) (ws : List Int) (S : Nat → Int → Int) (pa ps res : Int) : Nat := rxm253_6 S0 ws S pa ps res
noncomputable def rxzBGX_6 : rx_Z := ([(0, 0), (0, 0), (0, 0), (0, 0), (0, 0), (0, 0), (0, 0), (0, 0), (0, 5), (0, 7), ((-6), (-1))], [], [], 0, 0, 50, [(0, .inr (3, (0, 0))), (1, .inr (0, (8, 0))), (2, .inr (0, (9, 0)))], [.inr (0, (10, 0))])
noncomputable def rxIBGX_7 (S0 : Nat → Int → Int) (ws : List Int) (S : Nat → Int → Int) (pa ps : Int) : Prop := rxI253_7 S0 ws S pa ps
noncomputable def rxmBGX_7 (S0 : Nat → Int → Int) (ws : List Int) (S : Nat → Int → Int) (pa ps : Int) : Nat := rxm253_7 S0 ws S pa ps
noncomputable def rxzBGX_7 : rx_Z := ([(0, 0), (0, 0), (0, 0), (0, 0), (0, 0), (0, 0), (0, 0), (0, 0), (0, 5), (0, 7)], [], [], 0, 0, 66, [(0, .inr (3, (0, 0))), (1, .inr (0, (8, 0))), (2, .inr (0, (9, 0)))], [.inr (0, (0, (-5))), .inr (3, (0, 0))])
noncomputable def rxIBGX_8 (S0 : Nat → Int → Int) (ws : List Int) (S : Nat → Int → Int) (pa ps res : Int) : Prop := rxI253_8 S0 ws S pa ps res
noncomputable def rxmBGX_8 (S0 : Nat → Int → Int) (ws : List Int) (S : Nat → Int → Int) (pa ps res : Int) : Nat := rxm253_8 S0 ws S pa ps res
noncomputable def rxzBGX_8 : rx_Z := ([(0, 0), (0, 0), (0, 0), (0, 0), (0, 0), (0, 0), (0, 0), (0, 0), (0, 5), (0, 7), ((-6), (-1))], [], [], 0, 0, 69, [(0, .inr (3, (0, 0))), (1, .inr (0, (8, 0))), (2, .inr (0, (9, 0)))], [.inr (0, (10, 0))])
noncomputable def rxIBGX_9 (S0 : Nat → Int → Int) (ws : List Int) (S : Nat → Int → Int) (pa ps : Int) : Prop := rxI253_9 S0 ws S pa ps
noncomputable def rxmBGX_9 (S0 : Nat → Int → Int) (ws : List Int) (S : Nat → Int → Int) (pa ps : Int) : Nat := rxm253_9 S0 ws S pa ps
noncomputable def rxzBGX_9 : rx_Z := ([(0, 0), (0, 0), (0, 0), (0, 0), (0, 0), (0, 0), (0, 0), (0, 0), (0, 5), (0, 7)], [], [], 0, 0, 77, [(0, .inr (3, (0, 0))), (1, .inr (0, (8, 0))), (2, .inr (0, (9, 0)))], [.inr (0, (0, (-1))), .inr (0, (9, 0)), .inr (0, (8, 0)), .inr (3, (0, 1))])
noncomputable def rxIBGX_10 (S0 : Nat → Int → Int) (ws : List Int) (S : Nat → Int → Int) (pa ps res : Int) : Prop := (res = S0 1 5 ∧ 0 ≤ res) ∧ (rkMb S0 pa ps ∧ S0 1 5 < 12) ∧ (0 ≤ pa ∧ pa < S0 1 0 ∧ 0 ≤ ps ∧ ps < S0 5 0) ∧ ws = [0, pa, ps] ∧ S 1 5 = S0 1 5 + 1 ∧ (∀ i : Int, 0 ≤ i → i < 12 → S 9 i = if i = S0 1 5 then pa else S0 9 i) ∧ (∀ i : Int, 0 ≤ i → i < 12 → S 10 i = if i = S0 1 5 then ps else S0 10 i) ∧ (∀ i : Int, 0 ≤ i → i < 12 → S 11 i = if i = S0 1 5 then (-1) else S0 11 i) ∧ S 138 5 = S0 138 5 ∧ S 274 5 = S0 274 5 ∧ (∀ i : Int, 0 ≤ i → i < 12 → S 146 i = S0 146 i) ∧ (∀ i : Int, 0 ≤ i → i < 12 → S 282 i = S0 282 i) ∧ (∀ i : Int, 0 ≤ i → i < 12 → S 147 i = S0 147 i) ∧ (∀ i : Int, 0 ≤ i → i < 12 → S 283 i = S0 283 i) ∧ (∀ i : Int, 0 ≤ i → i < 12 → S 148 i = S0 148 i) ∧ (∀ i : Int, 0 ≤ i → i < 12 → S 284 i = S0 284 i) ∧ rjdOp S0 S (6 + S0 1 5)
noncomputable def rxmBGX_10 (S0 : Nat → Int → Int) (ws : List Int) (S : Nat → Int → Int) (pa ps res : Int) : Nat := 39
noncomputable def rxzBGX_10 : rx_Z := ([(0, 0), (0, 0), (0, 0), (0, 0), (0, 0), (0, 0), (0, 0), (0, 0), (0, 5), (0, 7), ((-1), 11)], [], [], 0, 0, 80, [(0, .inr (3, (0, 0))), (1, .inr (0, (8, 0))), (2, .inr (0, (9, 0)))], [.inr (0, (10, 0))])
noncomputable def rxIBGX_11 (S0 : Nat → Int → Int) (ws : List Int) (S : Nat → Int → Int) (pa ps res : Int) : Prop := (res = S0 1 5 ∧ 0 ≤ res) ∧ (rkMb S0 pa ps ∧ S0 1 5 < 12) ∧ (0 ≤ pa ∧ pa < S0 1 0 ∧ 0 ≤ ps ∧ ps < S0 5 0) ∧ ws = [0, pa, ps] ∧ S 1 5 = S0 1 5 + 1 ∧ (∀ i : Int, 0 ≤ i → i < 12 → S 9 i = if i = S0 1 5 then pa else S0 9 i) ∧ (∀ i : Int, 0 ≤ i → i < 12 → S 10 i = if i = S0 1 5 then ps else S0 10 i) ∧ (∀ i : Int, 0 ≤ i → i < 12 → S 11 i = if i = S0 1 5 then (-1) else S0 11 i) ∧ S 138 5 = S0 138 5 ∧ S 274 5 = S0 274 5 ∧ (∀ i : Int, 0 ≤ i → i < 12 → S 146 i = S0 146 i) ∧ (∀ i : Int, 0 ≤ i → i < 12 → S 282 i = S0 282 i) ∧ (∀ i : Int, 0 ≤ i → i < 12 → S 147 i = S0 147 i) ∧ (∀ i : Int, 0 ≤ i → i < 12 → S 283 i = S0 283 i) ∧ (∀ i : Int, 0 ≤ i → i < 12 → S 148 i = S0 148 i) ∧ (∀ i : Int, 0 ≤ i → i < 12 → S 284 i = S0 284 i) ∧ rjdOp S0 S (6 + S0 1 5)
noncomputable def rxmBGX_11 (S0 : Nat → Int → Int) (ws : List Int) (S : Nat → Int → Int) (pa ps res : Int) : Nat := 38
noncomputable def rxzBGX_11 : rx_Z := ([(0, 0), (0, 0), (0, 0), (0, 0), (0, 0), (0, 0), (0, 0), (0, 0), (0, 5), (0, 7), (0, 11)], [], [], 0, 0, 86, [(0, .inr (3, (0, 0))), (1, .inr (0, (8, 0))), (2, .inr (0, (9, 0))), (3, .inr (0, (10, 0)))], [.inr (0, (10, 0)), .inr (3, (0, 1))])
noncomputable def rxIBGX_12 (S0 : Nat → Int → Int) (ws : List Int) (S : Nat → Int → Int) (pa ps res sv : Int) : Prop := sv = 41 + 3 * res ∧ (res = S0 1 5 ∧ 0 ≤ res) ∧ (rkMb S0 pa ps ∧ S0 1 5 < 12) ∧ (0 ≤ pa ∧ pa < S0 1 0 ∧ 0 ≤ ps ∧ ps < S0 5 0) ∧ ws = [0, pa, ps] ∧ S 1 5 = S0 1 5 + 1 ∧ (∀ i : Int, 0 ≤ i → i < 12 → S 9 i = if i = S0 1 5 then pa else S0 9 i) ∧ (∀ i : Int, 0 ≤ i → i < 12 → S 10 i = if i = S0 1 5 then ps else S0 10 i) ∧ (∀ i : Int, 0 ≤ i → i < 12 → S 11 i = if i = S0 1 5 then (-1) else S0 11 i) ∧ S 138 5 = S0 138 5 ∧ S 274 5 = S0 274 5 ∧ (∀ i : Int, 0 ≤ i → i < 12 → S 146 i = S0 146 i) ∧ (∀ i : Int, 0 ≤ i → i < 12 → S 282 i = S0 282 i) ∧ (∀ i : Int, 0 ≤ i → i < 12 → S 147 i = S0 147 i) ∧ (∀ i : Int, 0 ≤ i → i < 12 → S 283 i = S0 283 i) ∧ (∀ i : Int, 0 ≤ i → i < 12 → S 148 i = S0 148 i) ∧ (∀ i : Int, 0 ≤ i → i < 12 → S 284 i = S0 284 i) ∧ rjdOp S0 S (6 + S0 1 5)
noncomputable def rxmBGX_12 (S0 : Nat → Int → Int) (ws : List Int) (S : Nat → Int → Int) (pa ps res sv : Int) : Nat := 37
noncomputable def rxzBGX_12 : rx_Z := ([(0, 0), (0, 0), (0, 0), (0, 0), (0, 0), (0, 0), (0, 0), (0, 0), (0, 5), (0, 7), (0, 11), (0, 1522)], [], [(((11, 0), 1000010), .inl none)], 0, 0, 89, [(0, .inr (3, (0, 0))), (1, .inr (0, (8, 0))), (2, .inr (0, (9, 0))), (3, .inr (0, (10, 0)))], [.inr (3, (11, 0))])
noncomputable def rxIBGX_13 (S0 : Nat → Int → Int) (ws : List Int) (S : Nat → Int → Int) (pa ps res sv : Int) : Prop := sv = 41 + 3 * res ∧ (res = S0 1 5 ∧ 0 ≤ res) ∧ (rkMb S0 pa ps ∧ S0 1 5 < 12) ∧ (0 ≤ pa ∧ pa < S0 1 0 ∧ 0 ≤ ps ∧ ps < S0 5 0) ∧ ws = [0, pa, ps] ∧ S 1 5 = S0 1 5 + 1 ∧ (∀ i : Int, 0 ≤ i → i < 12 → S 9 i = if i = S0 1 5 then pa else S0 9 i) ∧ (∀ i : Int, 0 ≤ i → i < 12 → S 10 i = if i = S0 1 5 then ps else S0 10 i) ∧ (∀ i : Int, 0 ≤ i → i < 12 → S 11 i = if i = S0 1 5 then (-1) else S0 11 i) ∧ S 138 5 = S0 138 5 ∧ S 274 5 = S0 274 5 ∧ (∀ i : Int, 0 ≤ i → i < 12 → S 146 i = S0 146 i) ∧ (∀ i : Int, 0 ≤ i → i < 12 → S 282 i = S0 282 i) ∧ (∀ i : Int, 0 ≤ i → i < 12 → S 147 i = S0 147 i) ∧ (∀ i : Int, 0 ≤ i → i < 12 → S 283 i = S0 283 i) ∧ (∀ i : Int, 0 ≤ i → i < 12 → S 148 i = S0 148 i) ∧ (∀ i : Int, 0 ≤ i → i < 12 → S 284 i = S0 284 i) ∧ rjdOp S0 S (6 + S0 1 5)
noncomputable def rxmBGX_13 (S0 : Nat → Int → Int) (ws : List Int) (S : Nat → Int → Int) (pa ps res sv : Int) : Nat := 36
noncomputable def rxzBGX_13 : rx_Z := ([(0, 0), (0, 0), (0, 0), (0, 0), (0, 0), (0, 0), (0, 0), (0, 0), (0, 5), (0, 7), (0, 11), (0, 1522)], [], [(((11, 0), 1000010), .inl none)], 0, 0, 94, [(0, .inr (3, (0, 0))), (1, .inr (0, (8, 0))), (2, .inr (0, (9, 0))), (3, .inr (0, (10, 0)))], [.inr (0, (8, 0)), .inr (3, (0, 1)), .inr (3, (11, 0))])
noncomputable def rxIBGX_14 (S0 : Nat → Int → Int) (ws : List Int) (S : Nat → Int → Int) (pa ps res sv sp : Int) : Prop := sp = 23 + 3 * pa ∧ sv = 41 + 3 * res ∧ (res = S0 1 5 ∧ 0 ≤ res) ∧ (rkMb S0 pa ps ∧ S0 1 5 < 12) ∧ (0 ≤ pa ∧ pa < S0 1 0 ∧ 0 ≤ ps ∧ ps < S0 5 0) ∧ ws = [0, pa, ps] ∧ S 1 5 = S0 1 5 + 1 ∧ (∀ i : Int, 0 ≤ i → i < 12 → S 9 i = if i = S0 1 5 then pa else S0 9 i) ∧ (∀ i : Int, 0 ≤ i → i < 12 → S 10 i = if i = S0 1 5 then ps else S0 10 i) ∧ (∀ i : Int, 0 ≤ i → i < 12 → S 11 i = if i = S0 1 5 then (-1) else S0 11 i) ∧ S 138 5 = S0 138 5 ∧ S 274 5 = S0 274 5 ∧ (∀ i : Int, 0 ≤ i → i < 12 → S 146 i = S0 146 i) ∧ (∀ i : Int, 0 ≤ i → i < 12 → S 282 i = S0 282 i) ∧ (∀ i : Int, 0 ≤ i → i < 12 → S 147 i = S0 147 i) ∧ (∀ i : Int, 0 ≤ i → i < 12 → S 283 i = S0 283 i) ∧ (∀ i : Int, 0 ≤ i → i < 12 → S 148 i = S0 148 i) ∧ (∀ i : Int, 0 ≤ i → i < 12 → S 284 i = S0 284 i) ∧ rjdOp S0 S (6 + S0 1 5)
noncomputable def rxmBGX_14 (S0 : Nat → Int → Int) (ws : List Int) (S : Nat → Int → Int) (pa ps res sv sp : Int) : Nat := 35
noncomputable def rxzBGX_14 : rx_Z := ([(0, 0), (0, 0), (0, 0), (0, 0), (0, 0), (0, 0), (0, 0), (0, 0), (0, 5), (0, 7), (0, 11), (0, 1522), (0, 1522)], [], [(((12, 0), 1000010), .inl none), (((11, 0), 1000010), .inl none)], 0, 0, 97, [(0, .inr (3, (0, 0))), (1, .inr (0, (8, 0))), (2, .inr (0, (9, 0))), (3, .inr (0, (10, 0)))], [.inr (3, (12, 0)), .inr (3, (11, 0))])
noncomputable def rxIBGX_15 (S0 : Nat → Int → Int) (ws : List Int) (S : Nat → Int → Int) (pa ps res sv sp : Int) : Prop := (res = S0 1 5 ∧ 0 ≤ res) ∧ (rkMb S0 pa ps ∧ S0 1 5 < 12) ∧ (0 ≤ pa ∧ pa < S0 1 0 ∧ 0 ≤ ps ∧ ps < S0 5 0) ∧ ws = [0, pa, ps] ∧ S 1 5 = S0 1 5 + 1 ∧ (∀ i : Int, 0 ≤ i → i < 12 → S 9 i = if i = S0 1 5 then pa else S0 9 i) ∧ (∀ i : Int, 0 ≤ i → i < 12 → S 10 i = if i = S0 1 5 then ps else S0 10 i) ∧ (∀ i : Int, 0 ≤ i → i < 12 → S 11 i = if i = S0 1 5 then (-1) else S0 11 i) ∧ S 138 5 = S0 138 5 ∧ S 274 5 = S0 274 5 ∧ (∀ i : Int, 0 ≤ i → i < 12 → S 146 i = S0 146 i) ∧ (∀ i : Int, 0 ≤ i → i < 12 → S 282 i = S0 282 i) ∧ (∀ i : Int, 0 ≤ i → i < 12 → S 147 i = S0 147 i) ∧ (∀ i : Int, 0 ≤ i → i < 12 → S 283 i = S0 283 i) ∧ (∀ i : Int, 0 ≤ i → i < 12 → S 148 i = S0 148 i) ∧ (∀ i : Int, 0 ≤ i → i < 12 → S 284 i = S0 284 i) ∧ rjdOp S0 S (6 + S0 1 5) ∧ (∀ t : Int, 0 ≤ t → t < 36 → S (42 + 3 * S0 1 5).toNat t = S0 (24 + 3 * pa).toNat t ∧ S (43 + 3 * S0 1 5).toNat t = S0 (25 + 3 * pa).toNat t)
noncomputable def rxmBGX_15 (S0 : Nat → Int → Int) (ws : List Int) (S : Nat → Int → Int) (pa ps res sv sp : Int) : Nat := 34
noncomputable def rxzBGX_15 : rx_Z := ([(0, 0), (0, 0), (0, 0), (0, 0), (0, 0), (0, 0), (0, 0), (0, 0), (0, 5), (0, 7), (0, 11), (0, 1522), (0, 1522)], [], [(((12, 0), 1000010), .inl none), (((11, 0), 1000010), .inl none)], 0, 0, 100, [(0, .inr (3, (0, 0))), (1, .inr (0, (8, 0))), (2, .inr (0, (9, 0))), (3, .inr (0, (10, 0)))], [])
noncomputable def rxoBGX_0_0 : bx_HO := (([(0, 0), (0, 0), (0, 0), (0, 0), (0, 0), (0, 0), (0, 0), (0, 0), ((-2147483648), (-1)), ((-2147483648), 2147483647)], [], [(((0, 0), 0), .inr (3, (0, 1)))], 0, 0, 28, [(0, .inr (3, (0, 0))), (1, .inr (0, (8, 0))), (2, .inr (0, (9, 0)))], [.inr (0, (0, (-2))), .inr (3, (0, 0))]), [], [], [(0, 0), (0, 0), (0, 0), (0, 0), (0, 0), (0, 0), (0, 0), (0, 0), (8, 0), (9, 0)], 1)
noncomputable def rxoBGX_0_1 : bx_HO := (([(0, 0), (0, 0), (0, 0), (0, 0), (0, 0), (0, 0), (0, 0), (0, 0), (0, 2147483647), ((-2147483648), 2147483647), (0, 6)], [(1, (10, 0), (8, 0))], [(((0, 0), 1851192626986356797424340330377019318111018015026043177553952768000000), .inr (0, (10, 0))), (((0, 1), 0), .inr (0, (10, 0))), (((0, 0), 0), .inr (3, (0, 1)))], 0, 0, 28, [(0, .inr (3, (0, 0))), (1, .inr (0, (8, 0))), (2, .inr (0, (9, 0)))], [.inr (0, (0, (-2))), .inr (3, (0, 0))]), [], [], [(0, 0), (0, 0), (0, 0), (0, 0), (0, 0), (0, 0), (0, 0), (0, 0), (8, 0), (9, 0)], 1)
noncomputable def rxoBGX_0_2 : bx_HO := (([(0, 0), (0, 0), (0, 0), (0, 0), (0, 0), (0, 0), (0, 0), (0, 0), (0, 5), ((-2147483648), (-1)), (1, 6)], [(0, (8, 0), (10, 0))], [(((0, 1), 4), .inr (3, (0, 5))), (((0, 0), 1851192626986356797424340330377019318111018015026043177553952768000000), .inr (0, (10, 0))), (((0, 1), 0), .inr (0, (10, 0))), (((0, 0), 0), .inr (3, (0, 1)))], 0, 0, 28, [(0, .inr (3, (0, 0))), (1, .inr (0, (8, 0))), (2, .inr (0, (9, 0)))], [.inr (0, (0, (-2))), .inr (3, (0, 0))]), [], [], [(0, 0), (0, 0), (0, 0), (0, 0), (0, 0), (0, 0), (0, 0), (0, 0), (8, 0), (9, 0)], 1)
noncomputable def rxoBGX_0_3 : bx_HO := (([(0, 0), (0, 0), (0, 0), (0, 0), (0, 0), (0, 0), (0, 0), (0, 0), (0, 5), (0, 2147483647), (1, 6), (0, 8)], [(1, (11, 0), (9, 0)), (0, (8, 0), (10, 0))], [(((0, 0), 1851192626986356797424340330377019318111018015026043177556312064000000), .inr (0, (11, 0))), (((0, 5), 0), .inr (0, (11, 0))), (((0, 1), 4), .inr (3, (0, 5))), (((0, 0), 1851192626986356797424340330377019318111018015026043177553952768000000), .inr (0, (10, 0))), (((0, 1), 0), .inr (0, (10, 0))), (((0, 0), 0), .inr (3, (0, 1)))], 0, 0, 28, [(0, .inr (3, (0, 0))), (1, .inr (0, (8, 0))), (2, .inr (0, (9, 0)))], [.inr (0, (0, (-2))), .inr (3, (0, 0))]), [], [], [(0, 0), (0, 0), (0, 0), (0, 0), (0, 0), (0, 0), (0, 0), (0, 0), (8, 0), (9, 0)], 1)
noncomputable def rxoBGX_0_4 : bx_HO := (([(0, 0), (0, 0), (0, 0), (0, 0), (0, 0), (0, 0), (0, 0), (0, 0), (0, 5), (0, 7), (1, 6), (1, 8)], [(0, (9, 0), (11, 0)), (0, (8, 0), (10, 0))], [(((0, 0), 1851192626986356797424340330377019318111018015026043177556312064000000), .inr (0, (11, 0))), (((0, 5), 0), .inr (0, (11, 0))), (((0, 1), 4), .inr (3, (0, 5))), (((0, 0), 1851192626986356797424340330377019318111018015026043177553952768000000), .inr (0, (10, 0))), (((0, 1), 0), .inr (0, (10, 0))), (((0, 0), 0), .inr (3, (0, 1)))], 0, 0, 38, [(0, .inr (3, (0, 0))), (1, .inr (0, (8, 0))), (2, .inr (0, (9, 0)))], [.inr (0, (9, 0)), .inr (0, (8, 0)), .inr (3, (0, 1))]), [], [], [(0, 0), (0, 0), (0, 0), (0, 0), (0, 0), (0, 0), (0, 0), (0, 0), (8, 0), (9, 0)], 3)
noncomputable def rxeBGX_2_0 : rx_End × List (Nat × Int × Int) := (([(0, 0), (0, 0), (0, 0), (0, 0), (0, 0), (0, 0), (0, 0), (0, 0), ((-2147483648), 2147483647), ((-2147483648), 2147483647), ((-6), (-1))], [], [], some (.inr (0, (10, 0)))), [])
noncomputable def rxoBGX_4_0 : bx_HO := (([(0, 0), (0, 0), (0, 0), (0, 0), (0, 0), (0, 0), (0, 0), (0, 0), (0, 5), (0, 7), (0, 0)], [], [], 0, 0, 47, [(0, .inr (3, (0, 0))), (1, .inr (0, (8, 0))), (2, .inr (0, (9, 0)))], [.inr (0, (0, (-3))), .inr (3, (0, 0))]), [], [], [(0, 0), (0, 0), (0, 0), (0, 0), (0, 0), (0, 0), (0, 0), (0, 0), (8, 0), (9, 0)], 5)
noncomputable def rxoBGX_4_1 : bx_HO := (([(0, 0), (0, 0), (0, 0), (0, 0), (0, 0), (0, 0), (0, 0), (0, 0), (0, 5), (0, 7), (1, 1), (12, 12)], [(3, (10, 0), (0, 0))], [(((0, 0), 1851192626986356798427873864310897359480125337295219445323071488000000), .inr (0, (11, 0))), (((0, 1), 5), .inr (0, (11, 0))), (((0, 0), 0), .inr (3, (0, 1)))], 0, 0, 66, [(0, .inr (3, (0, 0))), (1, .inr (0, (8, 0))), (2, .inr (0, (9, 0)))], [.inr (0, (0, (-5))), .inr (3, (0, 0))]), [], [], [(0, 0), (0, 0), (0, 0), (0, 0), (0, 0), (0, 0), (0, 0), (0, 0), (8, 0), (9, 0)], 7)
noncomputable def rxoBGX_4_2 : bx_HO := (([(0, 0), (0, 0), (0, 0), (0, 0), (0, 0), (0, 0), (0, 0), (0, 0), (0, 5), (0, 7), (1, 1), (0, 11)], [(3, (10, 0), (0, 0))], [(((0, 0), 1851192626986356798427873864310897359480125337295219445323071488000000), .inr (0, (11, 0))), (((0, 1), 5), .inr (0, (11, 0))), (((0, 0), 0), .inr (3, (0, 1)))], 0, 0, 77, [(0, .inr (3, (0, 0))), (1, .inr (0, (8, 0))), (2, .inr (0, (9, 0)))], [.inr (0, (0, (-1))), .inr (0, (9, 0)), .inr (0, (8, 0)), .inr (3, (0, 1))]), [], [], [(0, 0), (0, 0), (0, 0), (0, 0), (0, 0), (0, 0), (0, 0), (0, 0), (8, 0), (9, 0)], 9)
noncomputable def rxeBGX_6_0 : rx_End × List (Nat × Int × Int) := (([(0, 0), (0, 0), (0, 0), (0, 0), (0, 0), (0, 0), (0, 0), (0, 0), (0, 5), (0, 7), ((-6), (-1))], [], [], some (.inr (0, (10, 0)))), [])
noncomputable def rxeBGX_8_0 : rx_End × List (Nat × Int × Int) := (([(0, 0), (0, 0), (0, 0), (0, 0), (0, 0), (0, 0), (0, 0), (0, 0), (0, 5), (0, 7), ((-6), (-1))], [], [], some (.inr (0, (10, 0)))), [])
noncomputable def rxoBGX_10_0 : bx_HO := (([(0, 0), (0, 0), (0, 0), (0, 0), (0, 0), (0, 0), (0, 0), (0, 0), (0, 5), (0, 7), ((-1), 11)], [], [(((0, 0), 0), .inr (3, (0, 1)))], 0, 0, 86, [(3, .inr (0, (10, 0))), (0, .inr (3, (0, 0))), (1, .inr (0, (8, 0))), (2, .inr (0, (9, 0)))], [.inr (0, (10, 0)), .inr (3, (0, 1))]), [(10, 0, 11)], [], [(0, 0), (0, 0), (0, 0), (0, 0), (0, 0), (0, 0), (0, 0), (0, 0), (8, 0), (9, 0), (10, 0)], 11)
noncomputable def rxoBGX_12_0 : bx_HO := (([(0, 0), (0, 0), (0, 0), (0, 0), (0, 0), (0, 0), (0, 0), (0, 0), (0, 5), (0, 7), (0, 11), (0, 1522)], [], [(((0, 0), 0), .inr (3, (0, 1))), (((11, 0), 1000010), .inl none)], 0, 0, 94, [(0, .inr (3, (0, 0))), (1, .inr (0, (8, 0))), (2, .inr (0, (9, 0))), (3, .inr (0, (10, 0)))], [.inr (0, (8, 0)), .inr (3, (0, 1)), .inr (3, (11, 0))]), [], [], [(0, 0), (0, 0), (0, 0), (0, 0), (0, 0), (0, 0), (0, 0), (0, 0), (8, 0), (9, 0), (10, 0), (11, 0)], 13)
noncomputable def rxeBGX_15_0 : rx_End × List (Nat × Int × Int) := (([(0, 0), (0, 0), (0, 0), (0, 0), (0, 0), (0, 0), (0, 0), (0, 0), (0, 5), (0, 7), (0, 11), (0, 1522), (0, 1522)], [], [(((0, 0), 1851192626986356799029993984671224184301589730656725205983952899000000), .inr (0, (0, 0))), (((0, 0), 8), .inr (0, (0, 0))), (((12, 0), 1000010), .inl none), (((11, 0), 1000010), .inl none)], some (.inr (0, (10, 0)))), [])
noncomputable def rxYBGX : List bx_HE := [(rxzBGX_0, [rxoBGX_0_0, rxoBGX_0_1, rxoBGX_0_2, rxoBGX_0_3, rxoBGX_0_4], []), (rxzBGX_1, [], []), (rxzBGX_2, [], [rxeBGX_2_0]), (rxzBGX_3, [], []), (rxzBGX_4, [rxoBGX_4_0, rxoBGX_4_1, rxoBGX_4_2], []), (rxzBGX_5, [], []), (rxzBGX_6, [], [rxeBGX_6_0]), (rxzBGX_7, [], []), (rxzBGX_8, [], [rxeBGX_8_0]), (rxzBGX_9, [], []), (rxzBGX_10, [rxoBGX_10_0], []), (rxzBGX_11, [], []), (rxzBGX_12, [rxoBGX_12_0], []), (rxzBGX_13, [], []), (rxzBGX_14, [], []), (rxzBGX_15, [], [rxeBGX_15_0])]
noncomputable def rxUBGX (q : bx_HE) : Bool := Nat.beq (rx_zpc q.1) 28 || Nat.beq (rx_zpc q.1) 38 || Nat.beq (rx_zpc q.1) 47 || Nat.beq (rx_zpc q.1) 66 || Nat.beq (rx_zpc q.1) 77 || Nat.beq (rx_zpc q.1) 86 || Nat.beq (rx_zpc q.1) 94 || Nat.beq (rx_zpc q.1) 97
noncomputable def rxYBBGX : bx_B := (rxV, rxNP, rxDmf, bx_mdH rxC253.2.2.1)
set_option maxRecDepth 100000 in
theorem rxYcBGX : bx_chkH rxYBBGX rxM253 rxC253 rxYBGX (rxUBGX, fun cut z => rx_ex2 (rxCT rxYBBGX rxCnE) cut 30000 rxC253.2.2.2.1 253 z) = true := by decide +kernel
noncomputable def rxIBGX (S0 : Nat → Int → Int) (ws : List Int) (i : Nat) : bx_SP := fun S r => match i with | 0 => rxIBGX_0 S0 ws S (r 8) (r 9) | 1 => rxIBGX_1 S0 ws S (r 8) (r 9) | 2 => rxIBGX_2 S0 ws S (r 8) (r 9) (r 10) | 3 => rxIBGX_3 S0 ws S (r 8) (r 9) | 4 => rxIBGX_4 S0 ws S (r 8) (r 9) (r 10) | 5 => rxIBGX_5 S0 ws S (r 8) (r 9) | 6 => rxIBGX_6 S0 ws S (r 8) (r 9) (r 10) | 7 => rxIBGX_7 S0 ws S (r 8) (r 9) | 8 => rxIBGX_8 S0 ws S (r 8) (r 9) (r 10) | 9 => rxIBGX_9 S0 ws S (r 8) (r 9) | 10 => rxIBGX_10 S0 ws S (r 8) (r 9) (r 10) | 11 => rxIBGX_11 S0 ws S (r 8) (r 9) (r 10) | 12 => rxIBGX_12 S0 ws S (r 8) (r 9) (r 10) (r 11) | 13 => rxIBGX_13 S0 ws S (r 8) (r 9) (r 10) (r 11) | 14 => rxIBGX_14 S0 ws S (r 8) (r 9) (r 10) (r 11) (r 12) | 15 => rxIBGX_15 S0 ws S (r 8) (r 9) (r 10) (r 11) (r 12) | _ => False
noncomputable def rxmBGX (S0 : Nat → Int → Int) (ws : List Int) (i : Nat) (S : Nat → Int → Int) (r : Nat → Int) : Nat := match i with | 0 => rxmBGX_0 S0 ws S (r 8) (r 9) | 1 => rxmBGX_1 S0 ws S (r 8) (r 9) | 2 => rxmBGX_2 S0 ws S (r 8) (r 9) (r 10) | 3 => rxmBGX_3 S0 ws S (r 8) (r 9) | 4 => rxmBGX_4 S0 ws S (r 8) (r 9) (r 10) | 5 => rxmBGX_5 S0 ws S (r 8) (r 9) | 6 => rxmBGX_6 S0 ws S (r 8) (r 9) (r 10) | 7 => rxmBGX_7 S0 ws S (r 8) (r 9) | 8 => rxmBGX_8 S0 ws S (r 8) (r 9) (r 10) | 9 => rxmBGX_9 S0 ws S (r 8) (r 9) | 10 => rxmBGX_10 S0 ws S (r 8) (r 9) (r 10) | 11 => rxmBGX_11 S0 ws S (r 8) (r 9) (r 10) | 12 => rxmBGX_12 S0 ws S (r 8) (r 9) (r 10) (r 11) | 13 => rxmBGX_13 S0 ws S (r 8) (r 9) (r 10) (r 11) | 14 => rxmBGX_14 S0 ws S (r 8) (r 9) (r 10) (r 11) (r 12) | 15 => rxmBGX_15 S0 ws S (r 8) (r 9) (r 10) (r 11) (r 12) | _ => 0
noncomputable def rxPBGX (S0 : Nat → Int → Int) (ws : List Int) : Prop := rkDp S0 ∧ rkPl S0
noncomputable def rxPSBGX (S0 : Nat → Int → Int) (ws : List Int) (S : Nat → Int → Int) (w : Option Int) : Prop := rxPS253 S0 ws S w ∧ ∃ pa ps : Int, ws = [0, pa, ps] ∧ (∀ z : Int, w = some z → z < 0 → rjdSm S0 S) ∧ (∀ z : Int, w = some z → 0 ≤ z → (∀ t : Int, 0 ≤ t → t < 36 → S (42 + 3 * S0 1 5).toNat t = S0 (24 + 3 * pa).toNat t ∧ S (43 + 3 * S0 1 5).toNat t = S0 (25 + 3 * pa).toNat t) ∧ rjdOp S0 S (6 + S0 1 5))
theorem rxkBGX_1 {S0 : Nat → Int → Int} {ws : List Int} {S : Nat → Int → Int} {pa ps : Int} (hP : rxPBGX S0 ws) (hin : bx_same rxL (bx_mdl rxC253.2.2.1) S0 S) (I0 : bx_Inv rxL S) (hinv : rxIBGX_1 S0 ws S pa ps) (l8 : (-2147483648) ≤ pa) (u8 : pa ≤ 2147483647) (l9 : (-2147483648) ≤ ps) (u9 : ps ≤ 2147483647) : rxP110 S [0, (-2)] ∧ ∀ (S_p : Nat → Int → Int) (res : Int), (-6) ≤ res → res ≤ (-1) → rxPS110 S [0, (-2)] S_p (some res) → bx_Inv rxL S_p → bx_same rxL (bx_mdl rxC110.2.2.1) S S_p → rxIBGX_2 S0 ws S_p pa ps res ∧ rxmBGX_2 S0 ws S_p pa ps res < rxmBGX_1 S0 ws S pa ps := by
  exact rxk253_1 hP.1 hin I0 hinv l8 u8 l9 u9
theorem rxsBGX_1 {X : (Nat → Int → Int) → Prop} {S0 : Nat → Int → Int} {ws : List Int} (hP : rxPBGX S0 ws) : rx_obK X S0 rxC253.2.2.1 rxC110.2.2.1 (rxIBGX S0 ws) (rxmBGX S0 ws) 1 2 rxzBGX_1 rxzBGX_2 [.inr (3, (0, 0)), .inr (0, (0, (-2)))] (some 10) rxP110 rxPS110 := by
  intro S r hinv hXS I0 hin hs_ hf_
  have b_ := bx_bds_sat hs_
  have f_ := bx_fcl_ok hs_.1 hf_
  obtain ⟨⟨l8, u8⟩, ⟨l9, u9⟩, -⟩ := b_
  have g := rxkBGX_1 hP hin I0 hinv l8 u8 l9 u9
  have ea : List.map (bx_num r) [.inr (3, (0, 0)), .inr (0, (0, (-2)))] = [0, -2] := by
    simp only [List.map_cons, List.map_nil, bx_xv_ok hs_.1]
    rfl
  rw [ea]
  refine ⟨g.1, fun S_p w r_p hPS hX_p I1 hsm hr hw hs_p => ?_⟩
  have hw := hw _ rfl
  subst hw
  have b_p := hs_p.2.2 10 _ _ rfl
  have g2 := g.2 S_p (r_p 10) b_p.1 b_p.2 hPS I1 hsm
  show rxIBGX_2 S0 ws S_p (r_p 8) (r_p 9) (r_p 10) ∧ rxmBGX_2 S0 ws S_p (r_p 8) (r_p 9) (r_p 10) < _
  rw [hr 8 (by decide), hr 9 (by decide)]
  exact g2
theorem rxkBGX_3 {S0 : Nat → Int → Int} {ws : List Int} {S : Nat → Int → Int} {pa ps : Int} (hP : rxPBGX S0 ws) (hin : bx_same rxL (bx_mdl rxC253.2.2.1) S0 S) (I0 : bx_Inv rxL S) (hinv : rxIBGX_3 S0 ws S pa ps) (l8 : 0 ≤ pa) (u8 : pa ≤ 5) (l9 : 0 ≤ ps) (u9 : ps ≤ 7) : rxPMBD S [1, pa, ps] ∧ ∀ (S_p : Nat → Int → Int) (r : Int), 0 ≤ r → r ≤ 1 → rxPSMBD S [1, pa, ps] S_p (some r) → bx_Inv rxL S_p → bx_same rxL (bx_mdl rxCMBD.2.2.1) S S_p → rxIBGX_4 S0 ws S_p pa ps r ∧ rxmBGX_4 S0 ws S_p pa ps r < rxmBGX_3 S0 ws S pa ps := by
  exact rxk253_3 hP.1 hin I0 hinv l8 u8 l9 u9
theorem rxsBGX_3 {X : (Nat → Int → Int) → Prop} {S0 : Nat → Int → Int} {ws : List Int} (hP : rxPBGX S0 ws) : rx_obK X S0 rxC253.2.2.1 rxCMBD.2.2.1 (rxIBGX S0 ws) (rxmBGX S0 ws) 3 4 rxzBGX_3 rxzBGX_4 [.inr (3, (0, 1)), .inr (0, (8, 0)), .inr (0, (9, 0))] (some 10) rxPMBD rxPSMBD := by
  intro S r hinv hXS I0 hin hs_ hf_
  have b_ := bx_bds_sat hs_
  have f_ := bx_fcl_ok hs_.1 hf_
  obtain ⟨⟨l8, u8⟩, ⟨l9, u9⟩, -⟩ := b_
  have g := rxkBGX_3 hP hin I0 hinv l8 u8 l9 u9
  have ea : List.map (bx_num r) [.inr (3, (0, 1)), .inr (0, (8, 0)), .inr (0, (9, 0))] = [1, (r 8), (r 9)] := by
    simp only [List.map_cons, List.map_nil, bx_xv_ok hs_.1]
    rfl
  rw [ea]
  refine ⟨g.1, fun S_p w r_p hPS hX_p I1 hsm hr hw hs_p => ?_⟩
  have hw := hw _ rfl
  subst hw
  have b_p := hs_p.2.2 10 _ _ rfl
  have g2 := g.2 S_p (r_p 10) b_p.1 b_p.2 hPS I1 hsm
  show rxIBGX_4 S0 ws S_p (r_p 8) (r_p 9) (r_p 10) ∧ rxmBGX_4 S0 ws S_p (r_p 8) (r_p 9) (r_p 10) < _
  rw [hr 8 (by decide), hr 9 (by decide)]
  exact g2
theorem rxkBGX_5 {S0 : Nat → Int → Int} {ws : List Int} {S : Nat → Int → Int} {pa ps : Int} (hP : rxPBGX S0 ws) (hin : bx_same rxL (bx_mdl rxC253.2.2.1) S0 S) (I0 : bx_Inv rxL S) (hinv : rxIBGX_5 S0 ws S pa ps) (l8 : 0 ≤ pa) (u8 : pa ≤ 5) (l9 : 0 ≤ ps) (u9 : ps ≤ 7) : rxP110 S [0, (-3)] ∧ ∀ (S_p : Nat → Int → Int) (res : Int), (-6) ≤ res → res ≤ (-1) → rxPS110 S [0, (-3)] S_p (some res) → bx_Inv rxL S_p → bx_same rxL (bx_mdl rxC110.2.2.1) S S_p → rxIBGX_6 S0 ws S_p pa ps res ∧ rxmBGX_6 S0 ws S_p pa ps res < rxmBGX_5 S0 ws S pa ps := by
  exact rxk253_5 hP.1 hin I0 hinv l8 u8 l9 u9
theorem rxsBGX_5 {X : (Nat → Int → Int) → Prop} {S0 : Nat → Int → Int} {ws : List Int} (hP : rxPBGX S0 ws) : rx_obK X S0 rxC253.2.2.1 rxC110.2.2.1 (rxIBGX S0 ws) (rxmBGX S0 ws) 5 6 rxzBGX_5 rxzBGX_6 [.inr (3, (0, 0)), .inr (0, (0, (-3)))] (some 10) rxP110 rxPS110 := by
  intro S r hinv hXS I0 hin hs_ hf_
  have b_ := bx_bds_sat hs_
  have f_ := bx_fcl_ok hs_.1 hf_
  obtain ⟨⟨l8, u8⟩, ⟨l9, u9⟩, -⟩ := b_
  have g := rxkBGX_5 hP hin I0 hinv l8 u8 l9 u9
  have ea : List.map (bx_num r) [.inr (3, (0, 0)), .inr (0, (0, (-3)))] = [0, -3] := by
    simp only [List.map_cons, List.map_nil, bx_xv_ok hs_.1]
    rfl
  rw [ea]
  refine ⟨g.1, fun S_p w r_p hPS hX_p I1 hsm hr hw hs_p => ?_⟩
  have hw := hw _ rfl
  subst hw
  have b_p := hs_p.2.2 10 _ _ rfl
  have g2 := g.2 S_p (r_p 10) b_p.1 b_p.2 hPS I1 hsm
  show rxIBGX_6 S0 ws S_p (r_p 8) (r_p 9) (r_p 10) ∧ rxmBGX_6 S0 ws S_p (r_p 8) (r_p 9) (r_p 10) < _
  rw [hr 8 (by decide), hr 9 (by decide)]
  exact g2
theorem rxkBGX_7 {S0 : Nat → Int → Int} {ws : List Int} {S : Nat → Int → Int} {pa ps : Int} (hP : rxPBGX S0 ws) (hin : bx_same rxL (bx_mdl rxC253.2.2.1) S0 S) (I0 : bx_Inv rxL S) (hinv : rxIBGX_7 S0 ws S pa ps) (l8 : 0 ≤ pa) (u8 : pa ≤ 5) (l9 : 0 ≤ ps) (u9 : ps ≤ 7) : rxP110 S [0, (-5)] ∧ ∀ (S_p : Nat → Int → Int) (res : Int), (-6) ≤ res → res ≤ (-1) → rxPS110 S [0, (-5)] S_p (some res) → bx_Inv rxL S_p → bx_same rxL (bx_mdl rxC110.2.2.1) S S_p → rxIBGX_8 S0 ws S_p pa ps res ∧ rxmBGX_8 S0 ws S_p pa ps res < rxmBGX_7 S0 ws S pa ps := by
  exact rxk253_7 hP.1 hin I0 hinv l8 u8 l9 u9
theorem rxsBGX_7 {X : (Nat → Int → Int) → Prop} {S0 : Nat → Int → Int} {ws : List Int} (hP : rxPBGX S0 ws) : rx_obK X S0 rxC253.2.2.1 rxC110.2.2.1 (rxIBGX S0 ws) (rxmBGX S0 ws) 7 8 rxzBGX_7 rxzBGX_8 [.inr (3, (0, 0)), .inr (0, (0, (-5)))] (some 10) rxP110 rxPS110 := by
  intro S r hinv hXS I0 hin hs_ hf_
  have b_ := bx_bds_sat hs_
  have f_ := bx_fcl_ok hs_.1 hf_
  obtain ⟨⟨l8, u8⟩, ⟨l9, u9⟩, -⟩ := b_
  have g := rxkBGX_7 hP hin I0 hinv l8 u8 l9 u9
  have ea : List.map (bx_num r) [.inr (3, (0, 0)), .inr (0, (0, (-5)))] = [0, -5] := by
    simp only [List.map_cons, List.map_nil, bx_xv_ok hs_.1]
    rfl
  rw [ea]
  refine ⟨g.1, fun S_p w r_p hPS hX_p I1 hsm hr hw hs_p => ?_⟩
  have hw := hw _ rfl
  subst hw
  have b_p := hs_p.2.2 10 _ _ rfl
  have g2 := g.2 S_p (r_p 10) b_p.1 b_p.2 hPS I1 hsm
  show rxIBGX_8 S0 ws S_p (r_p 8) (r_p 9) (r_p 10) ∧ rxmBGX_8 S0 ws S_p (r_p 8) (r_p 9) (r_p 10) < _
  rw [hr 8 (by decide), hr 9 (by decide)]
  exact g2
theorem rxkBGX_9 {S0 : Nat → Int → Int} {ws : List Int} {S : Nat → Int → Int} {pa ps : Int} (hP : rxPBGX S0 ws) (hin : bx_same rxL (bx_mdl rxC253.2.2.1) S0 S) (I0 : bx_Inv rxL S) (hinv : rxIBGX_9 S0 ws S pa ps) (l8 : 0 ≤ pa) (u8 : pa ≤ 5) (l9 : 0 ≤ ps) (u9 : ps ≤ 7) : rxPADX S [1, pa, ps, (-1)] ∧ ∀ (S_p : Nat → Int → Int) (res : Int), (-1) ≤ res → res ≤ 11 → rxPSADX S [1, pa, ps, (-1)] S_p (some res) → bx_Inv rxL S_p → bx_same rxL (bx_mdl rxCADX.2.2.1) S S_p → rxIBGX_10 S0 ws S_p pa ps res ∧ rxmBGX_10 S0 ws S_p pa ps res < rxmBGX_9 S0 ws S pa ps := by
  obtain ⟨hm, hg, hw, hf⟩ := hinv
  have hpl : rkPl S := rkPl_sm hf (by decide +kernel) hP.2
  have b5 : 0 ≤ S 1 5 ∧ S 1 5 ≤ 12 := I0 1 5 (by decide) (by decide)
  have e5 : S 1 5 = S0 1 5 := hf 1 5 (by decide) (by decide) (by decide +kernel)
  have hs := rjdSm_sm (S0 := S0) (S := S) hf (by decide +kernel)
  refine ⟨hpl, fun S_p res _ _ hq _ hsm => ⟨?_, by unfold rxmBGX_9 rxmBGX_10 rxm253_9; omega⟩⟩
  obtain ⟨pa2, ps2, te2, hw3, h⟩ := hq
  have k0 : pa = pa2 := Option.some.inj (congrArg (fun l : List Int => l[1]?) hw3)
  have k1 : ps = ps2 := Option.some.inj (congrArg (fun l : List Int => l[2]?) hw3)
  have k2 : (-1 : Int) = te2 := Option.some.inj (congrArg (fun l : List Int => l[3]?) hw3)
  subst k0
  subst k1
  subst k2
  rcases h with ⟨h, -⟩ | ⟨h, hr, h5, hcl, ⟨r9, r10, r11⟩, hfr⟩
  · exfalso
    omega
  · exact ⟨⟨(Option.some.inj hr).trans e5, by have := Option.some.inj hr; omega⟩, hm, hg, hw, by omega, fun i i0 i1 => by
      by_cases c : i = S0 1 5
      · rw [if_pos c, c, ← e5]
        exact r9
      · rw [if_neg c]
        exact (hfr 9 i (by omega) (by omega) (by omega) (by omega) (by omega) (by omega)).trans (rx_sameR2 hf (p := 9) (tc := 0) (n := 12) (g := 6) rfl (by omega) (by decide +kernel) (by decide +kernel) i0 i1), fun i i0 i1 => by
      by_cases c : i = S0 1 5
      · rw [if_pos c, c, ← e5]
        exact r10
      · rw [if_neg c]
        exact (hfr 10 i (by omega) (by omega) (by omega) (by omega) (by omega) (by omega)).trans (rx_sameR2 hf (p := 10) (tc := 0) (n := 12) (g := 7) rfl (by omega) (by decide +kernel) (by decide +kernel) i0 i1), fun i i0 i1 => by
      by_cases c : i = S0 1 5
      · rw [if_pos c, c, ← e5]
        exact r11
      · rw [if_neg c]
        exact (hfr 11 i (by omega) (by omega) (by omega) (by omega) (by omega) (by omega)).trans (rx_sameR2 hf (p := 11) (tc := 0) (n := 12) (g := 8) rfl (by omega) (by decide +kernel) (by decide +kernel) i0 i1), (hfr 138 5 (by omega) (by omega) (by omega) (by omega) (by omega) (by omega)).trans (hf 138 5 (by decide) (by decide) (by decide +kernel)), (hfr 274 5 (by omega) (by omega) (by omega) (by omega) (by omega) (by omega)).trans (hf 274 5 (by decide) (by decide) (by decide +kernel)), fun i i0 i1 => (hfr 146 i (by omega) (by omega) (by omega) (by omega) (by omega) (by omega)).trans (rx_sameR2 hf (p := 146) (tc := 0) (n := 12) (g := 6) rfl (by omega) (by decide +kernel) (by decide +kernel) i0 i1), fun i i0 i1 => (hfr 282 i (by omega) (by omega) (by omega) (by omega) (by omega) (by omega)).trans (rx_sameR2 hf (p := 282) (tc := 0) (n := 12) (g := 6) rfl (by omega) (by decide +kernel) (by decide +kernel) i0 i1), fun i i0 i1 => (hfr 147 i (by omega) (by omega) (by omega) (by omega) (by omega) (by omega)).trans (rx_sameR2 hf (p := 147) (tc := 0) (n := 12) (g := 7) rfl (by omega) (by decide +kernel) (by decide +kernel) i0 i1), fun i i0 i1 => (hfr 283 i (by omega) (by omega) (by omega) (by omega) (by omega) (by omega)).trans (rx_sameR2 hf (p := 283) (tc := 0) (n := 12) (g := 7) rfl (by omega) (by decide +kernel) (by decide +kernel) i0 i1), fun i i0 i1 => (hfr 148 i (by omega) (by omega) (by omega) (by omega) (by omega) (by omega)).trans (rx_sameR2 hf (p := 148) (tc := 0) (n := 12) (g := 8) rfl (by omega) (by decide +kernel) (by decide +kernel) i0 i1), fun i i0 i1 => (hfr 284 i (by omega) (by omega) (by omega) (by omega) (by omega) (by omega)).trans (rx_sameR2 hf (p := 284) (tc := 0) (n := 12) (g := 8) rfl (by omega) (by decide +kernel) (by decide +kernel) i0 i1), fun p t a b c d e => (hfr p t (by omega) (by omega) (by omega) (by omega) (by omega) (by omega)).trans (hs p t a b c)⟩
theorem rxsBGX_9 {X : (Nat → Int → Int) → Prop} {S0 : Nat → Int → Int} {ws : List Int} (hP : rxPBGX S0 ws) : rx_obK X S0 rxC253.2.2.1 rxCADX.2.2.1 (rxIBGX S0 ws) (rxmBGX S0 ws) 9 10 rxzBGX_9 rxzBGX_10 [.inr (3, (0, 1)), .inr (0, (8, 0)), .inr (0, (9, 0)), .inr (0, (0, (-1)))] (some 10) rxPADX rxPSADX := by
  intro S r hinv hXS I0 hin hs_ hf_
  have b_ := bx_bds_sat hs_
  have f_ := bx_fcl_ok hs_.1 hf_
  obtain ⟨⟨l8, u8⟩, ⟨l9, u9⟩, -⟩ := b_
  have g := rxkBGX_9 hP hin I0 hinv l8 u8 l9 u9
  have ea : List.map (bx_num r) [.inr (3, (0, 1)), .inr (0, (8, 0)), .inr (0, (9, 0)), .inr (0, (0, (-1)))] = [1, (r 8), (r 9), -1] := by
    simp only [List.map_cons, List.map_nil, bx_xv_ok hs_.1]
    rfl
  rw [ea]
  refine ⟨g.1, fun S_p w r_p hPS hX_p I1 hsm hr hw hs_p => ?_⟩
  have hw := hw _ rfl
  subst hw
  have b_p := hs_p.2.2 10 _ _ rfl
  have g2 := g.2 S_p (r_p 10) b_p.1 b_p.2 hPS I1 hsm
  show rxIBGX_10 S0 ws S_p (r_p 8) (r_p 9) (r_p 10) ∧ rxmBGX_10 S0 ws S_p (r_p 8) (r_p 9) (r_p 10) < _
  rw [hr 8 (by decide), hr 9 (by decide)]
  exact g2
theorem rxkBGX_11 {S0 : Nat → Int → Int} {ws : List Int} {S : Nat → Int → Int} {pa ps res : Int} (hP : rxPBGX S0 ws) (hin : bx_same rxL (bx_mdl rxC253.2.2.1) S0 S) (I0 : bx_Inv rxL S) (hinv : rxIBGX_11 S0 ws S pa ps res) (l8 : 0 ≤ pa) (u8 : pa ≤ 5) (l9 : 0 ≤ ps) (u9 : ps ≤ 7) (l10 : 0 ≤ res) (u10 : res ≤ 11) : rxPSOV S [1, res] ∧ ∀ (S_p : Nat → Int → Int) (sv : Int), 0 ≤ sv → sv ≤ 1522 → rxPSSOV S [1, res] S_p (some sv) → bx_Inv rxL S_p → bx_same rxL (bx_mdl rxCSOV.2.2.1) S S_p → rxIBGX_12 S0 ws S_p pa ps res sv ∧ rxmBGX_12 S0 ws S_p pa ps res sv < rxmBGX_11 S0 ws S pa ps res := by
  obtain ⟨⟨hr, h0⟩, ⟨hm, h12⟩, hg, hw, h5, r9, r10, r11, k1, k2, f146, f282, f147, f283, f148, f284, hop⟩ := hinv
  refine ⟨trivial, fun S_p sv _ _ hq _ hsm => ⟨?_, by unfold rxmBGX_11 rxmBGX_12; omega⟩⟩
  obtain ⟨hS, k9_, hw3, hv⟩ := hq
  subst hS
  have k8_ : res = k9_ := Option.some.inj (congrArg (fun l : List Int => l[1]?) hw3)
  subst k8_
  obtain ⟨z12, -⟩ := (rkPl_sm hin (by decide +kernel) hP.2).2.1.2 res.toNat (by omega)
  rw [Int.toNat_of_nonneg h0] at z12
  exact ⟨(Option.some.inj hv).trans (z12.trans (by omega)), ⟨hr, h0⟩, ⟨hm, h12⟩, hg, hw, h5, r9, r10, r11, k1, k2, f146, f282, f147, f283, f148, f284, hop⟩
theorem rxsBGX_11 {X : (Nat → Int → Int) → Prop} {S0 : Nat → Int → Int} {ws : List Int} (hP : rxPBGX S0 ws) : rx_obK X S0 rxC253.2.2.1 rxCSOV.2.2.1 (rxIBGX S0 ws) (rxmBGX S0 ws) 11 12 rxzBGX_11 rxzBGX_12 [.inr (3, (0, 1)), .inr (0, (10, 0))] (some 11) rxPSOV rxPSSOV := by
  intro S r hinv hXS I0 hin hs_ hf_
  have b_ := bx_bds_sat hs_
  have f_ := bx_fcl_ok hs_.1 hf_
  obtain ⟨⟨l8, u8⟩, ⟨l9, u9⟩, ⟨l10, u10⟩, -⟩ := b_
  have g := rxkBGX_11 hP hin I0 hinv l8 u8 l9 u9 l10 u10
  have ea : List.map (bx_num r) [.inr (3, (0, 1)), .inr (0, (10, 0))] = [1, (r 10)] := by
    simp only [List.map_cons, List.map_nil, bx_xv_ok hs_.1]
    rfl
  rw [ea]
  refine ⟨g.1, fun S_p w r_p hPS hX_p I1 hsm hr hw hs_p => ?_⟩
  have hw := hw _ rfl
  subst hw
  have b_p := hs_p.2.2 11 _ _ rfl
  have g2 := g.2 S_p (r_p 11) b_p.1 b_p.2 hPS I1 hsm
  show rxIBGX_12 S0 ws S_p (r_p 8) (r_p 9) (r_p 10) (r_p 11) ∧ rxmBGX_12 S0 ws S_p (r_p 8) (r_p 9) (r_p 10) (r_p 11) < _
  rw [hr 8 (by decide), hr 9 (by decide), hr 10 (by decide)]
  exact g2
theorem rxkBGX_13 {S0 : Nat → Int → Int} {ws : List Int} {S : Nat → Int → Int} {pa ps res sv : Int} (hP : rxPBGX S0 ws) (hin : bx_same rxL (bx_mdl rxC253.2.2.1) S0 S) (I0 : bx_Inv rxL S) (hinv : rxIBGX_13 S0 ws S pa ps res sv) (l8 : 0 ≤ pa) (u8 : pa ≤ 5) (l9 : 0 ≤ ps) (u9 : ps ≤ 7) (l10 : 0 ≤ res) (u10 : res ≤ 11) (l11 : 0 ≤ sv) (u11 : sv ≤ 1522) : rxPSOP S [1, pa] ∧ ∀ (S_p : Nat → Int → Int) (sp : Int), 0 ≤ sp → sp ≤ 1522 → rxPSSOP S [1, pa] S_p (some sp) → bx_Inv rxL S_p → bx_same rxL (bx_mdl rxCSOP.2.2.1) S S_p → rxIBGX_14 S0 ws S_p pa ps res sv sp ∧ rxmBGX_14 S0 ws S_p pa ps res sv sp < rxmBGX_13 S0 ws S pa ps res sv := by
  obtain ⟨hv, ⟨hr, h0⟩, ⟨hm, h12⟩, hg, hw, h5, r9, r10, r11, k1, k2, f146, f282, f147, f283, f148, f284, hop⟩ := hinv
  refine ⟨trivial, fun S_p sp _ _ hq _ hsm => ⟨?_, by unfold rxmBGX_13 rxmBGX_14; omega⟩⟩
  obtain ⟨hS, k9_, hw3, hv2⟩ := hq
  subst hS
  have k8_ : pa = k9_ := Option.some.inj (congrArg (fun l : List Int => l[1]?) hw3)
  subst k8_
  obtain ⟨z4, -⟩ := (rkPl_sm hin (by decide +kernel) hP.2).2.1.1 pa.toNat (by omega)
  rw [Int.toNat_of_nonneg (by omega)] at z4
  exact ⟨(Option.some.inj hv2).trans (z4.trans (by omega)), hv, ⟨hr, h0⟩, ⟨hm, h12⟩, hg, hw, h5, r9, r10, r11, k1, k2, f146, f282, f147, f283, f148, f284, hop⟩
theorem rxsBGX_13 {X : (Nat → Int → Int) → Prop} {S0 : Nat → Int → Int} {ws : List Int} (hP : rxPBGX S0 ws) : rx_obK X S0 rxC253.2.2.1 rxCSOP.2.2.1 (rxIBGX S0 ws) (rxmBGX S0 ws) 13 14 rxzBGX_13 rxzBGX_14 [.inr (3, (0, 1)), .inr (0, (8, 0))] (some 12) rxPSOP rxPSSOP := by
  intro S r hinv hXS I0 hin hs_ hf_
  have b_ := bx_bds_sat hs_
  have f_ := bx_fcl_ok hs_.1 hf_
  obtain ⟨⟨l8, u8⟩, ⟨l9, u9⟩, ⟨l10, u10⟩, ⟨l11, u11⟩, -⟩ := b_
  have g := rxkBGX_13 hP hin I0 hinv l8 u8 l9 u9 l10 u10 l11 u11
  have ea : List.map (bx_num r) [.inr (3, (0, 1)), .inr (0, (8, 0))] = [1, (r 8)] := by
    simp only [List.map_cons, List.map_nil, bx_xv_ok hs_.1]
    rfl
  rw [ea]
  refine ⟨g.1, fun S_p w r_p hPS hX_p I1 hsm hr hw hs_p => ?_⟩
  have hw := hw _ rfl
  subst hw
  have b_p := hs_p.2.2 12 _ _ rfl
  have g2 := g.2 S_p (r_p 12) b_p.1 b_p.2 hPS I1 hsm
  show rxIBGX_14 S0 ws S_p (r_p 8) (r_p 9) (r_p 10) (r_p 11) (r_p 12) ∧ rxmBGX_14 S0 ws S_p (r_p 8) (r_p 9) (r_p 10) (r_p 11) (r_p 12) < _
  rw [hr 8 (by decide), hr 9 (by decide), hr 10 (by decide), hr 11 (by decide)]
  exact g2
theorem rxkBGX_14 {S0 : Nat → Int → Int} {ws : List Int} {S : Nat → Int → Int} {pa ps res sv sp : Int} (hP : rxPBGX S0 ws) (hin : bx_same rxL (bx_mdl rxC253.2.2.1) S0 S) (I0 : bx_Inv rxL S) (hinv : rxIBGX_14 S0 ws S pa ps res sv sp) (l8 : 0 ≤ pa) (u8 : pa ≤ 5) (l9 : 0 ≤ ps) (u9 : ps ≤ 7) (l10 : 0 ≤ res) (u10 : res ≤ 11) (l11 : 0 ≤ sv) (u11 : sv ≤ 1522) (l12 : 0 ≤ sp) (u12 : sp ≤ 1522) : rxPSCZ S [sv, sp] ∧ ∀ (S_p : Nat → Int → Int), rxPSSCZ S [sv, sp] S_p none → bx_Inv rxL S_p → bx_same rxL (bx_mdl rxCSCZ.2.2.1) S S_p → rxIBGX_15 S0 ws S_p pa ps res sv sp ∧ rxmBGX_15 S0 ws S_p pa ps res sv sp < rxmBGX_14 S0 ws S pa ps res sv sp := by
  obtain ⟨hv2, hv, ⟨hr, h0⟩, ⟨hm, h12⟩, hg, hw, h5, r9, r10, r11, k1, k2, f146, f282, f147, f283, f148, f284, hop⟩ := hinv
  have hpl : rkPl S := rkPl_sm hin (by decide +kernel) hP.2
  have ev : sv = 23 + 3 * (6 + S0 1 5) := by omega
  rw [ev, hv2]
  refine ⟨rjd_cz hpl (by omega) (by omega) (by omega) (by omega) (by omega), fun S_p hq _ hsm => ⟨?_, by unfold rxmBGX_14 rxmBGX_15; omega⟩⟩
  obtain ⟨hcp, hfr⟩ := rjd_sc (by omega) (by omega) hq.2
  rw [show 24 + 3 * (6 + S0 1 5) = 42 + 3 * S0 1 5 by omega, show 25 + 3 * (6 + S0 1 5) = 43 + 3 * S0 1 5 by omega] at hcp hfr
  refine ⟨⟨hr, h0⟩, ⟨hm, h12⟩, hg, hw, (hfr _ _ (by omega) (by omega)).trans h5, fun i i0 i1 => (hfr _ _ (by omega) (by omega)).trans (r9 i i0 i1), fun i i0 i1 => (hfr _ _ (by omega) (by omega)).trans (r10 i i0 i1), fun i i0 i1 => (hfr _ _ (by omega) (by omega)).trans (r11 i i0 i1), (hfr _ _ (by omega) (by omega)).trans k1, (hfr _ _ (by omega) (by omega)).trans k2, fun i i0 i1 => (hfr _ _ (by omega) (by omega)).trans (f146 i i0 i1), fun i i0 i1 => (hfr _ _ (by omega) (by omega)).trans (f282 i i0 i1), fun i i0 i1 => (hfr _ _ (by omega) (by omega)).trans (f147 i i0 i1), fun i i0 i1 => (hfr _ _ (by omega) (by omega)).trans (f283 i i0 i1), fun i i0 i1 => (hfr _ _ (by omega) (by omega)).trans (f148 i i0 i1), fun i i0 i1 => (hfr _ _ (by omega) (by omega)).trans (f284 i i0 i1), fun p t a b c d e => (hfr _ _ (by omega) (by omega)).trans (hop p t a b c d e), fun t a b => ?_⟩
  have x := hop _ t (rjdRg_w (pa := pa) (by omega) (by omega)) a b (by omega) (by omega)
  have y := hop _ t (rjdRg_n (pa := pa) (by omega) (by omega)) a b (by omega) (by omega)
  exact ⟨(hcp t a b).1.trans x, (hcp t a b).2.trans y⟩
theorem rxsBGX_14 {X : (Nat → Int → Int) → Prop} {S0 : Nat → Int → Int} {ws : List Int} (hP : rxPBGX S0 ws) : rx_obK X S0 rxC253.2.2.1 rxCSCZ.2.2.1 (rxIBGX S0 ws) (rxmBGX S0 ws) 14 15 rxzBGX_14 rxzBGX_15 [.inr (3, (11, 0)), .inr (3, (12, 0))] none rxPSCZ rxPSSCZ := by
  intro S r hinv hXS I0 hin hs_ hf_
  have b_ := bx_bds_sat hs_
  have f_ := bx_fcl_ok hs_.1 hf_
  obtain ⟨⟨l8, u8⟩, ⟨l9, u9⟩, ⟨l10, u10⟩, ⟨l11, u11⟩, ⟨l12, u12⟩, -⟩ := b_
  have g := rxkBGX_14 hP hin I0 hinv l8 u8 l9 u9 l10 u10 l11 u11 l12 u12
  have ea : List.map (bx_num r) [.inr (3, (11, 0)), .inr (3, (12, 0))] = [(r 11), (r 12)] := by
    simp only [List.map_cons, List.map_nil, bx_xv_ok hs_.1]
    rfl
  rw [ea]
  refine ⟨g.1, fun S_p w r_p hPS hX_p I1 hsm hr hw hs_p => ?_⟩
  have hw : w = none := hPS.1
  subst hw
  have g2 := g.2 S_p hPS I1 hsm
  show rxIBGX_15 S0 ws S_p (r_p 8) (r_p 9) (r_p 10) (r_p 11) (r_p 12) ∧ rxmBGX_15 S0 ws S_p (r_p 8) (r_p 9) (r_p 10) (r_p 11) (r_p 12) < _
  rw [hr 8 (by decide), hr 9 (by decide), hr 10 (by decide), hr 11 (by decide), hr 12 (by decide)]
  exact g2
theorem rxcBGX_0_0 {S0 : Nat → Int → Int} {ws : List Int} {S : Nat → Int → Int} {pa ps : Int} (hP : rxPBGX S0 ws) (hin : bx_same rxL (bx_mdl rxC253.2.2.1) S0 S) (I0 : bx_Inv rxL S) (hinv : rxIBGX_0 S0 ws S pa ps) (l8 : (-2147483648) ≤ pa) (u8 : pa ≤ (-1)) (l9 : (-2147483648) ≤ ps) (u9 : ps ≤ 2147483647) : (True) ∧ (True) ∧ rxIBGX_1 S0 ws S pa ps ∧ rxmBGX_1 S0 ws S pa ps < rxmBGX_0 S0 ws S pa ps := by
  exact rxc253_0_0 hP.1 hin I0 hinv l8 u8 l9 u9
theorem rxgBGX_0_0 {X : (Nat → Int → Int) → Prop} {S0 : Nat → Int → Int} {ws : List Int} (hP : rxPBGX S0 ws) : bx_obC rxL X S0 rxC253.2.2.1 (rxIBGX S0 ws) (rxmBGX S0 ws) 0 rxzBGX_0 rxoBGX_0_0 := by
  intro S S_p r r_p hinv hX hin hsm_ hseg
  obtain ⟨I0, I1, h0_, hr_, b_, f_, d_⟩ := bx_cl (evs := []) (fvs := []) hseg (by decide +kernel) (by decide +kernel)
  have hinv : rxIBGX_0 S0 ws S (r 8) (r 9) := hinv
  rw [← hr_ 8 (by decide), ← hr_ 9 (by decide)] at hinv
  obtain ⟨⟨l8, u8⟩, ⟨l9, u9⟩, -⟩ := b_
  have w_ := d_
  subst w_
  have g := rxcBGX_0_0 hP hin I0 hinv l8 u8 l9 u9
  refine ⟨bx_narP_ok (l := []) g.1, bx_nfP_ok h0_ (fvs := []) (by decide +kernel) g.2.1, ?_, ?_⟩
  · show rxIBGX_1 S0 ws S_p (bx_val [(0, 0), (0, 0), (0, 0), (0, 0), (0, 0), (0, 0), (0, 0), (0, 0), (8, 0), (9, 0)] r_p 8) (bx_val [(0, 0), (0, 0), (0, 0), (0, 0), (0, 0), (0, 0), (0, 0), (0, 0), (8, 0), (9, 0)] r_p 9)
    rw [bx_val_x (n := 8) (e := (8, 0)) h0_ rfl, bx_val_x (n := 9) (e := (9, 0)) h0_ rfl]
    exact g.2.2.1
  · show rxmBGX_1 S0 ws S_p (bx_val [(0, 0), (0, 0), (0, 0), (0, 0), (0, 0), (0, 0), (0, 0), (0, 0), (8, 0), (9, 0)] r_p 8) (bx_val [(0, 0), (0, 0), (0, 0), (0, 0), (0, 0), (0, 0), (0, 0), (0, 0), (8, 0), (9, 0)] r_p 9) < rxmBGX_0 S0 ws S_p (r 8) (r 9)
    rw [bx_val_x (n := 8) (e := (8, 0)) h0_ rfl, bx_val_x (n := 9) (e := (9, 0)) h0_ rfl, ← hr_ 8 (by decide), ← hr_ 9 (by decide)]
    exact g.2.2.2
theorem rxcBGX_0_1 {S0 : Nat → Int → Int} {ws : List Int} {S : Nat → Int → Int} {pa ps x10 : Int} (hP : rxPBGX S0 ws) (hin : bx_same rxL (bx_mdl rxC253.2.2.1) S0 S) (I0 : bx_Inv rxL S) (hinv : rxIBGX_0 S0 ws S pa ps) (l8 : 0 ≤ pa) (u8 : pa ≤ 2147483647) (l9 : (-2147483648) ≤ ps) (u9 : ps ≤ 2147483647) (l10 : 0 ≤ x10) (u10 : x10 ≤ 6) (f0 : x10 ≤ pa) (e0 : S 1 0 = x10) : (True) ∧ (True) ∧ rxIBGX_1 S0 ws S pa ps ∧ rxmBGX_1 S0 ws S pa ps < rxmBGX_0 S0 ws S pa ps := by
  exact rxc253_0_1 hP.1 hin I0 hinv l8 u8 l9 u9 l10 u10 f0 e0
theorem rxgBGX_0_1 {X : (Nat → Int → Int) → Prop} {S0 : Nat → Int → Int} {ws : List Int} (hP : rxPBGX S0 ws) : bx_obC rxL X S0 rxC253.2.2.1 (rxIBGX S0 ws) (rxmBGX S0 ws) 0 rxzBGX_0 rxoBGX_0_1 := by
  intro S S_p r r_p hinv hX hin hsm_ hseg
  obtain ⟨I0, I1, h0_, hr_, b_, f_, d_⟩ := bx_cl (evs := [(0, (0, 1), (0, 0), .inr (0, (10, 0)))]) (fvs := [(1, (10, 0), (8, 0), (0, 0))]) hseg (by decide +kernel) (by decide +kernel)
  have hinv : rxIBGX_0 S0 ws S (r 8) (r 9) := hinv
  rw [← hr_ 8 (by decide), ← hr_ 9 (by decide)] at hinv
  obtain ⟨⟨l8, u8⟩, ⟨l9, u9⟩, ⟨l10, u10⟩, -⟩ := b_
  obtain ⟨f0, -⟩ := f_
  obtain ⟨e0, w_⟩ := d_
  subst w_
  have g := rxcBGX_0_1 hP hin I0 hinv l8 u8 l9 u9 l10 u10 f0 e0
  refine ⟨bx_narP_ok (l := []) g.1, bx_nfP_ok h0_ (fvs := []) (by decide +kernel) g.2.1, ?_, ?_⟩
  · show rxIBGX_1 S0 ws S_p (bx_val [(0, 0), (0, 0), (0, 0), (0, 0), (0, 0), (0, 0), (0, 0), (0, 0), (8, 0), (9, 0)] r_p 8) (bx_val [(0, 0), (0, 0), (0, 0), (0, 0), (0, 0), (0, 0), (0, 0), (0, 0), (8, 0), (9, 0)] r_p 9)
    rw [bx_val_x (n := 8) (e := (8, 0)) h0_ rfl, bx_val_x (n := 9) (e := (9, 0)) h0_ rfl]
    exact g.2.2.1
  · show rxmBGX_1 S0 ws S_p (bx_val [(0, 0), (0, 0), (0, 0), (0, 0), (0, 0), (0, 0), (0, 0), (0, 0), (8, 0), (9, 0)] r_p 8) (bx_val [(0, 0), (0, 0), (0, 0), (0, 0), (0, 0), (0, 0), (0, 0), (0, 0), (8, 0), (9, 0)] r_p 9) < rxmBGX_0 S0 ws S_p (r 8) (r 9)
    rw [bx_val_x (n := 8) (e := (8, 0)) h0_ rfl, bx_val_x (n := 9) (e := (9, 0)) h0_ rfl, ← hr_ 8 (by decide), ← hr_ 9 (by decide)]
    exact g.2.2.2
theorem rxcBGX_0_2 {S0 : Nat → Int → Int} {ws : List Int} {S : Nat → Int → Int} {pa ps x10 : Int} (hP : rxPBGX S0 ws) (hin : bx_same rxL (bx_mdl rxC253.2.2.1) S0 S) (I0 : bx_Inv rxL S) (hinv : rxIBGX_0 S0 ws S pa ps) (l8 : 0 ≤ pa) (u8 : pa ≤ 5) (l9 : (-2147483648) ≤ ps) (u9 : ps ≤ (-1)) (l10 : 1 ≤ x10) (u10 : x10 ≤ 6) (f0 : pa < x10) (e0 : S 1 0 = x10) : (True) ∧ (True) ∧ rxIBGX_1 S0 ws S pa ps ∧ rxmBGX_1 S0 ws S pa ps < rxmBGX_0 S0 ws S pa ps := by
  exact rxc253_0_2 hP.1 hin I0 hinv l8 u8 l9 u9 l10 u10 f0 e0
theorem rxgBGX_0_2 {X : (Nat → Int → Int) → Prop} {S0 : Nat → Int → Int} {ws : List Int} (hP : rxPBGX S0 ws) : bx_obC rxL X S0 rxC253.2.2.1 (rxIBGX S0 ws) (rxmBGX S0 ws) 0 rxzBGX_0 rxoBGX_0_2 := by
  intro S S_p r r_p hinv hX hin hsm_ hseg
  obtain ⟨I0, I1, h0_, hr_, b_, f_, d_⟩ := bx_cl (evs := [(0, (0, 1), (0, 0), .inr (0, (10, 0)))]) (fvs := [(0, (8, 0), (10, 0), (0, 0))]) hseg (by decide +kernel) (by decide +kernel)
  have hinv : rxIBGX_0 S0 ws S (r 8) (r 9) := hinv
  rw [← hr_ 8 (by decide), ← hr_ 9 (by decide)] at hinv
  obtain ⟨⟨l8, u8⟩, ⟨l9, u9⟩, ⟨l10, u10⟩, -⟩ := b_
  obtain ⟨f0, -⟩ := f_
  obtain ⟨e0, w_⟩ := d_
  subst w_
  have g := rxcBGX_0_2 hP hin I0 hinv l8 u8 l9 u9 l10 u10 f0 e0
  refine ⟨bx_narP_ok (l := []) g.1, bx_nfP_ok h0_ (fvs := []) (by decide +kernel) g.2.1, ?_, ?_⟩
  · show rxIBGX_1 S0 ws S_p (bx_val [(0, 0), (0, 0), (0, 0), (0, 0), (0, 0), (0, 0), (0, 0), (0, 0), (8, 0), (9, 0)] r_p 8) (bx_val [(0, 0), (0, 0), (0, 0), (0, 0), (0, 0), (0, 0), (0, 0), (0, 0), (8, 0), (9, 0)] r_p 9)
    rw [bx_val_x (n := 8) (e := (8, 0)) h0_ rfl, bx_val_x (n := 9) (e := (9, 0)) h0_ rfl]
    exact g.2.2.1
  · show rxmBGX_1 S0 ws S_p (bx_val [(0, 0), (0, 0), (0, 0), (0, 0), (0, 0), (0, 0), (0, 0), (0, 0), (8, 0), (9, 0)] r_p 8) (bx_val [(0, 0), (0, 0), (0, 0), (0, 0), (0, 0), (0, 0), (0, 0), (0, 0), (8, 0), (9, 0)] r_p 9) < rxmBGX_0 S0 ws S_p (r 8) (r 9)
    rw [bx_val_x (n := 8) (e := (8, 0)) h0_ rfl, bx_val_x (n := 9) (e := (9, 0)) h0_ rfl, ← hr_ 8 (by decide), ← hr_ 9 (by decide)]
    exact g.2.2.2
theorem rxcBGX_0_3 {S0 : Nat → Int → Int} {ws : List Int} {S : Nat → Int → Int} {pa ps x10 x11 : Int} (hP : rxPBGX S0 ws) (hin : bx_same rxL (bx_mdl rxC253.2.2.1) S0 S) (I0 : bx_Inv rxL S) (hinv : rxIBGX_0 S0 ws S pa ps) (l8 : 0 ≤ pa) (u8 : pa ≤ 5) (l9 : 0 ≤ ps) (u9 : ps ≤ 2147483647) (l10 : 1 ≤ x10) (u10 : x10 ≤ 6) (l11 : 0 ≤ x11) (u11 : x11 ≤ 8) (f0 : x11 ≤ ps) (f1 : pa < x10) (e1 : S 1 0 = x10) (e0 : S 5 0 = x11) : (True) ∧ (True) ∧ rxIBGX_1 S0 ws S pa ps ∧ rxmBGX_1 S0 ws S pa ps < rxmBGX_0 S0 ws S pa ps := by
  exact rxc253_0_3 hP.1 hin I0 hinv l8 u8 l9 u9 l10 u10 l11 u11 f0 f1 e1 e0
theorem rxgBGX_0_3 {X : (Nat → Int → Int) → Prop} {S0 : Nat → Int → Int} {ws : List Int} (hP : rxPBGX S0 ws) : bx_obC rxL X S0 rxC253.2.2.1 (rxIBGX S0 ws) (rxmBGX S0 ws) 0 rxzBGX_0 rxoBGX_0_3 := by
  intro S S_p r r_p hinv hX hin hsm_ hseg
  obtain ⟨I0, I1, h0_, hr_, b_, f_, d_⟩ := bx_cl (evs := [(0, (0, 5), (0, 0), .inr (0, (11, 0))), (0, (0, 1), (0, 0), .inr (0, (10, 0)))]) (fvs := [(1, (11, 0), (9, 0), (0, 0)), (0, (8, 0), (10, 0), (0, 0))]) hseg (by decide +kernel) (by decide +kernel)
  have hinv : rxIBGX_0 S0 ws S (r 8) (r 9) := hinv
  rw [← hr_ 8 (by decide), ← hr_ 9 (by decide)] at hinv
  obtain ⟨⟨l8, u8⟩, ⟨l9, u9⟩, ⟨l10, u10⟩, ⟨l11, u11⟩, -⟩ := b_
  obtain ⟨f0, f1, -⟩ := f_
  obtain ⟨e0, ⟨e1, w_⟩⟩ := d_
  subst w_
  have g := rxcBGX_0_3 hP hin I0 hinv l8 u8 l9 u9 l10 u10 l11 u11 f0 f1 e1 e0
  refine ⟨bx_narP_ok (l := []) g.1, bx_nfP_ok h0_ (fvs := []) (by decide +kernel) g.2.1, ?_, ?_⟩
  · show rxIBGX_1 S0 ws S_p (bx_val [(0, 0), (0, 0), (0, 0), (0, 0), (0, 0), (0, 0), (0, 0), (0, 0), (8, 0), (9, 0)] r_p 8) (bx_val [(0, 0), (0, 0), (0, 0), (0, 0), (0, 0), (0, 0), (0, 0), (0, 0), (8, 0), (9, 0)] r_p 9)
    rw [bx_val_x (n := 8) (e := (8, 0)) h0_ rfl, bx_val_x (n := 9) (e := (9, 0)) h0_ rfl]
    exact g.2.2.1
  · show rxmBGX_1 S0 ws S_p (bx_val [(0, 0), (0, 0), (0, 0), (0, 0), (0, 0), (0, 0), (0, 0), (0, 0), (8, 0), (9, 0)] r_p 8) (bx_val [(0, 0), (0, 0), (0, 0), (0, 0), (0, 0), (0, 0), (0, 0), (0, 0), (8, 0), (9, 0)] r_p 9) < rxmBGX_0 S0 ws S_p (r 8) (r 9)
    rw [bx_val_x (n := 8) (e := (8, 0)) h0_ rfl, bx_val_x (n := 9) (e := (9, 0)) h0_ rfl, ← hr_ 8 (by decide), ← hr_ 9 (by decide)]
    exact g.2.2.2
theorem rxcBGX_0_4 {S0 : Nat → Int → Int} {ws : List Int} {S : Nat → Int → Int} {pa ps x10 x11 : Int} (hP : rxPBGX S0 ws) (hin : bx_same rxL (bx_mdl rxC253.2.2.1) S0 S) (I0 : bx_Inv rxL S) (hinv : rxIBGX_0 S0 ws S pa ps) (l8 : 0 ≤ pa) (u8 : pa ≤ 5) (l9 : 0 ≤ ps) (u9 : ps ≤ 7) (l10 : 1 ≤ x10) (u10 : x10 ≤ 6) (l11 : 1 ≤ x11) (u11 : x11 ≤ 8) (f0 : ps < x11) (f1 : pa < x10) (e1 : S 1 0 = x10) (e0 : S 5 0 = x11) : (True) ∧ (True) ∧ rxIBGX_3 S0 ws S pa ps ∧ rxmBGX_3 S0 ws S pa ps < rxmBGX_0 S0 ws S pa ps := by
  exact rxc253_0_4 hP.1 hin I0 hinv l8 u8 l9 u9 l10 u10 l11 u11 f0 f1 e1 e0
theorem rxgBGX_0_4 {X : (Nat → Int → Int) → Prop} {S0 : Nat → Int → Int} {ws : List Int} (hP : rxPBGX S0 ws) : bx_obC rxL X S0 rxC253.2.2.1 (rxIBGX S0 ws) (rxmBGX S0 ws) 0 rxzBGX_0 rxoBGX_0_4 := by
  intro S S_p r r_p hinv hX hin hsm_ hseg
  obtain ⟨I0, I1, h0_, hr_, b_, f_, d_⟩ := bx_cl (evs := [(0, (0, 5), (0, 0), .inr (0, (11, 0))), (0, (0, 1), (0, 0), .inr (0, (10, 0)))]) (fvs := [(0, (9, 0), (11, 0), (0, 0)), (0, (8, 0), (10, 0), (0, 0))]) hseg (by decide +kernel) (by decide +kernel)
  have hinv : rxIBGX_0 S0 ws S (r 8) (r 9) := hinv
  rw [← hr_ 8 (by decide), ← hr_ 9 (by decide)] at hinv
  obtain ⟨⟨l8, u8⟩, ⟨l9, u9⟩, ⟨l10, u10⟩, ⟨l11, u11⟩, -⟩ := b_
  obtain ⟨f0, f1, -⟩ := f_
  obtain ⟨e0, ⟨e1, w_⟩⟩ := d_
  subst w_
  have g := rxcBGX_0_4 hP hin I0 hinv l8 u8 l9 u9 l10 u10 l11 u11 f0 f1 e1 e0
  refine ⟨bx_narP_ok (l := []) g.1, bx_nfP_ok h0_ (fvs := []) (by decide +kernel) g.2.1, ?_, ?_⟩
  · show rxIBGX_3 S0 ws S_p (bx_val [(0, 0), (0, 0), (0, 0), (0, 0), (0, 0), (0, 0), (0, 0), (0, 0), (8, 0), (9, 0)] r_p 8) (bx_val [(0, 0), (0, 0), (0, 0), (0, 0), (0, 0), (0, 0), (0, 0), (0, 0), (8, 0), (9, 0)] r_p 9)
    rw [bx_val_x (n := 8) (e := (8, 0)) h0_ rfl, bx_val_x (n := 9) (e := (9, 0)) h0_ rfl]
    exact g.2.2.1
  · show rxmBGX_3 S0 ws S_p (bx_val [(0, 0), (0, 0), (0, 0), (0, 0), (0, 0), (0, 0), (0, 0), (0, 0), (8, 0), (9, 0)] r_p 8) (bx_val [(0, 0), (0, 0), (0, 0), (0, 0), (0, 0), (0, 0), (0, 0), (0, 0), (8, 0), (9, 0)] r_p 9) < rxmBGX_0 S0 ws S_p (r 8) (r 9)
    rw [bx_val_x (n := 8) (e := (8, 0)) h0_ rfl, bx_val_x (n := 9) (e := (9, 0)) h0_ rfl, ← hr_ 8 (by decide), ← hr_ 9 (by decide)]
    exact g.2.2.2
theorem rxdBGX_2_0 {S0 : Nat → Int → Int} {ws : List Int} {S : Nat → Int → Int} {pa ps res : Int} (hP : rxPBGX S0 ws) (hin : bx_same rxL (bx_mdl rxC253.2.2.1) S0 S) (hin2 : bx_same rxL (bx_mdl rxC253.2.2.1) S S) (I0 : bx_Inv rxL S) (I1 : bx_Inv rxL S) (hinv : rxIBGX_2 S0 ws S pa ps res) (l8 : (-2147483648) ≤ pa) (u8 : pa ≤ 2147483647) (l9 : (-2147483648) ≤ ps) (u9 : ps ≤ 2147483647) (l10 : (-6) ≤ res) (u10 : res ≤ (-1)) : (True) ∧ rxPSBGX S0 ws S (some res) := by
  obtain ⟨a_, c_⟩ := rxd253_2_0 hP.1 hin hin2 I0 I1 hinv l8 u8 l9 u9 l10 u10
  obtain ⟨h1, hg, hw, hf⟩ := id hinv
  exact ⟨a_, c_, pa, ps, hw, fun _ _ _ => rjdSm_sm hf (by decide +kernel), fun z hz h0 => (by have := Option.some.inj hz; exfalso; omega)⟩
theorem rxfBGX_2_0 {X : (Nat → Int → Int) → Prop} {S0 : Nat → Int → Int} {ws : List Int} (hP : rxPBGX S0 ws) : bx_obE rxL X S0 rxC253.2.2.1 (rxIBGX S0 ws) (rxPSBGX S0 ws) 2 rxzBGX_2 rxeBGX_2_0 := by
  intro S S_p r r_p hinv hX hin hsm_ hseg
  obtain ⟨I0, I1, h0_, hr_, b_, f_, d_⟩ := bx_cl (evs := []) (fvs := []) hseg (by decide +kernel) (by decide +kernel)
  have hinv : rxIBGX_2 S0 ws S (r 8) (r 9) (r 10) := hinv
  rw [← hr_ 8 (by decide), ← hr_ 9 (by decide), ← hr_ 10 (by decide)] at hinv
  obtain ⟨⟨l8, u8⟩, ⟨l9, u9⟩, ⟨l10, u10⟩, -⟩ := b_
  have w_ := d_
  subst w_
  have g := rxdBGX_2_0 hP hin hsm_ I0 I1 hinv l8 u8 l9 u9 l10 u10
  refine ⟨bx_narP_ok (l := []) g.1, ?_⟩
  show rxPSBGX S0 ws S_p (some (bx_num r_p (.inr (0, (10, 0)))))
  rw [bx_xv_ok h0_]
  exact g.2
theorem rxcBGX_4_0 {S0 : Nat → Int → Int} {ws : List Int} {S : Nat → Int → Int} {pa ps r : Int} (hP : rxPBGX S0 ws) (hin : bx_same rxL (bx_mdl rxC253.2.2.1) S0 S) (I0 : bx_Inv rxL S) (hinv : rxIBGX_4 S0 ws S pa ps r) (l8 : 0 ≤ pa) (u8 : pa ≤ 5) (l9 : 0 ≤ ps) (u9 : ps ≤ 7) (l10 : 0 ≤ r) (u10 : r ≤ 0) : (True) ∧ (True) ∧ rxIBGX_5 S0 ws S pa ps ∧ rxmBGX_5 S0 ws S pa ps < rxmBGX_4 S0 ws S pa ps r := by
  exact rxc253_4_0 hP.1 hin I0 hinv l8 u8 l9 u9 l10 u10
theorem rxgBGX_4_0 {X : (Nat → Int → Int) → Prop} {S0 : Nat → Int → Int} {ws : List Int} (hP : rxPBGX S0 ws) : bx_obC rxL X S0 rxC253.2.2.1 (rxIBGX S0 ws) (rxmBGX S0 ws) 4 rxzBGX_4 rxoBGX_4_0 := by
  intro S S_p r r_p hinv hX hin hsm_ hseg
  obtain ⟨I0, I1, h0_, hr_, b_, f_, d_⟩ := bx_cl (evs := []) (fvs := []) hseg (by decide +kernel) (by decide +kernel)
  have hinv : rxIBGX_4 S0 ws S (r 8) (r 9) (r 10) := hinv
  rw [← hr_ 8 (by decide), ← hr_ 9 (by decide), ← hr_ 10 (by decide)] at hinv
  obtain ⟨⟨l8, u8⟩, ⟨l9, u9⟩, ⟨l10, u10⟩, -⟩ := b_
  have w_ := d_
  subst w_
  have g := rxcBGX_4_0 hP hin I0 hinv l8 u8 l9 u9 l10 u10
  refine ⟨bx_narP_ok (l := []) g.1, bx_nfP_ok h0_ (fvs := []) (by decide +kernel) g.2.1, ?_, ?_⟩
  · show rxIBGX_5 S0 ws S_p (bx_val [(0, 0), (0, 0), (0, 0), (0, 0), (0, 0), (0, 0), (0, 0), (0, 0), (8, 0), (9, 0)] r_p 8) (bx_val [(0, 0), (0, 0), (0, 0), (0, 0), (0, 0), (0, 0), (0, 0), (0, 0), (8, 0), (9, 0)] r_p 9)
    rw [bx_val_x (n := 8) (e := (8, 0)) h0_ rfl, bx_val_x (n := 9) (e := (9, 0)) h0_ rfl]
    exact g.2.2.1
  · show rxmBGX_5 S0 ws S_p (bx_val [(0, 0), (0, 0), (0, 0), (0, 0), (0, 0), (0, 0), (0, 0), (0, 0), (8, 0), (9, 0)] r_p 8) (bx_val [(0, 0), (0, 0), (0, 0), (0, 0), (0, 0), (0, 0), (0, 0), (0, 0), (8, 0), (9, 0)] r_p 9) < rxmBGX_4 S0 ws S_p (r 8) (r 9) (r 10)
    rw [bx_val_x (n := 8) (e := (8, 0)) h0_ rfl, bx_val_x (n := 9) (e := (9, 0)) h0_ rfl, ← hr_ 8 (by decide), ← hr_ 9 (by decide), ← hr_ 10 (by decide)]
    exact g.2.2.2
theorem rxcBGX_4_1 {S0 : Nat → Int → Int} {ws : List Int} {S : Nat → Int → Int} {pa ps r x11 : Int} (hP : rxPBGX S0 ws) (hin : bx_same rxL (bx_mdl rxC253.2.2.1) S0 S) (I0 : bx_Inv rxL S) (hinv : rxIBGX_4 S0 ws S pa ps r) (l8 : 0 ≤ pa) (u8 : pa ≤ 5) (l9 : 0 ≤ ps) (u9 : ps ≤ 7) (l10 : 1 ≤ r) (u10 : r ≤ 1) (l11 : 12 ≤ x11) (u11 : x11 ≤ 12) (f0 : r ≠ 0) (e0 : S 1 5 = x11) : (True) ∧ (True) ∧ rxIBGX_7 S0 ws S pa ps ∧ rxmBGX_7 S0 ws S pa ps < rxmBGX_4 S0 ws S pa ps r := by
  exact rxc253_4_1 hP.1 hin I0 hinv l8 u8 l9 u9 l10 u10 l11 u11 f0 e0
theorem rxgBGX_4_1 {X : (Nat → Int → Int) → Prop} {S0 : Nat → Int → Int} {ws : List Int} (hP : rxPBGX S0 ws) : bx_obC rxL X S0 rxC253.2.2.1 (rxIBGX S0 ws) (rxmBGX S0 ws) 4 rxzBGX_4 rxoBGX_4_1 := by
  intro S S_p r r_p hinv hX hin hsm_ hseg
  obtain ⟨I0, I1, h0_, hr_, b_, f_, d_⟩ := bx_cl (evs := [(0, (0, 1), (0, 5), .inr (0, (11, 0)))]) (fvs := [(3, (10, 0), (0, 0), (0, 0))]) hseg (by decide +kernel) (by decide +kernel)
  have hinv : rxIBGX_4 S0 ws S (r 8) (r 9) (r 10) := hinv
  rw [← hr_ 8 (by decide), ← hr_ 9 (by decide), ← hr_ 10 (by decide)] at hinv
  obtain ⟨⟨l8, u8⟩, ⟨l9, u9⟩, ⟨l10, u10⟩, ⟨l11, u11⟩, -⟩ := b_
  obtain ⟨f0, -⟩ := f_
  obtain ⟨e0, w_⟩ := d_
  subst w_
  have g := rxcBGX_4_1 hP hin I0 hinv l8 u8 l9 u9 l10 u10 l11 u11 f0 e0
  refine ⟨bx_narP_ok (l := []) g.1, bx_nfP_ok h0_ (fvs := []) (by decide +kernel) g.2.1, ?_, ?_⟩
  · show rxIBGX_7 S0 ws S_p (bx_val [(0, 0), (0, 0), (0, 0), (0, 0), (0, 0), (0, 0), (0, 0), (0, 0), (8, 0), (9, 0)] r_p 8) (bx_val [(0, 0), (0, 0), (0, 0), (0, 0), (0, 0), (0, 0), (0, 0), (0, 0), (8, 0), (9, 0)] r_p 9)
    rw [bx_val_x (n := 8) (e := (8, 0)) h0_ rfl, bx_val_x (n := 9) (e := (9, 0)) h0_ rfl]
    exact g.2.2.1
  · show rxmBGX_7 S0 ws S_p (bx_val [(0, 0), (0, 0), (0, 0), (0, 0), (0, 0), (0, 0), (0, 0), (0, 0), (8, 0), (9, 0)] r_p 8) (bx_val [(0, 0), (0, 0), (0, 0), (0, 0), (0, 0), (0, 0), (0, 0), (0, 0), (8, 0), (9, 0)] r_p 9) < rxmBGX_4 S0 ws S_p (r 8) (r 9) (r 10)
    rw [bx_val_x (n := 8) (e := (8, 0)) h0_ rfl, bx_val_x (n := 9) (e := (9, 0)) h0_ rfl, ← hr_ 8 (by decide), ← hr_ 9 (by decide), ← hr_ 10 (by decide)]
    exact g.2.2.2
theorem rxcBGX_4_2 {S0 : Nat → Int → Int} {ws : List Int} {S : Nat → Int → Int} {pa ps r x11 : Int} (hP : rxPBGX S0 ws) (hin : bx_same rxL (bx_mdl rxC253.2.2.1) S0 S) (I0 : bx_Inv rxL S) (hinv : rxIBGX_4 S0 ws S pa ps r) (l8 : 0 ≤ pa) (u8 : pa ≤ 5) (l9 : 0 ≤ ps) (u9 : ps ≤ 7) (l10 : 1 ≤ r) (u10 : r ≤ 1) (l11 : 0 ≤ x11) (u11 : x11 ≤ 11) (f0 : r ≠ 0) (e0 : S 1 5 = x11) : (True) ∧ (True) ∧ rxIBGX_9 S0 ws S pa ps ∧ rxmBGX_9 S0 ws S pa ps < rxmBGX_4 S0 ws S pa ps r := by
  exact rxc253_4_2 hP.1 hin I0 hinv l8 u8 l9 u9 l10 u10 l11 u11 f0 e0
theorem rxgBGX_4_2 {X : (Nat → Int → Int) → Prop} {S0 : Nat → Int → Int} {ws : List Int} (hP : rxPBGX S0 ws) : bx_obC rxL X S0 rxC253.2.2.1 (rxIBGX S0 ws) (rxmBGX S0 ws) 4 rxzBGX_4 rxoBGX_4_2 := by
  intro S S_p r r_p hinv hX hin hsm_ hseg
  obtain ⟨I0, I1, h0_, hr_, b_, f_, d_⟩ := bx_cl (evs := [(0, (0, 1), (0, 5), .inr (0, (11, 0)))]) (fvs := [(3, (10, 0), (0, 0), (0, 0))]) hseg (by decide +kernel) (by decide +kernel)
  have hinv : rxIBGX_4 S0 ws S (r 8) (r 9) (r 10) := hinv
  rw [← hr_ 8 (by decide), ← hr_ 9 (by decide), ← hr_ 10 (by decide)] at hinv
  obtain ⟨⟨l8, u8⟩, ⟨l9, u9⟩, ⟨l10, u10⟩, ⟨l11, u11⟩, -⟩ := b_
  obtain ⟨f0, -⟩ := f_
  obtain ⟨e0, w_⟩ := d_
  subst w_
  have g := rxcBGX_4_2 hP hin I0 hinv l8 u8 l9 u9 l10 u10 l11 u11 f0 e0
  refine ⟨bx_narP_ok (l := []) g.1, bx_nfP_ok h0_ (fvs := []) (by decide +kernel) g.2.1, ?_, ?_⟩
  · show rxIBGX_9 S0 ws S_p (bx_val [(0, 0), (0, 0), (0, 0), (0, 0), (0, 0), (0, 0), (0, 0), (0, 0), (8, 0), (9, 0)] r_p 8) (bx_val [(0, 0), (0, 0), (0, 0), (0, 0), (0, 0), (0, 0), (0, 0), (0, 0), (8, 0), (9, 0)] r_p 9)
    rw [bx_val_x (n := 8) (e := (8, 0)) h0_ rfl, bx_val_x (n := 9) (e := (9, 0)) h0_ rfl]
    exact g.2.2.1
  · show rxmBGX_9 S0 ws S_p (bx_val [(0, 0), (0, 0), (0, 0), (0, 0), (0, 0), (0, 0), (0, 0), (0, 0), (8, 0), (9, 0)] r_p 8) (bx_val [(0, 0), (0, 0), (0, 0), (0, 0), (0, 0), (0, 0), (0, 0), (0, 0), (8, 0), (9, 0)] r_p 9) < rxmBGX_4 S0 ws S_p (r 8) (r 9) (r 10)
    rw [bx_val_x (n := 8) (e := (8, 0)) h0_ rfl, bx_val_x (n := 9) (e := (9, 0)) h0_ rfl, ← hr_ 8 (by decide), ← hr_ 9 (by decide), ← hr_ 10 (by decide)]
    exact g.2.2.2
theorem rxdBGX_6_0 {S0 : Nat → Int → Int} {ws : List Int} {S : Nat → Int → Int} {pa ps res : Int} (hP : rxPBGX S0 ws) (hin : bx_same rxL (bx_mdl rxC253.2.2.1) S0 S) (hin2 : bx_same rxL (bx_mdl rxC253.2.2.1) S S) (I0 : bx_Inv rxL S) (I1 : bx_Inv rxL S) (hinv : rxIBGX_6 S0 ws S pa ps res) (l8 : 0 ≤ pa) (u8 : pa ≤ 5) (l9 : 0 ≤ ps) (u9 : ps ≤ 7) (l10 : (-6) ≤ res) (u10 : res ≤ (-1)) : (True) ∧ rxPSBGX S0 ws S (some res) := by
  obtain ⟨a_, c_⟩ := rxd253_6_0 hP.1 hin hin2 I0 I1 hinv l8 u8 l9 u9 l10 u10
  obtain ⟨h1, hm, hg, hw, hf⟩ := id hinv
  exact ⟨a_, c_, pa, ps, hw, fun _ _ _ => rjdSm_sm hf (by decide +kernel), fun z hz h0 => (by have := Option.some.inj hz; exfalso; omega)⟩
theorem rxfBGX_6_0 {X : (Nat → Int → Int) → Prop} {S0 : Nat → Int → Int} {ws : List Int} (hP : rxPBGX S0 ws) : bx_obE rxL X S0 rxC253.2.2.1 (rxIBGX S0 ws) (rxPSBGX S0 ws) 6 rxzBGX_6 rxeBGX_6_0 := by
  intro S S_p r r_p hinv hX hin hsm_ hseg
  obtain ⟨I0, I1, h0_, hr_, b_, f_, d_⟩ := bx_cl (evs := []) (fvs := []) hseg (by decide +kernel) (by decide +kernel)
  have hinv : rxIBGX_6 S0 ws S (r 8) (r 9) (r 10) := hinv
  rw [← hr_ 8 (by decide), ← hr_ 9 (by decide), ← hr_ 10 (by decide)] at hinv
  obtain ⟨⟨l8, u8⟩, ⟨l9, u9⟩, ⟨l10, u10⟩, -⟩ := b_
  have w_ := d_
  subst w_
  have g := rxdBGX_6_0 hP hin hsm_ I0 I1 hinv l8 u8 l9 u9 l10 u10
  refine ⟨bx_narP_ok (l := []) g.1, ?_⟩
  show rxPSBGX S0 ws S_p (some (bx_num r_p (.inr (0, (10, 0)))))
  rw [bx_xv_ok h0_]
  exact g.2
theorem rxdBGX_8_0 {S0 : Nat → Int → Int} {ws : List Int} {S : Nat → Int → Int} {pa ps res : Int} (hP : rxPBGX S0 ws) (hin : bx_same rxL (bx_mdl rxC253.2.2.1) S0 S) (hin2 : bx_same rxL (bx_mdl rxC253.2.2.1) S S) (I0 : bx_Inv rxL S) (I1 : bx_Inv rxL S) (hinv : rxIBGX_8 S0 ws S pa ps res) (l8 : 0 ≤ pa) (u8 : pa ≤ 5) (l9 : 0 ≤ ps) (u9 : ps ≤ 7) (l10 : (-6) ≤ res) (u10 : res ≤ (-1)) : (True) ∧ rxPSBGX S0 ws S (some res) := by
  obtain ⟨a_, c_⟩ := rxd253_8_0 hP.1 hin hin2 I0 I1 hinv l8 u8 l9 u9 l10 u10
  obtain ⟨h1, hm, hg, hw, hf⟩ := id hinv
  exact ⟨a_, c_, pa, ps, hw, fun _ _ _ => rjdSm_sm hf (by decide +kernel), fun z hz h0 => (by have := Option.some.inj hz; exfalso; omega)⟩
theorem rxfBGX_8_0 {X : (Nat → Int → Int) → Prop} {S0 : Nat → Int → Int} {ws : List Int} (hP : rxPBGX S0 ws) : bx_obE rxL X S0 rxC253.2.2.1 (rxIBGX S0 ws) (rxPSBGX S0 ws) 8 rxzBGX_8 rxeBGX_8_0 := by
  intro S S_p r r_p hinv hX hin hsm_ hseg
  obtain ⟨I0, I1, h0_, hr_, b_, f_, d_⟩ := bx_cl (evs := []) (fvs := []) hseg (by decide +kernel) (by decide +kernel)
  have hinv : rxIBGX_8 S0 ws S (r 8) (r 9) (r 10) := hinv
  rw [← hr_ 8 (by decide), ← hr_ 9 (by decide), ← hr_ 10 (by decide)] at hinv
  obtain ⟨⟨l8, u8⟩, ⟨l9, u9⟩, ⟨l10, u10⟩, -⟩ := b_
  have w_ := d_
  subst w_
  have g := rxdBGX_8_0 hP hin hsm_ I0 I1 hinv l8 u8 l9 u9 l10 u10
  refine ⟨bx_narP_ok (l := []) g.1, ?_⟩
  show rxPSBGX S0 ws S_p (some (bx_num r_p (.inr (0, (10, 0)))))
  rw [bx_xv_ok h0_]
  exact g.2
theorem rxcBGX_10_0 {S0 : Nat → Int → Int} {ws : List Int} {S : Nat → Int → Int} {pa ps res : Int} (hP : rxPBGX S0 ws) (hin : bx_same rxL (bx_mdl rxC253.2.2.1) S0 S) (I0 : bx_Inv rxL S) (hinv : rxIBGX_10 S0 ws S pa ps res) (l8 : 0 ≤ pa) (u8 : pa ≤ 5) (l9 : 0 ≤ ps) (u9 : ps ≤ 7) (l10 : (-1) ≤ res) (u10 : res ≤ 11) : ((0 ≤ res ∧ res ≤ 11) ∧ True) ∧ (True) ∧ rxIBGX_11 S0 ws S pa ps res ∧ rxmBGX_11 S0 ws S pa ps res < rxmBGX_10 S0 ws S pa ps res := by
  obtain ⟨⟨hr, h0⟩, ⟨hm, h12⟩, hg, hw, h5, r9, r10, r11, k1, k2, f146, f282, f147, f283, f148, f284, hop⟩ := hinv
  exact ⟨⟨⟨by omega, by omega⟩, trivial⟩, trivial, ⟨⟨hr, h0⟩, ⟨hm, h12⟩, hg, hw, h5, r9, r10, r11, k1, k2, f146, f282, f147, f283, f148, f284, hop⟩, by unfold rxmBGX_10 rxmBGX_11; omega⟩
theorem rxgBGX_10_0 {X : (Nat → Int → Int) → Prop} {S0 : Nat → Int → Int} {ws : List Int} (hP : rxPBGX S0 ws) : bx_obC rxL X S0 rxC253.2.2.1 (rxIBGX S0 ws) (rxmBGX S0 ws) 10 rxzBGX_10 rxoBGX_10_0 := by
  intro S S_p r r_p hinv hX hin hsm_ hseg
  obtain ⟨I0, I1, h0_, hr_, b_, f_, d_⟩ := bx_cl (evs := []) (fvs := []) hseg (by decide +kernel) (by decide +kernel)
  have hinv : rxIBGX_10 S0 ws S (r 8) (r 9) (r 10) := hinv
  rw [← hr_ 8 (by decide), ← hr_ 9 (by decide), ← hr_ 10 (by decide)] at hinv
  obtain ⟨⟨l8, u8⟩, ⟨l9, u9⟩, ⟨l10, u10⟩, -⟩ := b_
  have w_ := d_
  subst w_
  have g := rxcBGX_10_0 hP hin I0 hinv l8 u8 l9 u9 l10 u10
  refine ⟨bx_narP_ok (l := [(10, 0, 11)]) g.1, bx_nfP_ok h0_ (fvs := []) (by decide +kernel) g.2.1, ?_, ?_⟩
  · show rxIBGX_11 S0 ws S_p (bx_val [(0, 0), (0, 0), (0, 0), (0, 0), (0, 0), (0, 0), (0, 0), (0, 0), (8, 0), (9, 0), (10, 0)] r_p 8) (bx_val [(0, 0), (0, 0), (0, 0), (0, 0), (0, 0), (0, 0), (0, 0), (0, 0), (8, 0), (9, 0), (10, 0)] r_p 9) (bx_val [(0, 0), (0, 0), (0, 0), (0, 0), (0, 0), (0, 0), (0, 0), (0, 0), (8, 0), (9, 0), (10, 0)] r_p 10)
    rw [bx_val_x (n := 8) (e := (8, 0)) h0_ rfl, bx_val_x (n := 9) (e := (9, 0)) h0_ rfl, bx_val_x (n := 10) (e := (10, 0)) h0_ rfl]
    exact g.2.2.1
  · show rxmBGX_11 S0 ws S_p (bx_val [(0, 0), (0, 0), (0, 0), (0, 0), (0, 0), (0, 0), (0, 0), (0, 0), (8, 0), (9, 0), (10, 0)] r_p 8) (bx_val [(0, 0), (0, 0), (0, 0), (0, 0), (0, 0), (0, 0), (0, 0), (0, 0), (8, 0), (9, 0), (10, 0)] r_p 9) (bx_val [(0, 0), (0, 0), (0, 0), (0, 0), (0, 0), (0, 0), (0, 0), (0, 0), (8, 0), (9, 0), (10, 0)] r_p 10) < rxmBGX_10 S0 ws S_p (r 8) (r 9) (r 10)
    rw [bx_val_x (n := 8) (e := (8, 0)) h0_ rfl, bx_val_x (n := 9) (e := (9, 0)) h0_ rfl, bx_val_x (n := 10) (e := (10, 0)) h0_ rfl, ← hr_ 8 (by decide), ← hr_ 9 (by decide), ← hr_ 10 (by decide)]
    exact g.2.2.2
theorem rxcBGX_12_0 {S0 : Nat → Int → Int} {ws : List Int} {S : Nat → Int → Int} {pa ps res sv : Int} (hP : rxPBGX S0 ws) (hin : bx_same rxL (bx_mdl rxC253.2.2.1) S0 S) (I0 : bx_Inv rxL S) (hinv : rxIBGX_12 S0 ws S pa ps res sv) (l8 : 0 ≤ pa) (u8 : pa ≤ 5) (l9 : 0 ≤ ps) (u9 : ps ≤ 7) (l10 : 0 ≤ res) (u10 : res ≤ 11) (l11 : 0 ≤ sv) (u11 : sv ≤ 1522) : (True) ∧ (True) ∧ rxIBGX_13 S0 ws S pa ps res sv ∧ rxmBGX_13 S0 ws S pa ps res sv < rxmBGX_12 S0 ws S pa ps res sv := by
  obtain ⟨hv, ⟨hr, h0⟩, ⟨hm, h12⟩, hg, hw, h5, r9, r10, r11, k1, k2, f146, f282, f147, f283, f148, f284, hop⟩ := hinv
  exact ⟨trivial, trivial, ⟨hv, ⟨hr, h0⟩, ⟨hm, h12⟩, hg, hw, h5, r9, r10, r11, k1, k2, f146, f282, f147, f283, f148, f284, hop⟩, by unfold rxmBGX_12 rxmBGX_13; omega⟩
theorem rxgBGX_12_0 {X : (Nat → Int → Int) → Prop} {S0 : Nat → Int → Int} {ws : List Int} (hP : rxPBGX S0 ws) : bx_obC rxL X S0 rxC253.2.2.1 (rxIBGX S0 ws) (rxmBGX S0 ws) 12 rxzBGX_12 rxoBGX_12_0 := by
  intro S S_p r r_p hinv hX hin hsm_ hseg
  obtain ⟨I0, I1, h0_, hr_, b_, f_, d_⟩ := bx_cl (evs := []) (fvs := []) hseg (by decide +kernel) (by decide +kernel)
  have hinv : rxIBGX_12 S0 ws S (r 8) (r 9) (r 10) (r 11) := hinv
  rw [← hr_ 8 (by decide), ← hr_ 9 (by decide), ← hr_ 10 (by decide), ← hr_ 11 (by decide)] at hinv
  obtain ⟨⟨l8, u8⟩, ⟨l9, u9⟩, ⟨l10, u10⟩, ⟨l11, u11⟩, -⟩ := b_
  have w_ := d_
  subst w_
  have g := rxcBGX_12_0 hP hin I0 hinv l8 u8 l9 u9 l10 u10 l11 u11
  refine ⟨bx_narP_ok (l := []) g.1, bx_nfP_ok h0_ (fvs := []) (by decide +kernel) g.2.1, ?_, ?_⟩
  · show rxIBGX_13 S0 ws S_p (bx_val [(0, 0), (0, 0), (0, 0), (0, 0), (0, 0), (0, 0), (0, 0), (0, 0), (8, 0), (9, 0), (10, 0), (11, 0)] r_p 8) (bx_val [(0, 0), (0, 0), (0, 0), (0, 0), (0, 0), (0, 0), (0, 0), (0, 0), (8, 0), (9, 0), (10, 0), (11, 0)] r_p 9) (bx_val [(0, 0), (0, 0), (0, 0), (0, 0), (0, 0), (0, 0), (0, 0), (0, 0), (8, 0), (9, 0), (10, 0), (11, 0)] r_p 10) (bx_val [(0, 0), (0, 0), (0, 0), (0, 0), (0, 0), (0, 0), (0, 0), (0, 0), (8, 0), (9, 0), (10, 0), (11, 0)] r_p 11)
    rw [bx_val_x (n := 8) (e := (8, 0)) h0_ rfl, bx_val_x (n := 9) (e := (9, 0)) h0_ rfl, bx_val_x (n := 10) (e := (10, 0)) h0_ rfl, bx_val_x (n := 11) (e := (11, 0)) h0_ rfl]
    exact g.2.2.1
  · show rxmBGX_13 S0 ws S_p (bx_val [(0, 0), (0, 0), (0, 0), (0, 0), (0, 0), (0, 0), (0, 0), (0, 0), (8, 0), (9, 0), (10, 0), (11, 0)] r_p 8) (bx_val [(0, 0), (0, 0), (0, 0), (0, 0), (0, 0), (0, 0), (0, 0), (0, 0), (8, 0), (9, 0), (10, 0), (11, 0)] r_p 9) (bx_val [(0, 0), (0, 0), (0, 0), (0, 0), (0, 0), (0, 0), (0, 0), (0, 0), (8, 0), (9, 0), (10, 0), (11, 0)] r_p 10) (bx_val [(0, 0), (0, 0), (0, 0), (0, 0), (0, 0), (0, 0), (0, 0), (0, 0), (8, 0), (9, 0), (10, 0), (11, 0)] r_p 11) < rxmBGX_12 S0 ws S_p (r 8) (r 9) (r 10) (r 11)
    rw [bx_val_x (n := 8) (e := (8, 0)) h0_ rfl, bx_val_x (n := 9) (e := (9, 0)) h0_ rfl, bx_val_x (n := 10) (e := (10, 0)) h0_ rfl, bx_val_x (n := 11) (e := (11, 0)) h0_ rfl, ← hr_ 8 (by decide), ← hr_ 9 (by decide), ← hr_ 10 (by decide), ← hr_ 11 (by decide)]
    exact g.2.2.2
theorem rxdBGX_15_0 {S0 : Nat → Int → Int} {ws : List Int} {S : Nat → Int → Int} {pa ps res sv sp : Int} (hP : rxPBGX S0 ws) (hin : bx_same rxL (bx_mdl rxC253.2.2.1) S0 S) (hin2 : bx_same rxL (bx_mdl rxC253.2.2.1) S (bx_up S 0 8 0)) (I0 : bx_Inv rxL S) (I1 : bx_Inv rxL (bx_up S 0 8 0)) (hinv : rxIBGX_15 S0 ws S pa ps res sv sp) (l8 : 0 ≤ pa) (u8 : pa ≤ 5) (l9 : 0 ≤ ps) (u9 : ps ≤ 7) (l10 : 0 ≤ res) (u10 : res ≤ 11) (l11 : 0 ≤ sv) (u11 : sv ≤ 1522) (l12 : 0 ≤ sp) (u12 : sp ≤ 1522) : (True) ∧ rxPSBGX S0 ws (bx_up S 0 8 0) (some res) := by
  obtain ⟨⟨hr, h0⟩, ⟨hm, h12⟩, hg, hw, h5, r9, r10, r11, k1, k2, f146, f282, f147, f283, f148, f284, hop, hnw⟩ := hinv
  exact ⟨trivial, ⟨pa, ps, hw, Or.inr (Or.inr (Or.inr ⟨hg, hm, h12, congrArg some hr, (bx_up_ne (by omega)).trans h5, fun i i0 i1 => (bx_up_ne (by omega)).trans (r9 i i0 i1), fun i i0 i1 => (bx_up_ne (by omega)).trans (r10 i i0 i1), fun i i0 i1 => (bx_up_ne (by omega)).trans (r11 i i0 i1), (bx_up_ne (by omega)).trans k1, (bx_up_ne (by omega)).trans k2, fun i i0 i1 => (bx_up_ne (by omega)).trans (f146 i i0 i1), fun i i0 i1 => (bx_up_ne (by omega)).trans (f282 i i0 i1), fun i i0 i1 => (bx_up_ne (by omega)).trans (f147 i i0 i1), fun i i0 i1 => (bx_up_ne (by omega)).trans (f283 i i0 i1), fun i i0 i1 => (bx_up_ne (by omega)).trans (f148 i i0 i1), fun i i0 i1 => (bx_up_ne (by omega)).trans (f284 i i0 i1)⟩))⟩, pa, ps, hw, fun z hz h0 => (by have := Option.some.inj hz; exfalso; omega), fun _ _ _ => ⟨fun t a b => ⟨(bx_up_ne (by omega)).trans (hnw t a b).1, (bx_up_ne (by omega)).trans (hnw t a b).2⟩, fun p t a b c d e => (bx_up_ne (by omega)).trans (hop p t a b c d e)⟩⟩
theorem rxfBGX_15_0 {X : (Nat → Int → Int) → Prop} {S0 : Nat → Int → Int} {ws : List Int} (hP : rxPBGX S0 ws) : bx_obE rxL X S0 rxC253.2.2.1 (rxIBGX S0 ws) (rxPSBGX S0 ws) 15 rxzBGX_15 rxeBGX_15_0 := by
  intro S S_p r r_p hinv hX hin hsm_ hseg
  obtain ⟨I0, I1, h0_, hr_, b_, f_, d_⟩ := bx_cl (evs := [(1, (0, 0), (0, 8), .inr (0, (0, 0)))]) (fvs := []) hseg (by decide +kernel) (by decide +kernel)
  have hinv : rxIBGX_15 S0 ws S (r 8) (r 9) (r 10) (r 11) (r 12) := hinv
  rw [← hr_ 8 (by decide), ← hr_ 9 (by decide), ← hr_ 10 (by decide), ← hr_ 11 (by decide), ← hr_ 12 (by decide)] at hinv
  obtain ⟨⟨l8, u8⟩, ⟨l9, u9⟩, ⟨l10, u10⟩, ⟨l11, u11⟩, ⟨l12, u12⟩, -⟩ := b_
  obtain ⟨T0, w_, w0⟩ := d_
  subst w0
  subst w_
  have g := rxdBGX_15_0 hP hin hsm_ I0 I1 hinv l8 u8 l9 u9 l10 u10 l11 u11 l12 u12
  refine ⟨bx_narP_ok (l := []) g.1, ?_⟩
  show rxPSBGX S0 ws (bx_up T0 0 (8) (0)) (some (bx_num r_p (.inr (0, (10, 0)))))
  rw [bx_xv_ok h0_]
  exact g.2
theorem rxgCBGX {X : (Nat → Int → Int) → Prop} {S0 : Nat → Int → Int} {ws : List Int} (hP : rxPBGX S0 ws) : bx_allI (fun i q => rxUBGX q = true ∨ bx_allP (fun o => bx_obC rxL X S0 rxC253.2.2.1 (rxIBGX S0 ws) (rxmBGX S0 ws) i q.1 o) q.2.1) 0 rxYBGX := ⟨Or.inr ⟨rxgBGX_0_0 hP, rxgBGX_0_1 hP, rxgBGX_0_2 hP, rxgBGX_0_3 hP, rxgBGX_0_4 hP, trivial⟩, Or.inl rfl, Or.inr trivial, Or.inl rfl, Or.inr ⟨rxgBGX_4_0 hP, rxgBGX_4_1 hP, rxgBGX_4_2 hP, trivial⟩, Or.inl rfl, Or.inr trivial, Or.inl rfl, Or.inr trivial, Or.inl rfl, Or.inr ⟨rxgBGX_10_0 hP, trivial⟩, Or.inl rfl, Or.inr ⟨rxgBGX_12_0 hP, trivial⟩, Or.inl rfl, Or.inl rfl, Or.inr trivial, trivial⟩
theorem rxgEBGX {X : (Nat → Int → Int) → Prop} {S0 : Nat → Int → Int} {ws : List Int} (hP : rxPBGX S0 ws) : bx_allI (fun i q => rxUBGX q = true ∨ bx_allP (fun E => bx_obE rxL X S0 rxC253.2.2.1 (rxIBGX S0 ws) (rxPSBGX S0 ws) i q.1 E) q.2.2) 0 rxYBGX := ⟨Or.inr trivial, Or.inl rfl, Or.inr ⟨rxfBGX_2_0 hP, trivial⟩, Or.inl rfl, Or.inr trivial, Or.inl rfl, Or.inr ⟨rxfBGX_6_0 hP, trivial⟩, Or.inl rfl, Or.inr ⟨rxfBGX_8_0 hP, trivial⟩, Or.inl rfl, Or.inr trivial, Or.inl rfl, Or.inr trivial, Or.inl rfl, Or.inl rfl, Or.inr ⟨rxfBGX_15_0 hP, trivial⟩, trivial⟩
theorem rxuBGX {PX : State → Prop} {Dg : va_G} {A : Nat → Prop} {ad xa : Nat → Nat} {l : Launch} {X : (Nat → Int → Int) → Prop} (hPX : rx_PXOK rxNW A PX) (hX : ∀ S S1 : Nat → Int → Int, X S → bx_same rxL (bx_mdl rxC253.2.2.1) S S1 → X S1) (hQ110 : bx_ConP rxG rxNW rxAO PX Dg rxL X vwCl A ad l rxM110 rxC110 rxP110 rxPS110) (hQMBD : bx_ConP rxG rxNW rxAO PX Dg rxL X vwCl A ad l rxM27 rxCMBD rxPMBD rxPSMBD) (hQADX : bx_ConP rxG rxNW rxAO PX Dg rxL X vwCl A ad l rxM123 rxCADX rxPADX rxPSADX) (hQSOV : bx_ConP rxG rxNW rxAO PX Dg rxL X vwCl A ad l rxM124 rxCSOV rxPSOV rxPSSOV) (hQSOP : bx_ConP rxG rxNW rxAO PX Dg rxL X vwCl A ad l rxM105 rxCSOP rxPSOP rxPSSOP) (hQSCZ : bx_ConP rxG rxNW rxAO PX Dg rxL X vwCl A ad l rxM42 rxCSCZ rxPSCZ rxPSSCZ) {S0 : Nat → Int → Int} {ws : List Int} (hP : rxPBGX S0 ws) : ∀ (i : Nat) (q : bx_HE), rxYBGX[i]? = some q → rxUBGX q = true → ∀ {p : Program} {e : Env} {R : Room} {s : State} {m : MethodId} {args : Array Value} {below : List Frame} {meth : Method} {c : Code} {Q : State → Prop} {H0 : Heap}, rx_Fr rxG rxNW rxAO PX p s m args meth c rxM253 → (∀ q, H0.size ≤ q → A q) → H0 = s.heap → rxM253.2.2.2.2.2.2.1 ≤ R.cells → rxM253.2.2.2.2.2.2.2 ≤ R.slots → rxC253.2.2.2.1 ≤ R.frames → rxC253.2.2.2.1 * 40 ≤ R.locals → bx_Step p l e R s m args below meth c Q Dg rxL X vwCl A xa H0 ad rxM253 rxYBGX (rxIBGX S0 ws) (rxmBGX S0 ws) S0 rxC253.2.2.1 i q := by
  intro i q hq hus p e R s m args below meth c Q H0 hF hA hH0 hmc hms hd hdl
  match i, hq with
  | 0, hq =>
    cases hq
    exact absurd (show false = true from hus) Bool.false_ne_true
  | 1, hq =>
    cases hq
    exact rx_stepC (ins := .invokevirtual 110) (len := 3) (i_p := 2) (M_p := rxM110) (d := rxC253.2.2.2.1) (as := [.inr (3, (0, 0)), .inr (0, (0, (-2)))]) (t := []) (ct := rxC110) hPX hF rfl hA hH0 hmc hms hd hdl (by decide +kernel) rfl rfl (by decide +kernel) (by decide +kernel) hQ110 (by decide +kernel) rfl (Or.inr ⟨_, _, _, 1, rfl, rfl, by omega, rfl, rfl, rfl⟩) (rxsBGX_1 hP)
  | 2, hq =>
    cases hq
    exact absurd (show false = true from hus) Bool.false_ne_true
  | 3, hq =>
    cases hq
    exact rx_stepC (ins := .invokevirtual 248) (len := 3) (i_p := 4) (M_p := rxM27) (d := rxC253.2.2.2.1) (as := [.inr (3, (0, 1)), .inr (0, (8, 0)), .inr (0, (9, 0))]) (t := []) (ct := rxCMBD) hPX hF rfl hA hH0 hmc hms hd hdl (by decide +kernel) rfl rfl (by decide +kernel) (by decide +kernel) hQMBD (by decide +kernel) rfl (Or.inr ⟨_, _, _, 1, rfl, rfl, by omega, rfl, rfl, rfl⟩) (rxsBGX_3 hP)
  | 4, hq =>
    cases hq
    exact absurd (show false = true from hus) Bool.false_ne_true
  | 5, hq =>
    cases hq
    exact rx_stepC (ins := .invokevirtual 110) (len := 3) (i_p := 6) (M_p := rxM110) (d := rxC253.2.2.2.1) (as := [.inr (3, (0, 0)), .inr (0, (0, (-3)))]) (t := []) (ct := rxC110) hPX hF rfl hA hH0 hmc hms hd hdl (by decide +kernel) rfl rfl (by decide +kernel) (by decide +kernel) hQ110 (by decide +kernel) rfl (Or.inr ⟨_, _, _, 1, rfl, rfl, by omega, rfl, rfl, rfl⟩) (rxsBGX_5 hP)
  | 6, hq =>
    cases hq
    exact absurd (show false = true from hus) Bool.false_ne_true
  | 7, hq =>
    cases hq
    exact rx_stepC (ins := .invokevirtual 110) (len := 3) (i_p := 8) (M_p := rxM110) (d := rxC253.2.2.2.1) (as := [.inr (3, (0, 0)), .inr (0, (0, (-5)))]) (t := []) (ct := rxC110) hPX hF rfl hA hH0 hmc hms hd hdl (by decide +kernel) rfl rfl (by decide +kernel) (by decide +kernel) hQ110 (by decide +kernel) rfl (Or.inr ⟨_, _, _, 1, rfl, rfl, by omega, rfl, rfl, rfl⟩) (rxsBGX_7 hP)
  | 8, hq =>
    cases hq
    exact absurd (show false = true from hus) Bool.false_ne_true
  | 9, hq =>
    cases hq
    exact rx_stepC (ins := .invokevirtual 254) (len := 3) (i_p := 10) (M_p := rxM123) (d := rxC253.2.2.2.1) (as := [.inr (3, (0, 1)), .inr (0, (8, 0)), .inr (0, (9, 0)), .inr (0, (0, (-1)))]) (t := []) (ct := rxCADX) hPX hF rfl hA hH0 hmc hms hd hdl (by decide +kernel) rfl rfl (by decide +kernel) (by decide +kernel) hQADX (by decide +kernel) rfl (Or.inr ⟨_, _, _, 1, rfl, rfl, by omega, rfl, rfl, rfl⟩) (rxsBGX_9 hP)
  | 10, hq =>
    cases hq
    exact absurd (show false = true from hus) Bool.false_ne_true
  | 11, hq =>
    cases hq
    exact rx_stepC (ins := .invokevirtual 257) (len := 3) (i_p := 12) (M_p := rxM124) (d := rxC253.2.2.2.1) (as := [.inr (3, (0, 1)), .inr (0, (10, 0))]) (t := []) (ct := rxCSOV) hPX hF rfl hA hH0 hmc hms hd hdl (by decide +kernel) rfl rfl (by decide +kernel) (by decide +kernel) hQSOV (by decide +kernel) rfl (Or.inr ⟨_, _, _, 4, rfl, rfl, by omega, rfl, rfl, rfl⟩) (rxsBGX_11 hP)
  | 12, hq =>
    cases hq
    exact absurd (show false = true from hus) Bool.false_ne_true
  | 13, hq =>
    cases hq
    exact rx_stepC (ins := .invokevirtual 132) (len := 3) (i_p := 14) (M_p := rxM105) (d := rxC253.2.2.2.1) (as := [.inr (3, (0, 1)), .inr (0, (8, 0))]) (t := [.inr (3, (11, 0))]) (ct := rxCSOP) hPX hF rfl hA hH0 hmc hms hd hdl (by decide +kernel) rfl rfl (by decide +kernel) (by decide +kernel) hQSOP (by decide +kernel) rfl (Or.inr ⟨_, _, _, 4, rfl, rfl, by omega, rfl, rfl, rfl⟩) (rxsBGX_13 hP)
  | 14, hq =>
    cases hq
    exact rx_stepC (ins := .invokevirtual 260) (len := 3) (i_p := 15) (M_p := rxM42) (d := rxC253.2.2.2.1) (as := [.inr (3, (11, 0)), .inr (3, (12, 0))]) (t := []) (ct := rxCSCZ) hPX hF rfl hA hH0 hmc hms hd hdl (by decide +kernel) rfl rfl (by decide +kernel) (by decide +kernel) hQSCZ (by decide +kernel) rfl (Or.inl ⟨rfl, rfl, rfl⟩) (rxsBGX_14 hP)
  | 15, hq =>
    cases hq
    exact absurd (show false = true from hus) Bool.false_ne_true
  | n + 16, hq => cases hq
theorem rxQBGX {PX : State → Prop} {Dg : va_G} {A : Nat → Prop} {ad xa : Nat → Nat} {l : Launch} {X : (Nat → Int → Int) → Prop} (hPX : rx_PXOK rxNW A PX) (hsl : ∀ s : State, PX s → ∀ o idx n : Nat, rxSl o idx = some n → ∃ tx : String, vk_R (rxNm o) idx tx (ad n) s)
    (hX : ∀ S S_p : Nat → Int → Int, X S → bx_same rxL (bx_mdl rxC253.2.2.1) S S_p → X S_p)
    (ih : ∀ (j2 : Nat) (ct2 : bx_Ct) (M2 : rx_Mt), ct2 ∈ rxCnE j2 → ct2.2.2.2.1 + 1 ≤ rxC253.2.2.2.1 → rxT.2.2.2.2.2 j2 = some M2 → bx_Con rxG rxNW rxAO PX Dg rxL X vwCl A ad l M2 ct2) (hQ110 : bx_ConP rxG rxNW rxAO PX Dg rxL X vwCl A ad l rxM110 rxC110 rxP110 rxPS110) (hQMBD : bx_ConP rxG rxNW rxAO PX Dg rxL X vwCl A ad l rxM27 rxCMBD rxPMBD rxPSMBD) (hQADX : bx_ConP rxG rxNW rxAO PX Dg rxL X vwCl A ad l rxM123 rxCADX rxPADX rxPSADX) (hQSOV : bx_ConP rxG rxNW rxAO PX Dg rxL X vwCl A ad l rxM124 rxCSOV rxPSOV rxPSSOV) (hQSOP : bx_ConP rxG rxNW rxAO PX Dg rxL X vwCl A ad l rxM105 rxCSOP rxPSOP rxPSSOP) (hQSCZ : bx_ConP rxG rxNW rxAO PX Dg rxL X vwCl A ad l rxM42 rxCSCZ rxPSCZ rxPSSCZ) : bx_ConP rxG rxNW rxAO PX Dg rxL X vwCl A ad l rxM253 rxC253 rxPBGX rxPSBGX :=
  rxQof (xa := xa) (Cn := rxCnE) (f := 30000) (j := 253) (tab := rxYBGX) (us := rxUBGX) hPX hsl hX ih rfl rxYcBGX rxIBGX rxmBGX
    (fun S0 ws r I0 I ht0 ht as he he1 hX0 hI0 hP hs ha => by
      have e := he.symm.trans (show bx_ent0 rxNP rxC253.1 bx_I0 [] = some ([(0, 0), (0, 0), (0, 0), (0, 0), (0, 0), (0, 0), (0, 0), (0, 0), ((-2147483648), 2147483647), ((-2147483648), 2147483647)], [], [.inr (3, (0, 0)), .inr (0, (8, 0)), .inr (0, (9, 0))]) from rfl)
      cases e
      subst ha
      have h0 : r 0 = 0 := hs.1
      show rxIBGX_0 S0 _ S0 (r 8) (r 9)
      refine ⟨rfl, ?_⟩
      simp only [List.map_cons, List.map_nil, bx_xv_ok h0]
      rfl)
    (fun S0 ws hP => rxuBGX (xa := xa) hPX hX hQ110 hQMBD hQADX hQSOV hQSOP hQSCZ hP) (fun S0 ws hP => rxgCBGX hP) (fun S0 ws hP => rxgEBGX hP)
