noncomputable def rxILNX_0 (S0 : Nat → Int → Int) (ws : List Int) (S : Nat → Int → Int) (vs ps sl : Int) : Prop := S = S0 ∧ ws = [0, vs, ps, sl]
noncomputable def rxmLNX_0 (S0 : Nat → Int → Int) (ws : List Int) (S : Nat → Int → Int) (vs ps sl : Int) : Nat := rxm159_0 S0 ws S vs ps sl
noncomputable def rxzLNX_0 : rx_Z := ([(0, 0), (0, 0), (0, 0), (0, 0), (0, 0), (0, 0), (0, 0), (0, 0), ((-2147483648), 2147483647), ((-2147483648), 2147483647), ((-2147483648), 2147483647)], [], [], 0, 0, 0, [(0, .inr (3, (0, 0))), (1, .inr (0, (8, 0))), (2, .inr (0, (9, 0))), (3, .inr (0, (10, 0)))], [])
noncomputable def rxILNX_1 (S0 : Nat → Int → Int) (ws : List Int) (S : Nat → Int → Int) (vs ps sl : Int) : Prop := rxI159_1 S0 ws S vs ps sl
noncomputable def rxmLNX_1 (S0 : Nat → Int → Int) (ws : List Int) (S : Nat → Int → Int) (vs ps sl : Int) : Nat := rxm159_1 S0 ws S vs ps sl
noncomputable def rxzLNX_1 : rx_Z := ([(0, 0), (0, 0), (0, 0), (0, 0), (0, 0), (0, 0), (0, 0), (0, 0), ((-2147483648), 2147483647), ((-2147483648), 2147483647), ((-2147483648), 2147483647)], [], [], 0, 0, 7, [(0, .inr (3, (0, 0))), (1, .inr (0, (8, 0))), (2, .inr (0, (9, 0))), (3, .inr (0, (10, 0)))], [.inr (0, (0, (-1))), .inr (3, (0, 0))])
noncomputable def rxILNX_2 (S0 : Nat → Int → Int) (ws : List Int) (S : Nat → Int → Int) (vs ps sl res : Int) : Prop := rxI159_2 S0 ws S vs ps sl res
noncomputable def rxmLNX_2 (S0 : Nat → Int → Int) (ws : List Int) (S : Nat → Int → Int) (vs ps sl res : Int) : Nat := rxm159_2 S0 ws S vs ps sl res
noncomputable def rxzLNX_2 : rx_Z := ([(0, 0), (0, 0), (0, 0), (0, 0), (0, 0), (0, 0), (0, 0), (0, 0), ((-2147483648), 2147483647), ((-2147483648), 2147483647), ((-2147483648), 2147483647), ((-6), (-1))], [], [], 0, 0, 10, [(0, .inr (3, (0, 0))), (1, .inr (0, (8, 0))), (2, .inr (0, (9, 0))), (3, .inr (0, (10, 0)))], [.inr (0, (11, 0))])
noncomputable def rxILNX_3 (S0 : Nat → Int → Int) (ws : List Int) (S : Nat → Int → Int) (vs ps sl : Int) : Prop := rxI159_3 S0 ws S vs ps sl
noncomputable def rxmLNX_3 (S0 : Nat → Int → Int) (ws : List Int) (S : Nat → Int → Int) (vs ps sl : Int) : Nat := rxm159_3 S0 ws S vs ps sl
noncomputable def rxzLNX_3 : rx_Z := ([(0, 0), (0, 0), (0, 0), (0, 0), (0, 0), (0, 0), (0, 0), (0, 0), ((-2147483648), 2147483647), ((-2147483648), 2147483647), ((-1), 2147483647)], [], [], 0, 0, 39, [(0, .inr (3, (0, 0))), (1, .inr (0, (8, 0))), (2, .inr (0, (9, 0))), (3, .inr (0, (10, 0)))], [.inr (0, (0, (-2))), .inr (3, (0, 0))])
noncomputable def rxILNX_4 (S0 : Nat → Int → Int) (ws : List Int) (S : Nat → Int → Int) (vs ps sl res : Int) : Prop := rxI159_4 S0 ws S vs ps sl res
noncomputable def rxmLNX_4 (S0 : Nat → Int → Int) (ws : List Int) (S : Nat → Int → Int) (vs ps sl res : Int) : Nat := rxm159_4 S0 ws S vs ps sl res
noncomputable def rxzLNX_4 : rx_Z := ([(0, 0), (0, 0), (0, 0), (0, 0), (0, 0), (0, 0), (0, 0), (0, 0), ((-2147483648), 2147483647), ((-2147483648), 2147483647), ((-1), 2147483647), ((-6), (-1))], [], [], 0, 0, 42, [(0, .inr (3, (0, 0))), (1, .inr (0, (8, 0))), (2, .inr (0, (9, 0))), (3, .inr (0, (10, 0)))], [.inr (0, (11, 0))])
noncomputable def rxILNX_5 (S0 : Nat → Int → Int) (ws : List Int) (S : Nat → Int → Int) (vs ps sl : Int) : Prop := rxI159_5 S0 ws S vs ps sl
noncomputable def rxmLNX_5 (S0 : Nat → Int → Int) (ws : List Int) (S : Nat → Int → Int) (vs ps sl : Int) : Nat := rxm159_5 S0 ws S vs ps sl
noncomputable def rxzLNX_5 : rx_Z := ([(0, 0), (0, 0), (0, 0), (0, 0), (0, 0), (0, 0), (0, 0), (0, 0), (0, 11), (0, 7), ((-1), 2147483647)], [], [], 0, 0, 49, [(0, .inr (3, (0, 0))), (1, .inr (0, (8, 0))), (2, .inr (0, (9, 0))), (3, .inr (0, (10, 0)))], [.inr (0, (9, 0)), .inr (0, (8, 0)), .inr (3, (0, 1))])
noncomputable def rxILNX_6 (S0 : Nat → Int → Int) (ws : List Int) (S : Nat → Int → Int) (vs ps sl r : Int) : Prop := rxI159_6 S0 ws S vs ps sl r
noncomputable def rxmLNX_6 (S0 : Nat → Int → Int) (ws : List Int) (S : Nat → Int → Int) (vs ps sl r : Int) : Nat := rxm159_6 S0 ws S vs ps sl r
noncomputable def rxzLNX_6 : rx_Z := ([(0, 0), (0, 0), (0, 0), (0, 0), (0, 0), (0, 0), (0, 0), (0, 0), (0, 11), (0, 7), ((-1), 2147483647), (0, 1)], [], [], 0, 0, 52, [(0, .inr (3, (0, 0))), (1, .inr (0, (8, 0))), (2, .inr (0, (9, 0))), (3, .inr (0, (10, 0)))], [.inr (0, (11, 0))])
noncomputable def rxILNX_7 (S0 : Nat → Int → Int) (ws : List Int) (S : Nat → Int → Int) (vs ps sl : Int) : Prop := rxI159_7 S0 ws S vs ps sl
noncomputable def rxmLNX_7 (S0 : Nat → Int → Int) (ws : List Int) (S : Nat → Int → Int) (vs ps sl : Int) : Nat := rxm159_7 S0 ws S vs ps sl
noncomputable def rxzLNX_7 : rx_Z := ([(0, 0), (0, 0), (0, 0), (0, 0), (0, 0), (0, 0), (0, 0), (0, 0), (0, 11), (0, 7), ((-1), 2147483647)], [], [], 0, 0, 58, [(0, .inr (3, (0, 0))), (1, .inr (0, (8, 0))), (2, .inr (0, (9, 0))), (3, .inr (0, (10, 0)))], [.inr (0, (0, (-3))), .inr (3, (0, 0))])
noncomputable def rxILNX_8 (S0 : Nat → Int → Int) (ws : List Int) (S : Nat → Int → Int) (vs ps sl res : Int) : Prop := rxI159_8 S0 ws S vs ps sl res
noncomputable def rxmLNX_8 (S0 : Nat → Int → Int) (ws : List Int) (S : Nat → Int → Int) (vs ps sl res : Int) : Nat := rxm159_8 S0 ws S vs ps sl res
noncomputable def rxzLNX_8 : rx_Z := ([(0, 0), (0, 0), (0, 0), (0, 0), (0, 0), (0, 0), (0, 0), (0, 0), (0, 11), (0, 7), ((-1), 2147483647), ((-6), (-1))], [], [], 0, 0, 61, [(0, .inr (3, (0, 0))), (1, .inr (0, (8, 0))), (2, .inr (0, (9, 0))), (3, .inr (0, (10, 0)))], [.inr (0, (11, 0))])
noncomputable def rxILNX_9 (S0 : Nat → Int → Int) (ws : List Int) (S : Nat → Int → Int) (vs ps sl : Int) : Prop := rxI159_9 S0 ws S vs ps sl
noncomputable def rxmLNX_9 (S0 : Nat → Int → Int) (ws : List Int) (S : Nat → Int → Int) (vs ps sl : Int) : Nat := rxm159_9 S0 ws S vs ps sl
noncomputable def rxzLNX_9 : rx_Z := ([(0, 0), (0, 0), (0, 0), (0, 0), (0, 0), (0, 0), (0, 0), (0, 0), (0, 11), (0, 7), ((-1), 2147483647)], [], [], 0, 0, 77, [(0, .inr (3, (0, 0))), (1, .inr (0, (8, 0))), (2, .inr (0, (9, 0))), (3, .inr (0, (10, 0)))], [.inr (0, (0, (-5))), .inr (3, (0, 0))])
noncomputable def rxILNX_10 (S0 : Nat → Int → Int) (ws : List Int) (S : Nat → Int → Int) (vs ps sl res : Int) : Prop := rxI159_10 S0 ws S vs ps sl res
noncomputable def rxmLNX_10 (S0 : Nat → Int → Int) (ws : List Int) (S : Nat → Int → Int) (vs ps sl res : Int) : Nat := rxm159_10 S0 ws S vs ps sl res
noncomputable def rxzLNX_10 : rx_Z := ([(0, 0), (0, 0), (0, 0), (0, 0), (0, 0), (0, 0), (0, 0), (0, 0), (0, 11), (0, 7), ((-1), 2147483647), ((-6), (-1))], [], [], 0, 0, 80, [(0, .inr (3, (0, 0))), (1, .inr (0, (8, 0))), (2, .inr (0, (9, 0))), (3, .inr (0, (10, 0)))], [.inr (0, (11, 0))])
noncomputable def rxILNX_11 (S0 : Nat → Int → Int) (ws : List Int) (S : Nat → Int → Int) (vs ps sl pa : Int) : Prop := rxI159_11 S0 ws S vs ps sl pa
noncomputable def rxmLNX_11 (S0 : Nat → Int → Int) (ws : List Int) (S : Nat → Int → Int) (vs ps sl pa : Int) : Nat := rxm159_11 S0 ws S vs ps sl pa
noncomputable def rxzLNX_11 : rx_Z := ([(0, 0), (0, 0), (0, 0), (0, 0), (0, 0), (0, 0), (0, 0), (0, 0), (0, 10), (0, 7), ((-1), 2147483647), (0, 5)], [], [], 0, 0, 96, [(0, .inr (3, (0, 0))), (1, .inr (0, (8, 0))), (2, .inr (0, (9, 0))), (3, .inr (0, (10, 0)))], [.inr (0, (8, 0)), .inr (0, (9, 0)), .inr (0, (11, 0)), .inr (3, (0, 1))])
noncomputable def rxILNX_12 (S0 : Nat → Int → Int) (ws : List Int) (S : Nat → Int → Int) (vs ps sl pa res : Int) : Prop := (res = S0 1 5 ∧ 0 ≤ res) ∧ (rkMl S0 vs ps ∧ S0 1 5 < 12 ∧ pa = S0 9 vs) ∧ (-1 ≤ sl ∧ 0 ≤ vs ∧ vs < S0 1 5 ∧ 0 ≤ ps ∧ ps < S0 5 0) ∧ ws = [0, vs, ps, sl] ∧ S 1 5 = S0 1 5 + 1 ∧ (∀ i : Int, 0 ≤ i → i < 12 → S 9 i = if i = S0 1 5 then pa else S0 9 i) ∧ (∀ i : Int, 0 ≤ i → i < 12 → S 10 i = if i = S0 1 5 then ps else S0 10 i) ∧ (∀ i : Int, 0 ≤ i → i < 12 → S 11 i = if i = S0 1 5 then vs else S0 11 i) ∧ S 138 5 = S0 138 5 ∧ S 274 5 = S0 274 5 ∧ (∀ i : Int, 0 ≤ i → i < 12 → S 146 i = S0 146 i) ∧ (∀ i : Int, 0 ≤ i → i < 12 → S 282 i = S0 282 i) ∧ (∀ i : Int, 0 ≤ i → i < 12 → S 147 i = S0 147 i) ∧ (∀ i : Int, 0 ≤ i → i < 12 → S 283 i = S0 283 i) ∧ (∀ i : Int, 0 ≤ i → i < 12 → S 148 i = S0 148 i) ∧ (∀ i : Int, 0 ≤ i → i < 12 → S 284 i = S0 284 i) ∧ rjdOp S0 S (6 + S0 1 5) ∧ (∀ t : Int, 0 ≤ t → t < 36 → S (42 + 3 * S0 1 5).toNat t = -1 ∧ S (43 + 3 * S0 1 5).toNat t = -1)
noncomputable def rxmLNX_12 (S0 : Nat → Int → Int) (ws : List Int) (S : Nat → Int → Int) (vs ps sl pa res : Int) : Nat := 39
noncomputable def rxzLNX_12 : rx_Z := ([(0, 0), (0, 0), (0, 0), (0, 0), (0, 0), (0, 0), (0, 0), (0, 0), (0, 10), (0, 7), ((-1), 2147483647), (0, 5), ((-1), 11)], [], [], 0, 0, 99, [(0, .inr (3, (0, 0))), (1, .inr (0, (8, 0))), (2, .inr (0, (9, 0))), (3, .inr (0, (10, 0)))], [.inr (0, (12, 0))])
noncomputable def rxILNX_13 (S0 : Nat → Int → Int) (ws : List Int) (S : Nat → Int → Int) (vs ps sl res pl le : Int) : Prop := pl = 41 + 3 * vs ∧ le = 41 + 3 * res ∧ (res = S0 1 5 ∧ 0 ≤ res) ∧ (rkMl S0 vs ps ∧ S0 1 5 < 12) ∧ (-1 ≤ sl ∧ 0 ≤ vs ∧ vs < S0 1 5 ∧ 0 ≤ ps ∧ ps < S0 5 0) ∧ ws = [0, vs, ps, sl] ∧ S 1 5 = S0 1 5 + 1 ∧ (∀ i : Int, 0 ≤ i → i < 12 → S 9 i = if i = S0 1 5 then S0 9 vs else S0 9 i) ∧ (∀ i : Int, 0 ≤ i → i < 12 → S 10 i = if i = S0 1 5 then ps else S0 10 i) ∧ (∀ i : Int, 0 ≤ i → i < 12 → S 11 i = if i = S0 1 5 then vs else S0 11 i) ∧ S 138 5 = S0 138 5 ∧ S 274 5 = S0 274 5 ∧ (∀ i : Int, 0 ≤ i → i < 12 → S 146 i = S0 146 i) ∧ (∀ i : Int, 0 ≤ i → i < 12 → S 282 i = S0 282 i) ∧ (∀ i : Int, 0 ≤ i → i < 12 → S 147 i = S0 147 i) ∧ (∀ i : Int, 0 ≤ i → i < 12 → S 283 i = S0 283 i) ∧ (∀ i : Int, 0 ≤ i → i < 12 → S 148 i = S0 148 i) ∧ (∀ i : Int, 0 ≤ i → i < 12 → S 284 i = S0 284 i) ∧ rjdOp S0 S (6 + S0 1 5) ∧ (∀ t : Int, 0 ≤ t → t < 36 → S (42 + 3 * S0 1 5).toNat t = -1 ∧ S (43 + 3 * S0 1 5).toNat t = -1)
noncomputable def rxmLNX_13 (S0 : Nat → Int → Int) (ws : List Int) (S : Nat → Int → Int) (vs ps sl res pl le : Int) : Nat := 38
noncomputable def rxzLNX_13 : rx_Z := ([(0, 0), (0, 0), (0, 0), (0, 0), (0, 0), (0, 0), (0, 0), (0, 0), (0, 10), (0, 7), ((-1), 2147483647), (0, 11), (0, 1522), (0, 1522)], [], [(((12, 0), 1000010), .inl none), (((13, 0), 1000010), .inl none)], 0, 0, 123, [(0, .inr (3, (0, 0))), (1, .inr (0, (8, 0))), (2, .inr (0, (9, 0))), (3, .inr (0, (10, 0))), (4, .inr (0, (11, 0)))], [.inr (0, (10, 0)), .inr (3, (13, 0)), .inr (3, (12, 0)), .inr (3, (0, 1))])
noncomputable def rxILNX_14 (S0 : Nat → Int → Int) (ws : List Int) (S : Nat → Int → Int) (vs ps sl res pl le : Int) : Prop := (res = S0 1 5 ∧ 0 ≤ res) ∧ (rkMl S0 vs ps ∧ S0 1 5 < 12) ∧ (-1 ≤ sl ∧ 0 ≤ vs ∧ vs < S0 1 5 ∧ 0 ≤ ps ∧ ps < S0 5 0) ∧ ws = [0, vs, ps, sl] ∧ S 1 5 = S0 1 5 + 1 ∧ (∀ i : Int, 0 ≤ i → i < 12 → S 9 i = if i = S0 1 5 then S0 9 vs else S0 9 i) ∧ (∀ i : Int, 0 ≤ i → i < 12 → S 10 i = if i = S0 1 5 then ps else S0 10 i) ∧ (∀ i : Int, 0 ≤ i → i < 12 → S 11 i = if i = S0 1 5 then vs else S0 11 i) ∧ S 138 5 = S0 138 5 ∧ S 274 5 = S0 274 5 ∧ (∀ i : Int, 0 ≤ i → i < 12 → S 146 i = S0 146 i) ∧ (∀ i : Int, 0 ≤ i → i < 12 → S 282 i = S0 282 i) ∧ (∀ i : Int, 0 ≤ i → i < 12 → S 147 i = S0 147 i) ∧ (∀ i : Int, 0 ≤ i → i < 12 → S 283 i = S0 283 i) ∧ (∀ i : Int, 0 ≤ i → i < 12 → S 148 i = S0 148 i) ∧ (∀ i : Int, 0 ≤ i → i < 12 → S 284 i = S0 284 i) ∧ rjdOp S0 S (6 + S0 1 5) ∧ (∀ P : Int → Int, rjdRw S0 (6 + vs) P → rjdRw S (6 + S0 1 5) (rjW P (fun k => S0 13 k) sl (S0 1 10).toNat).1)
noncomputable def rxmLNX_14 (S0 : Nat → Int → Int) (ws : List Int) (S : Nat → Int → Int) (vs ps sl res pl le : Int) : Nat := 37
noncomputable def rxzLNX_14 : rx_Z := ([(0, 0), (0, 0), (0, 0), (0, 0), (0, 0), (0, 0), (0, 0), (0, 0), (0, 10), (0, 7), ((-1), 2147483647), (0, 11), (0, 1522), (0, 1522)], [], [(((12, 0), 1000010), .inl none), (((13, 0), 1000010), .inl none)], 0, 0, 126, [(0, .inr (3, (0, 0))), (1, .inr (0, (8, 0))), (2, .inr (0, (9, 0))), (3, .inr (0, (10, 0))), (4, .inr (0, (11, 0)))], [])
noncomputable def rxoLNX_0_0 : bx_HO := (([(0, 0), (0, 0), (0, 0), (0, 0), (0, 0), (0, 0), (0, 0), (0, 0), ((-2147483648), 2147483647), ((-2147483648), 2147483647), ((-2147483648), (-2))], [], [], 0, 0, 7, [(0, .inr (3, (0, 0))), (1, .inr (0, (8, 0))), (2, .inr (0, (9, 0))), (3, .inr (0, (10, 0)))], [.inr (0, (0, (-1))), .inr (3, (0, 0))]), [], [], [(0, 0), (0, 0), (0, 0), (0, 0), (0, 0), (0, 0), (0, 0), (0, 0), (8, 0), (9, 0), (10, 0)], 1)
noncomputable def rxoLNX_0_1 : bx_HO := (([(0, 0), (0, 0), (0, 0), (0, 0), (0, 0), (0, 0), (0, 0), (0, 0), ((-2147483648), (-1)), ((-2147483648), 2147483647), ((-1), 2147483647)], [], [(((0, 0), 0), .inr (3, (0, 1)))], 0, 0, 39, [(0, .inr (3, (0, 0))), (1, .inr (0, (8, 0))), (2, .inr (0, (9, 0))), (3, .inr (0, (10, 0)))], [.inr (0, (0, (-2))), .inr (3, (0, 0))]), [], [], [(0, 0), (0, 0), (0, 0), (0, 0), (0, 0), (0, 0), (0, 0), (0, 0), (8, 0), (9, 0), (10, 0)], 3)
noncomputable def rxoLNX_0_2 : bx_HO := (([(0, 0), (0, 0), (0, 0), (0, 0), (0, 0), (0, 0), (0, 0), (0, 0), (0, 2147483647), ((-2147483648), 2147483647), ((-1), 2147483647), (0, 12)], [(1, (11, 0), (8, 0))], [(((0, 0), 1851192626986356798427873864310897359480125337295219445323071488000000), .inr (0, (11, 0))), (((0, 1), 5), .inr (0, (11, 0))), (((0, 0), 0), .inr (3, (0, 1)))], 0, 0, 39, [(0, .inr (3, (0, 0))), (1, .inr (0, (8, 0))), (2, .inr (0, (9, 0))), (3, .inr (0, (10, 0)))], [.inr (0, (0, (-2))), .inr (3, (0, 0))]), [], [], [(0, 0), (0, 0), (0, 0), (0, 0), (0, 0), (0, 0), (0, 0), (0, 0), (8, 0), (9, 0), (10, 0)], 3)
noncomputable def rxoLNX_0_3 : bx_HO := (([(0, 0), (0, 0), (0, 0), (0, 0), (0, 0), (0, 0), (0, 0), (0, 0), (0, 11), ((-2147483648), (-1)), ((-1), 2147483647), (1, 12)], [(0, (8, 0), (11, 0))], [(((0, 1), 4), .inr (3, (0, 5))), (((0, 0), 1851192626986356798427873864310897359480125337295219445323071488000000), .inr (0, (11, 0))), (((0, 1), 5), .inr (0, (11, 0))), (((0, 0), 0), .inr (3, (0, 1)))], 0, 0, 39, [(0, .inr (3, (0, 0))), (1, .inr (0, (8, 0))), (2, .inr (0, (9, 0))), (3, .inr (0, (10, 0)))], [.inr (0, (0, (-2))), .inr (3, (0, 0))]), [], [], [(0, 0), (0, 0), (0, 0), (0, 0), (0, 0), (0, 0), (0, 0), (0, 0), (8, 0), (9, 0), (10, 0)], 3)
noncomputable def rxoLNX_0_4 : bx_HO := (([(0, 0), (0, 0), (0, 0), (0, 0), (0, 0), (0, 0), (0, 0), (0, 0), (0, 11), (0, 2147483647), ((-1), 2147483647), (1, 12), (0, 8)], [(1, (12, 0), (9, 0)), (0, (8, 0), (11, 0))], [(((0, 0), 1851192626986356797424340330377019318111018015026043177556312064000000), .inr (0, (12, 0))), (((0, 5), 0), .inr (0, (12, 0))), (((0, 1), 4), .inr (3, (0, 5))), (((0, 0), 1851192626986356798427873864310897359480125337295219445323071488000000), .inr (0, (11, 0))), (((0, 1), 5), .inr (0, (11, 0))), (((0, 0), 0), .inr (3, (0, 1)))], 0, 0, 39, [(0, .inr (3, (0, 0))), (1, .inr (0, (8, 0))), (2, .inr (0, (9, 0))), (3, .inr (0, (10, 0)))], [.inr (0, (0, (-2))), .inr (3, (0, 0))]), [], [], [(0, 0), (0, 0), (0, 0), (0, 0), (0, 0), (0, 0), (0, 0), (0, 0), (8, 0), (9, 0), (10, 0)], 3)
noncomputable def rxoLNX_0_5 : bx_HO := (([(0, 0), (0, 0), (0, 0), (0, 0), (0, 0), (0, 0), (0, 0), (0, 0), (0, 11), (0, 7), ((-1), 2147483647), (1, 12), (1, 8)], [(0, (9, 0), (12, 0)), (0, (8, 0), (11, 0))], [(((0, 0), 1851192626986356797424340330377019318111018015026043177556312064000000), .inr (0, (12, 0))), (((0, 5), 0), .inr (0, (12, 0))), (((0, 1), 4), .inr (3, (0, 5))), (((0, 0), 1851192626986356798427873864310897359480125337295219445323071488000000), .inr (0, (11, 0))), (((0, 1), 5), .inr (0, (11, 0))), (((0, 0), 0), .inr (3, (0, 1)))], 0, 0, 49, [(0, .inr (3, (0, 0))), (1, .inr (0, (8, 0))), (2, .inr (0, (9, 0))), (3, .inr (0, (10, 0)))], [.inr (0, (9, 0)), .inr (0, (8, 0)), .inr (3, (0, 1))]), [], [], [(0, 0), (0, 0), (0, 0), (0, 0), (0, 0), (0, 0), (0, 0), (0, 0), (8, 0), (9, 0), (10, 0)], 5)
noncomputable def rxeLNX_2_0 : rx_End × List (Nat × Int × Int) := (([(0, 0), (0, 0), (0, 0), (0, 0), (0, 0), (0, 0), (0, 0), (0, 0), ((-2147483648), 2147483647), ((-2147483648), 2147483647), ((-2147483648), 2147483647), ((-6), (-1))], [], [], some (.inr (0, (11, 0)))), [])
noncomputable def rxeLNX_4_0 : rx_End × List (Nat × Int × Int) := (([(0, 0), (0, 0), (0, 0), (0, 0), (0, 0), (0, 0), (0, 0), (0, 0), ((-2147483648), 2147483647), ((-2147483648), 2147483647), ((-1), 2147483647), ((-6), (-1))], [], [], some (.inr (0, (11, 0)))), [])
noncomputable def rxoLNX_6_0 : bx_HO := (([(0, 0), (0, 0), (0, 0), (0, 0), (0, 0), (0, 0), (0, 0), (0, 0), (0, 11), (0, 7), ((-1), 2147483647), (0, 0)], [], [], 0, 0, 58, [(0, .inr (3, (0, 0))), (1, .inr (0, (8, 0))), (2, .inr (0, (9, 0))), (3, .inr (0, (10, 0)))], [.inr (0, (0, (-3))), .inr (3, (0, 0))]), [], [], [(0, 0), (0, 0), (0, 0), (0, 0), (0, 0), (0, 0), (0, 0), (0, 0), (8, 0), (9, 0), (10, 0)], 7)
noncomputable def rxoLNX_6_1 : bx_HO := (([(0, 0), (0, 0), (0, 0), (0, 0), (0, 0), (0, 0), (0, 0), (0, 0), (0, 11), (0, 7), ((-1), 2147483647), (1, 1), (12, 12)], [(3, (11, 0), (0, 0))], [(((0, 0), 1851192626986356798427873864310897359480125337295219445323071488000000), .inr (0, (12, 0))), (((0, 1), 5), .inr (0, (12, 0))), (((0, 0), 0), .inr (3, (0, 1)))], 0, 0, 77, [(0, .inr (3, (0, 0))), (1, .inr (0, (8, 0))), (2, .inr (0, (9, 0))), (3, .inr (0, (10, 0)))], [.inr (0, (0, (-5))), .inr (3, (0, 0))]), [], [], [(0, 0), (0, 0), (0, 0), (0, 0), (0, 0), (0, 0), (0, 0), (0, 0), (8, 0), (9, 0), (10, 0)], 9)
noncomputable def rxoLNX_6_2 : bx_HO := (([(0, 0), (0, 0), (0, 0), (0, 0), (0, 0), (0, 0), (0, 0), (0, 0), (0, 11), (0, 7), ((-1), 2147483647), (1, 1), (0, 11), (0, 5)], [(3, (11, 0), (0, 0))], [(((0, 0), 1851192626986356797424364830707437625680387377997778264869896192000000), .inr (0, (13, 0))), (((0, 1), 6), .inr (3, (0, 9))), (((0, 0), 1851192626986356798427873864310897359480125337295219445323071488000000), .inr (0, (12, 0))), (((0, 1), 5), .inr (0, (12, 0))), (((0, 0), 0), .inr (3, (0, 1)))], 0, 0, 96, [(0, .inr (3, (0, 0))), (1, .inr (0, (8, 0))), (2, .inr (0, (9, 0))), (3, .inr (0, (10, 0)))], [.inr (0, (8, 0)), .inr (0, (9, 0)), .inr (0, (13, 0)), .inr (3, (0, 1))]), [(8, 0, 10)], [], [(0, 0), (0, 0), (0, 0), (0, 0), (0, 0), (0, 0), (0, 0), (0, 0), (8, 0), (9, 0), (10, 0), (13, 0)], 11)
noncomputable def rxeLNX_8_0 : rx_End × List (Nat × Int × Int) := (([(0, 0), (0, 0), (0, 0), (0, 0), (0, 0), (0, 0), (0, 0), (0, 0), (0, 11), (0, 7), ((-1), 2147483647), ((-6), (-1))], [], [], some (.inr (0, (11, 0)))), [])
noncomputable def rxeLNX_10_0 : rx_End × List (Nat × Int × Int) := (([(0, 0), (0, 0), (0, 0), (0, 0), (0, 0), (0, 0), (0, 0), (0, 0), (0, 11), (0, 7), ((-1), 2147483647), ((-6), (-1))], [], [], some (.inr (0, (11, 0)))), [])
noncomputable def rxoLNX_12_0 : bx_HO := (([(0, 0), (0, 0), (0, 0), (0, 0), (0, 0), (0, 0), (0, 0), (0, 0), (0, 10), (0, 7), ((-1), 2147483647), (0, 5), ((-1), (-1)), (0, 1522), (0, 1522)], [], [(((0, 0), 1851192626986356797424340330377019318111018015026043177560440832000000), .inr (3, (14, 0))), (((0, 12), 0), .inr (3, (14, 0))), (((14, 0), 1000010), .inl none), (((0, 0), 1851192626986356797424364830707437625680387377997778264871665664000000), .inr (3, (13, 0))), (((13, 0), 1000010), .inl none), (((0, 1), 9), .inr (3, (0, 12))), (((0, 0), 0), .inr (3, (0, 1)))], 0, 0, 123, [(4, .inr (0, (12, 0))), (0, .inr (3, (0, 0))), (1, .inr (0, (8, 0))), (2, .inr (0, (9, 0))), (3, .inr (0, (10, 0)))], [.inr (0, (10, 0)), .inr (3, (14, 0)), .inr (3, (13, 0)), .inr (3, (0, 1))]), [(12, 0, 11)], [], [(0, 0), (0, 0), (0, 0), (0, 0), (0, 0), (0, 0), (0, 0), (0, 0), (8, 0), (9, 0), (10, 0), (12, 0), (13, 0), (14, 0)], 13)
noncomputable def rxoLNX_12_1 : bx_HO := (([(0, 0), (0, 0), (0, 0), (0, 0), (0, 0), (0, 0), (0, 0), (0, 0), (0, 10), (0, 7), ((-1), 2147483647), (0, 5), (0, 11), (0, 1522), (0, 1522)], [], [(((0, 0), 1851192626986356797424377080872646779465072059483645808527278080000000), .inr (3, (14, 0))), (((14, 0), 1000010), .inl none), (((0, 0), 1851192626986356797424364830707437625680387377997778264871665664000000), .inr (3, (13, 0))), (((13, 0), 1000010), .inl none), (((0, 1), 9), .inr (3, (0, 12))), (((0, 0), 0), .inr (3, (0, 1)))], 0, 0, 123, [(4, .inr (0, (12, 0))), (0, .inr (3, (0, 0))), (1, .inr (0, (8, 0))), (2, .inr (0, (9, 0))), (3, .inr (0, (10, 0)))], [.inr (0, (10, 0)), .inr (3, (14, 0)), .inr (3, (13, 0)), .inr (3, (0, 1))]), [], [], [(0, 0), (0, 0), (0, 0), (0, 0), (0, 0), (0, 0), (0, 0), (0, 0), (8, 0), (9, 0), (10, 0), (12, 0), (13, 0), (14, 0)], 13)
noncomputable def rxeLNX_14_0 : rx_End × List (Nat × Int × Int) := (([(0, 0), (0, 0), (0, 0), (0, 0), (0, 0), (0, 0), (0, 0), (0, 0), (0, 10), (0, 7), ((-1), 2147483647), (0, 11), (0, 1522), (0, 1522)], [], [(((0, 0), 1851192626986356799029993984671224184301589730656725205983952899000000), .inr (0, (0, 0))), (((0, 0), 8), .inr (0, (0, 0))), (((12, 0), 1000010), .inl none), (((13, 0), 1000010), .inl none)], some (.inr (0, (11, 0)))), [])
noncomputable def rxYLNX : List bx_HE := [(rxzLNX_0, [rxoLNX_0_0, rxoLNX_0_1, rxoLNX_0_2, rxoLNX_0_3, rxoLNX_0_4, rxoLNX_0_5], []), (rxzLNX_1, [], []), (rxzLNX_2, [], [rxeLNX_2_0]), (rxzLNX_3, [], []), (rxzLNX_4, [], [rxeLNX_4_0]), (rxzLNX_5, [], []), (rxzLNX_6, [rxoLNX_6_0, rxoLNX_6_1, rxoLNX_6_2], []), (rxzLNX_7, [], []), (rxzLNX_8, [], [rxeLNX_8_0]), (rxzLNX_9, [], []), (rxzLNX_10, [], [rxeLNX_10_0]), (rxzLNX_11, [], []), (rxzLNX_12, [rxoLNX_12_0, rxoLNX_12_1], []), (rxzLNX_13, [], []), (rxzLNX_14, [], [rxeLNX_14_0])]
noncomputable def rxULNX (q : bx_HE) : Bool := Nat.beq (rx_zpc q.1) 7 || Nat.beq (rx_zpc q.1) 39 || Nat.beq (rx_zpc q.1) 49 || Nat.beq (rx_zpc q.1) 58 || Nat.beq (rx_zpc q.1) 77 || Nat.beq (rx_zpc q.1) 96 || Nat.beq (rx_zpc q.1) 123
noncomputable def rxYBLNX : bx_B := (rxV, rxNP, rxDmf, bx_mdH rxC159.2.2.1)
set_option maxRecDepth 100000 in
theorem rxYcLNX : bx_chkH rxYBLNX rxM159 rxC159 rxYLNX (rxULNX, fun cut z => rx_ex2 (rxCT rxYBLNX rxCnE) cut 30000 rxC159.2.2.2.1 159 z) = true := by decide +kernel
noncomputable def rxILNX (S0 : Nat → Int → Int) (ws : List Int) (i : Nat) : bx_SP := fun S r => match i with | 0 => rxILNX_0 S0 ws S (r 8) (r 9) (r 10) | 1 => rxILNX_1 S0 ws S (r 8) (r 9) (r 10) | 2 => rxILNX_2 S0 ws S (r 8) (r 9) (r 10) (r 11) | 3 => rxILNX_3 S0 ws S (r 8) (r 9) (r 10) | 4 => rxILNX_4 S0 ws S (r 8) (r 9) (r 10) (r 11) | 5 => rxILNX_5 S0 ws S (r 8) (r 9) (r 10) | 6 => rxILNX_6 S0 ws S (r 8) (r 9) (r 10) (r 11) | 7 => rxILNX_7 S0 ws S (r 8) (r 9) (r 10) | 8 => rxILNX_8 S0 ws S (r 8) (r 9) (r 10) (r 11) | 9 => rxILNX_9 S0 ws S (r 8) (r 9) (r 10) | 10 => rxILNX_10 S0 ws S (r 8) (r 9) (r 10) (r 11) | 11 => rxILNX_11 S0 ws S (r 8) (r 9) (r 10) (r 11) | 12 => rxILNX_12 S0 ws S (r 8) (r 9) (r 10) (r 11) (r 12) | 13 => rxILNX_13 S0 ws S (r 8) (r 9) (r 10) (r 11) (r 12) (r 13) | 14 => rxILNX_14 S0 ws S (r 8) (r 9) (r 10) (r 11) (r 12) (r 13) | _ => False
noncomputable def rxmLNX (S0 : Nat → Int → Int) (ws : List Int) (i : Nat) (S : Nat → Int → Int) (r : Nat → Int) : Nat := match i with | 0 => rxmLNX_0 S0 ws S (r 8) (r 9) (r 10) | 1 => rxmLNX_1 S0 ws S (r 8) (r 9) (r 10) | 2 => rxmLNX_2 S0 ws S (r 8) (r 9) (r 10) (r 11) | 3 => rxmLNX_3 S0 ws S (r 8) (r 9) (r 10) | 4 => rxmLNX_4 S0 ws S (r 8) (r 9) (r 10) (r 11) | 5 => rxmLNX_5 S0 ws S (r 8) (r 9) (r 10) | 6 => rxmLNX_6 S0 ws S (r 8) (r 9) (r 10) (r 11) | 7 => rxmLNX_7 S0 ws S (r 8) (r 9) (r 10) | 8 => rxmLNX_8 S0 ws S (r 8) (r 9) (r 10) (r 11) | 9 => rxmLNX_9 S0 ws S (r 8) (r 9) (r 10) | 10 => rxmLNX_10 S0 ws S (r 8) (r 9) (r 10) (r 11) | 11 => rxmLNX_11 S0 ws S (r 8) (r 9) (r 10) (r 11) | 12 => rxmLNX_12 S0 ws S (r 8) (r 9) (r 10) (r 11) (r 12) | 13 => rxmLNX_13 S0 ws S (r 8) (r 9) (r 10) (r 11) (r 12) (r 13) | 14 => rxmLNX_14 S0 ws S (r 8) (r 9) (r 10) (r 11) (r 12) (r 13) | _ => 0
noncomputable def rxPLNX (S0 : Nat → Int → Int) (ws : List Int) : Prop := (rkDp S0 ∧ ∀ i : Int, 0 ≤ i → i < S0 1 5 → S0 10 i < S0 5 0) ∧ rkPl S0 ∧ ∀ vs : Int, 0 ≤ vs → vs < S0 1 5 → ∃ P : Int → Int, rjdRw S0 (6 + vs) P
noncomputable def rxPSLNX (S0 : Nat → Int → Int) (ws : List Int) (S : Nat → Int → Int) (w : Option Int) : Prop := rxPS159 S0 ws S w ∧ ∃ vs ps sl : Int, ws = [0, vs, ps, sl] ∧ (∀ z : Int, w = some z → z < 0 → rjdSm S0 S) ∧ (∀ z : Int, w = some z → 0 ≤ z → (∀ P : Int → Int, rjdRw S0 (6 + vs) P → rjdRw S (6 + S0 1 5) (rjW P (fun k => S0 13 k) sl (S0 1 10).toNat).1) ∧ rjdOp S0 S (6 + S0 1 5))
theorem rxkLNX_1 {S0 : Nat → Int → Int} {ws : List Int} {S : Nat → Int → Int} {vs ps sl : Int} (hP : rxPLNX S0 ws) (hin : bx_same rxL (bx_mdl rxC159.2.2.1) S0 S) (I0 : bx_Inv rxL S) (hinv : rxILNX_1 S0 ws S vs ps sl) (l8 : (-2147483648) ≤ vs) (u8 : vs ≤ 2147483647) (l9 : (-2147483648) ≤ ps) (u9 : ps ≤ 2147483647) (l10 : (-2147483648) ≤ sl) (u10 : sl ≤ 2147483647) : rxP110 S [0, (-1)] ∧ ∀ (S_p : Nat → Int → Int) (res : Int), (-6) ≤ res → res ≤ (-1) → rxPS110 S [0, (-1)] S_p (some res) → bx_Inv rxL S_p → bx_same rxL (bx_mdl rxC110.2.2.1) S S_p → rxILNX_2 S0 ws S_p vs ps sl res ∧ rxmLNX_2 S0 ws S_p vs ps sl res < rxmLNX_1 S0 ws S vs ps sl := by
  exact rxk159_1 hP.1 hin I0 hinv l8 u8 l9 u9 l10 u10
theorem rxsLNX_1 {X : (Nat → Int → Int) → Prop} {S0 : Nat → Int → Int} {ws : List Int} (hP : rxPLNX S0 ws) : rx_obK X S0 rxC159.2.2.1 rxC110.2.2.1 (rxILNX S0 ws) (rxmLNX S0 ws) 1 2 rxzLNX_1 rxzLNX_2 [.inr (3, (0, 0)), .inr (0, (0, (-1)))] (some 11) rxP110 rxPS110 := by
  intro S r hinv hXS I0 hin hs_ hf_
  have b_ := bx_bds_sat hs_
  have f_ := bx_fcl_ok hs_.1 hf_
  obtain ⟨⟨l8, u8⟩, ⟨l9, u9⟩, ⟨l10, u10⟩, -⟩ := b_
  have g := rxkLNX_1 hP hin I0 hinv l8 u8 l9 u9 l10 u10
  have ea : List.map (bx_num r) [.inr (3, (0, 0)), .inr (0, (0, (-1)))] = [0, -1] := by
    simp only [List.map_cons, List.map_nil, bx_xv_ok hs_.1]
    rfl
  rw [ea]
  refine ⟨g.1, fun S_p w r_p hPS hX_p I1 hsm hr hw hs_p => ?_⟩
  have hw := hw _ rfl
  subst hw
  have b_p := hs_p.2.2 11 _ _ rfl
  have g2 := g.2 S_p (r_p 11) b_p.1 b_p.2 hPS I1 hsm
  show rxILNX_2 S0 ws S_p (r_p 8) (r_p 9) (r_p 10) (r_p 11) ∧ rxmLNX_2 S0 ws S_p (r_p 8) (r_p 9) (r_p 10) (r_p 11) < _
  rw [hr 8 (by decide), hr 9 (by decide), hr 10 (by decide)]
  exact g2
theorem rxkLNX_3 {S0 : Nat → Int → Int} {ws : List Int} {S : Nat → Int → Int} {vs ps sl : Int} (hP : rxPLNX S0 ws) (hin : bx_same rxL (bx_mdl rxC159.2.2.1) S0 S) (I0 : bx_Inv rxL S) (hinv : rxILNX_3 S0 ws S vs ps sl) (l8 : (-2147483648) ≤ vs) (u8 : vs ≤ 2147483647) (l9 : (-2147483648) ≤ ps) (u9 : ps ≤ 2147483647) (l10 : (-1) ≤ sl) (u10 : sl ≤ 2147483647) : rxP110 S [0, (-2)] ∧ ∀ (S_p : Nat → Int → Int) (res : Int), (-6) ≤ res → res ≤ (-1) → rxPS110 S [0, (-2)] S_p (some res) → bx_Inv rxL S_p → bx_same rxL (bx_mdl rxC110.2.2.1) S S_p → rxILNX_4 S0 ws S_p vs ps sl res ∧ rxmLNX_4 S0 ws S_p vs ps sl res < rxmLNX_3 S0 ws S vs ps sl := by
  exact rxk159_3 hP.1 hin I0 hinv l8 u8 l9 u9 l10 u10
theorem rxsLNX_3 {X : (Nat → Int → Int) → Prop} {S0 : Nat → Int → Int} {ws : List Int} (hP : rxPLNX S0 ws) : rx_obK X S0 rxC159.2.2.1 rxC110.2.2.1 (rxILNX S0 ws) (rxmLNX S0 ws) 3 4 rxzLNX_3 rxzLNX_4 [.inr (3, (0, 0)), .inr (0, (0, (-2)))] (some 11) rxP110 rxPS110 := by
  intro S r hinv hXS I0 hin hs_ hf_
  have b_ := bx_bds_sat hs_
  have f_ := bx_fcl_ok hs_.1 hf_
  obtain ⟨⟨l8, u8⟩, ⟨l9, u9⟩, ⟨l10, u10⟩, -⟩ := b_
  have g := rxkLNX_3 hP hin I0 hinv l8 u8 l9 u9 l10 u10
  have ea : List.map (bx_num r) [.inr (3, (0, 0)), .inr (0, (0, (-2)))] = [0, -2] := by
    simp only [List.map_cons, List.map_nil, bx_xv_ok hs_.1]
    rfl
  rw [ea]
  refine ⟨g.1, fun S_p w r_p hPS hX_p I1 hsm hr hw hs_p => ?_⟩
  have hw := hw _ rfl
  subst hw
  have b_p := hs_p.2.2 11 _ _ rfl
  have g2 := g.2 S_p (r_p 11) b_p.1 b_p.2 hPS I1 hsm
  show rxILNX_4 S0 ws S_p (r_p 8) (r_p 9) (r_p 10) (r_p 11) ∧ rxmLNX_4 S0 ws S_p (r_p 8) (r_p 9) (r_p 10) (r_p 11) < _
  rw [hr 8 (by decide), hr 9 (by decide), hr 10 (by decide)]
  exact g2
theorem rxkLNX_5 {S0 : Nat → Int → Int} {ws : List Int} {S : Nat → Int → Int} {vs ps sl : Int} (hP : rxPLNX S0 ws) (hin : bx_same rxL (bx_mdl rxC159.2.2.1) S0 S) (I0 : bx_Inv rxL S) (hinv : rxILNX_5 S0 ws S vs ps sl) (l8 : 0 ≤ vs) (u8 : vs ≤ 11) (l9 : 0 ≤ ps) (u9 : ps ≤ 7) (l10 : (-1) ≤ sl) (u10 : sl ≤ 2147483647) : rxPMLD S [1, vs, ps] ∧ ∀ (S_p : Nat → Int → Int) (r : Int), 0 ≤ r → r ≤ 1 → rxPSMLD S [1, vs, ps] S_p (some r) → bx_Inv rxL S_p → bx_same rxL (bx_mdl rxCMLD.2.2.1) S S_p → rxILNX_6 S0 ws S_p vs ps sl r ∧ rxmLNX_6 S0 ws S_p vs ps sl r < rxmLNX_5 S0 ws S vs ps sl := by
  exact rxk159_5 hP.1 hin I0 hinv l8 u8 l9 u9 l10 u10
theorem rxsLNX_5 {X : (Nat → Int → Int) → Prop} {S0 : Nat → Int → Int} {ws : List Int} (hP : rxPLNX S0 ws) : rx_obK X S0 rxC159.2.2.1 rxCMLD.2.2.1 (rxILNX S0 ws) (rxmLNX S0 ws) 5 6 rxzLNX_5 rxzLNX_6 [.inr (3, (0, 1)), .inr (0, (8, 0)), .inr (0, (9, 0))] (some 11) rxPMLD rxPSMLD := by
  intro S r hinv hXS I0 hin hs_ hf_
  have b_ := bx_bds_sat hs_
  have f_ := bx_fcl_ok hs_.1 hf_
  obtain ⟨⟨l8, u8⟩, ⟨l9, u9⟩, ⟨l10, u10⟩, -⟩ := b_
  have g := rxkLNX_5 hP hin I0 hinv l8 u8 l9 u9 l10 u10
  have ea : List.map (bx_num r) [.inr (3, (0, 1)), .inr (0, (8, 0)), .inr (0, (9, 0))] = [1, (r 8), (r 9)] := by
    simp only [List.map_cons, List.map_nil, bx_xv_ok hs_.1]
    rfl
  rw [ea]
  refine ⟨g.1, fun S_p w r_p hPS hX_p I1 hsm hr hw hs_p => ?_⟩
  have hw := hw _ rfl
  subst hw
  have b_p := hs_p.2.2 11 _ _ rfl
  have g2 := g.2 S_p (r_p 11) b_p.1 b_p.2 hPS I1 hsm
  show rxILNX_6 S0 ws S_p (r_p 8) (r_p 9) (r_p 10) (r_p 11) ∧ rxmLNX_6 S0 ws S_p (r_p 8) (r_p 9) (r_p 10) (r_p 11) < _
  rw [hr 8 (by decide), hr 9 (by decide), hr 10 (by decide)]
  exact g2
theorem rxkLNX_7 {S0 : Nat → Int → Int} {ws : List Int} {S : Nat → Int → Int} {vs ps sl : Int} (hP : rxPLNX S0 ws) (hin : bx_same rxL (bx_mdl rxC159.2.2.1) S0 S) (I0 : bx_Inv rxL S) (hinv : rxILNX_7 S0 ws S vs ps sl) (l8 : 0 ≤ vs) (u8 : vs ≤ 11) (l9 : 0 ≤ ps) (u9 : ps ≤ 7) (l10 : (-1) ≤ sl) (u10 : sl ≤ 2147483647) : rxP110 S [0, (-3)] ∧ ∀ (S_p : Nat → Int → Int) (res : Int), (-6) ≤ res → res ≤ (-1) → rxPS110 S [0, (-3)] S_p (some res) → bx_Inv rxL S_p → bx_same rxL (bx_mdl rxC110.2.2.1) S S_p → rxILNX_8 S0 ws S_p vs ps sl res ∧ rxmLNX_8 S0 ws S_p vs ps sl res < rxmLNX_7 S0 ws S vs ps sl := by
  exact rxk159_7 hP.1 hin I0 hinv l8 u8 l9 u9 l10 u10
theorem rxsLNX_7 {X : (Nat → Int → Int) → Prop} {S0 : Nat → Int → Int} {ws : List Int} (hP : rxPLNX S0 ws) : rx_obK X S0 rxC159.2.2.1 rxC110.2.2.1 (rxILNX S0 ws) (rxmLNX S0 ws) 7 8 rxzLNX_7 rxzLNX_8 [.inr (3, (0, 0)), .inr (0, (0, (-3)))] (some 11) rxP110 rxPS110 := by
  intro S r hinv hXS I0 hin hs_ hf_
  have b_ := bx_bds_sat hs_
  have f_ := bx_fcl_ok hs_.1 hf_
  obtain ⟨⟨l8, u8⟩, ⟨l9, u9⟩, ⟨l10, u10⟩, -⟩ := b_
  have g := rxkLNX_7 hP hin I0 hinv l8 u8 l9 u9 l10 u10
  have ea : List.map (bx_num r) [.inr (3, (0, 0)), .inr (0, (0, (-3)))] = [0, -3] := by
    simp only [List.map_cons, List.map_nil, bx_xv_ok hs_.1]
    rfl
  rw [ea]
  refine ⟨g.1, fun S_p w r_p hPS hX_p I1 hsm hr hw hs_p => ?_⟩
  have hw := hw _ rfl
  subst hw
  have b_p := hs_p.2.2 11 _ _ rfl
  have g2 := g.2 S_p (r_p 11) b_p.1 b_p.2 hPS I1 hsm
  show rxILNX_8 S0 ws S_p (r_p 8) (r_p 9) (r_p 10) (r_p 11) ∧ rxmLNX_8 S0 ws S_p (r_p 8) (r_p 9) (r_p 10) (r_p 11) < _
  rw [hr 8 (by decide), hr 9 (by decide), hr 10 (by decide)]
  exact g2
theorem rxkLNX_9 {S0 : Nat → Int → Int} {ws : List Int} {S : Nat → Int → Int} {vs ps sl : Int} (hP : rxPLNX S0 ws) (hin : bx_same rxL (bx_mdl rxC159.2.2.1) S0 S) (I0 : bx_Inv rxL S) (hinv : rxILNX_9 S0 ws S vs ps sl) (l8 : 0 ≤ vs) (u8 : vs ≤ 11) (l9 : 0 ≤ ps) (u9 : ps ≤ 7) (l10 : (-1) ≤ sl) (u10 : sl ≤ 2147483647) : rxP110 S [0, (-5)] ∧ ∀ (S_p : Nat → Int → Int) (res : Int), (-6) ≤ res → res ≤ (-1) → rxPS110 S [0, (-5)] S_p (some res) → bx_Inv rxL S_p → bx_same rxL (bx_mdl rxC110.2.2.1) S S_p → rxILNX_10 S0 ws S_p vs ps sl res ∧ rxmLNX_10 S0 ws S_p vs ps sl res < rxmLNX_9 S0 ws S vs ps sl := by
  exact rxk159_9 hP.1 hin I0 hinv l8 u8 l9 u9 l10 u10
theorem rxsLNX_9 {X : (Nat → Int → Int) → Prop} {S0 : Nat → Int → Int} {ws : List Int} (hP : rxPLNX S0 ws) : rx_obK X S0 rxC159.2.2.1 rxC110.2.2.1 (rxILNX S0 ws) (rxmLNX S0 ws) 9 10 rxzLNX_9 rxzLNX_10 [.inr (3, (0, 0)), .inr (0, (0, (-5)))] (some 11) rxP110 rxPS110 := by
  intro S r hinv hXS I0 hin hs_ hf_
  have b_ := bx_bds_sat hs_
  have f_ := bx_fcl_ok hs_.1 hf_
  obtain ⟨⟨l8, u8⟩, ⟨l9, u9⟩, ⟨l10, u10⟩, -⟩ := b_
  have g := rxkLNX_9 hP hin I0 hinv l8 u8 l9 u9 l10 u10
  have ea : List.map (bx_num r) [.inr (3, (0, 0)), .inr (0, (0, (-5)))] = [0, -5] := by
    simp only [List.map_cons, List.map_nil, bx_xv_ok hs_.1]
    rfl
  rw [ea]
  refine ⟨g.1, fun S_p w r_p hPS hX_p I1 hsm hr hw hs_p => ?_⟩
  have hw := hw _ rfl
  subst hw
  have b_p := hs_p.2.2 11 _ _ rfl
  have g2 := g.2 S_p (r_p 11) b_p.1 b_p.2 hPS I1 hsm
  show rxILNX_10 S0 ws S_p (r_p 8) (r_p 9) (r_p 10) (r_p 11) ∧ rxmLNX_10 S0 ws S_p (r_p 8) (r_p 9) (r_p 10) (r_p 11) < _
  rw [hr 8 (by decide), hr 9 (by decide), hr 10 (by decide)]
  exact g2
theorem rxkLNX_11 {S0 : Nat → Int → Int} {ws : List Int} {S : Nat → Int → Int} {vs ps sl pa : Int} (hP : rxPLNX S0 ws) (hin : bx_same rxL (bx_mdl rxC159.2.2.1) S0 S) (I0 : bx_Inv rxL S) (hinv : rxILNX_11 S0 ws S vs ps sl pa) (l8 : 0 ≤ vs) (u8 : vs ≤ 10) (l9 : 0 ≤ ps) (u9 : ps ≤ 7) (l10 : (-1) ≤ sl) (u10 : sl ≤ 2147483647) (l11 : 0 ≤ pa) (u11 : pa ≤ 5) : rxPADX S [1, pa, ps, vs] ∧ ∀ (S_p : Nat → Int → Int) (res : Int), (-1) ≤ res → res ≤ 11 → rxPSADX S [1, pa, ps, vs] S_p (some res) → bx_Inv rxL S_p → bx_same rxL (bx_mdl rxCADX.2.2.1) S S_p → rxILNX_12 S0 ws S_p vs ps sl pa res ∧ rxmLNX_12 S0 ws S_p vs ps sl pa res < rxmLNX_11 S0 ws S vs ps sl pa := by
  obtain ⟨hm, hg, hw, hf⟩ := hinv
  have hpl : rkPl S := rkPl_sm hf (by decide +kernel) hP.2.1
  have b5 : 0 ≤ S 1 5 ∧ S 1 5 ≤ 12 := I0 1 5 (by decide) (by decide)
  have e5 : S 1 5 = S0 1 5 := hf 1 5 (by decide) (by decide) (by decide +kernel)
  have hs := rjdSm_sm (S0 := S0) (S := S) hf (by decide +kernel)
  refine ⟨hpl, fun S_p res _ _ hq _ hsm => ⟨?_, by unfold rxmLNX_11 rxmLNX_12 rxm159_11; omega⟩⟩
  obtain ⟨pa2, ps2, te2, hw3, h⟩ := hq
  have k0 : pa = pa2 := Option.some.inj (congrArg (fun l : List Int => l[1]?) hw3)
  have k1 : ps = ps2 := Option.some.inj (congrArg (fun l : List Int => l[2]?) hw3)
  have k2 : vs = te2 := Option.some.inj (congrArg (fun l : List Int => l[3]?) hw3)
  subst k0
  subst k1
  subst k2
  rcases h with ⟨h, -⟩ | ⟨h, hr, h5, hcl, ⟨r9, r10, r11⟩, hfr⟩
  · exfalso
    omega
  · exact ⟨⟨(Option.some.inj hr).trans e5, by have := Option.some.inj hr; omega⟩, hm, hg, hw, by omega, fun i i0 i1 => by
      by_cases c : i = S0 1 5
      · rw [if_pos c, c, ← e5]
        exact r9
      · rw [if_neg c]
        exact (hfr 9 i (by omega) (by omega) (by omega) (by omega) (by omega) (by omega)).trans (rx_sameR2 hf (p := 9) (tc := 0) (n := 12) (g := 6) rfl (by omega) (by decide +kernel) (by decide +kernel) i0 i1), fun i i0 i1 => by
      by_cases c : i = S0 1 5
      · rw [if_pos c, c, ← e5]
        exact r10
      · rw [if_neg c]
        exact (hfr 10 i (by omega) (by omega) (by omega) (by omega) (by omega) (by omega)).trans (rx_sameR2 hf (p := 10) (tc := 0) (n := 12) (g := 7) rfl (by omega) (by decide +kernel) (by decide +kernel) i0 i1), fun i i0 i1 => by
      by_cases c : i = S0 1 5
      · rw [if_pos c, c, ← e5]
        exact r11
      · rw [if_neg c]
        exact (hfr 11 i (by omega) (by omega) (by omega) (by omega) (by omega) (by omega)).trans (rx_sameR2 hf (p := 11) (tc := 0) (n := 12) (g := 8) rfl (by omega) (by decide +kernel) (by decide +kernel) i0 i1), (hfr 138 5 (by omega) (by omega) (by omega) (by omega) (by omega) (by omega)).trans (hf 138 5 (by decide) (by decide) (by decide +kernel)), (hfr 274 5 (by omega) (by omega) (by omega) (by omega) (by omega) (by omega)).trans (hf 274 5 (by decide) (by decide) (by decide +kernel)), fun i i0 i1 => (hfr 146 i (by omega) (by omega) (by omega) (by omega) (by omega) (by omega)).trans (rx_sameR2 hf (p := 146) (tc := 0) (n := 12) (g := 6) rfl (by omega) (by decide +kernel) (by decide +kernel) i0 i1), fun i i0 i1 => (hfr 282 i (by omega) (by omega) (by omega) (by omega) (by omega) (by omega)).trans (rx_sameR2 hf (p := 282) (tc := 0) (n := 12) (g := 6) rfl (by omega) (by decide +kernel) (by decide +kernel) i0 i1), fun i i0 i1 => (hfr 147 i (by omega) (by omega) (by omega) (by omega) (by omega) (by omega)).trans (rx_sameR2 hf (p := 147) (tc := 0) (n := 12) (g := 7) rfl (by omega) (by decide +kernel) (by decide +kernel) i0 i1), fun i i0 i1 => (hfr 283 i (by omega) (by omega) (by omega) (by omega) (by omega) (by omega)).trans (rx_sameR2 hf (p := 283) (tc := 0) (n := 12) (g := 7) rfl (by omega) (by decide +kernel) (by decide +kernel) i0 i1), fun i i0 i1 => (hfr 148 i (by omega) (by omega) (by omega) (by omega) (by omega) (by omega)).trans (rx_sameR2 hf (p := 148) (tc := 0) (n := 12) (g := 8) rfl (by omega) (by decide +kernel) (by decide +kernel) i0 i1), fun i i0 i1 => (hfr 284 i (by omega) (by omega) (by omega) (by omega) (by omega) (by omega)).trans (rx_sameR2 hf (p := 284) (tc := 0) (n := 12) (g := 8) rfl (by omega) (by decide +kernel) (by decide +kernel) i0 i1), fun p t a b c d e => (hfr p t (by omega) (by omega) (by omega) (by omega) (by omega) (by omega)).trans (hs p t a b c), fun t a b => by
      have g := hcl t a b
      rw [e5] at g
      exact g⟩
theorem rxsLNX_11 {X : (Nat → Int → Int) → Prop} {S0 : Nat → Int → Int} {ws : List Int} (hP : rxPLNX S0 ws) : rx_obK X S0 rxC159.2.2.1 rxCADX.2.2.1 (rxILNX S0 ws) (rxmLNX S0 ws) 11 12 rxzLNX_11 rxzLNX_12 [.inr (3, (0, 1)), .inr (0, (11, 0)), .inr (0, (9, 0)), .inr (0, (8, 0))] (some 12) rxPADX rxPSADX := by
  intro S r hinv hXS I0 hin hs_ hf_
  have b_ := bx_bds_sat hs_
  have f_ := bx_fcl_ok hs_.1 hf_
  obtain ⟨⟨l8, u8⟩, ⟨l9, u9⟩, ⟨l10, u10⟩, ⟨l11, u11⟩, -⟩ := b_
  have g := rxkLNX_11 hP hin I0 hinv l8 u8 l9 u9 l10 u10 l11 u11
  have ea : List.map (bx_num r) [.inr (3, (0, 1)), .inr (0, (11, 0)), .inr (0, (9, 0)), .inr (0, (8, 0))] = [1, (r 11), (r 9), (r 8)] := by
    simp only [List.map_cons, List.map_nil, bx_xv_ok hs_.1]
    rfl
  rw [ea]
  refine ⟨g.1, fun S_p w r_p hPS hX_p I1 hsm hr hw hs_p => ?_⟩
  have hw := hw _ rfl
  subst hw
  have b_p := hs_p.2.2 12 _ _ rfl
  have g2 := g.2 S_p (r_p 12) b_p.1 b_p.2 hPS I1 hsm
  show rxILNX_12 S0 ws S_p (r_p 8) (r_p 9) (r_p 10) (r_p 11) (r_p 12) ∧ rxmLNX_12 S0 ws S_p (r_p 8) (r_p 9) (r_p 10) (r_p 11) (r_p 12) < _
  rw [hr 8 (by decide), hr 9 (by decide), hr 10 (by decide), hr 11 (by decide)]
  exact g2
theorem rxkLNX_13 {S0 : Nat → Int → Int} {ws : List Int} {S : Nat → Int → Int} {vs ps sl res pl le : Int} (hP : rxPLNX S0 ws) (hin : bx_same rxL (bx_mdl rxC159.2.2.1) S0 S) (I0 : bx_Inv rxL S) (hinv : rxILNX_13 S0 ws S vs ps sl res pl le) (l8 : 0 ≤ vs) (u8 : vs ≤ 10) (l9 : 0 ≤ ps) (u9 : ps ≤ 7) (l10 : (-1) ≤ sl) (u10 : sl ≤ 2147483647) (l11 : 0 ≤ res) (u11 : res ≤ 11) (l12 : 0 ≤ pl) (u12 : pl ≤ 1522) (l13 : 0 ≤ le) (u13 : le ≤ 1522) : rxPWAT S [1, pl, le, sl] ∧ ∀ (S_p : Nat → Int → Int), rxPSWAT S [1, pl, le, sl] S_p none → bx_Inv rxL S_p → bx_same rxL (bx_mdl rxCWAT.2.2.1) S S_p → rxILNX_14 S0 ws S_p vs ps sl res pl le ∧ rxmLNX_14 S0 ws S_p vs ps sl res pl le < rxmLNX_13 S0 ws S vs ps sl res pl le := by
  obtain ⟨hpl, hle, ⟨hr, h0⟩, ⟨hm, h12⟩, hg, hw, h5, r9, r10, r11, k1, k2, f146, f282, f147, f283, f148, f284, hop, hcl⟩ := hinv
  have hPl : rkPl S := rkPl_sm hin (by decide +kernel) hP.2.1
  have e13 : ∀ k : Int, 0 ≤ k → k < 12 → S 13 k = S0 13 k := fun k a b => rx_sameR2 hin (p := 13) (tc := 0) (n := 12) (g := 10) rfl (by omega) (by decide +kernel) (by decide +kernel) a b
  have e10 : S 1 10 = S0 1 10 := hin 1 10 (by decide) (by decide) (by decide +kernel)
  have b10 : 0 ≤ S0 1 10 ∧ S0 1 10 ≤ 12 := by
    rw [← e10]
    exact I0 1 10 (by decide) (by decide)
  obtain ⟨P0, hP0⟩ := hP.2.2 vs (by omega) (by omega)
  have hho : rjdRw S (6 + S0 1 5) rjHs := rjd_ho (fun t a b => by
    rw [show 24 + 3 * (6 + S0 1 5) = 42 + 3 * S0 1 5 by omega, show 25 + 3 * (6 + S0 1 5) = 43 + 3 * S0 1 5 by omega]
    exact hcl t a b)
  have hwh : ∀ P : Int → Int, rjdRw S0 (6 + vs) P → rjdWh S pl le (6 + vs) (6 + S0 1 5) P := fun P h => ⟨by omega, by omega, ⟨by omega, by omega⟩, ⟨by omega, by omega⟩, by omega, rjdRw_op (by omega) (by omega) h hop (by omega), hho⟩
  refine ⟨⟨pl, le, sl, _, _, P0, rfl, hPl, hwh P0 hP0⟩, fun S_p hq _ hsm => ⟨?_, by unfold rxmLNX_13 rxmLNX_14; omega⟩⟩
  obtain ⟨-, pl2, le2, sl2, hw3, h⟩ := hq
  have k1_ : pl = pl2 := Option.some.inj (congrArg (fun l : List Int => l[1]?) hw3)
  have k2_ : le = le2 := Option.some.inj (congrArg (fun l : List Int => l[2]?) hw3)
  have k3_ : sl = sl2 := Option.some.inj (congrArg (fun l : List Int => l[3]?) hw3)
  subst k1_
  subst k2_
  subst k3_
  have hopn := (h _ _ _ (hwh P0 hP0)).2
  refine ⟨⟨hr, h0⟩, ⟨hm, h12⟩, hg, hw, (hsm 1 5 (by decide) (by decide) (by decide +kernel)).trans h5, fun i i0 i1 => (rx_sameR2 hsm (p := 9) (tc := 0) (n := 12) (g := 6) rfl (by omega) (by decide +kernel) (by decide +kernel) i0 i1).trans (r9 i i0 i1), fun i i0 i1 => (rx_sameR2 hsm (p := 10) (tc := 0) (n := 12) (g := 7) rfl (by omega) (by decide +kernel) (by decide +kernel) i0 i1).trans (r10 i i0 i1), fun i i0 i1 => (rx_sameR2 hsm (p := 11) (tc := 0) (n := 12) (g := 8) rfl (by omega) (by decide +kernel) (by decide +kernel) i0 i1).trans (r11 i i0 i1), (hsm 138 5 (by decide) (by decide) (by decide +kernel)).trans k1, (hsm 274 5 (by decide) (by decide) (by decide +kernel)).trans k2, fun i i0 i1 => (rx_sameR2 hsm (p := 146) (tc := 0) (n := 12) (g := 6) rfl (by omega) (by decide +kernel) (by decide +kernel) i0 i1).trans (f146 i i0 i1), fun i i0 i1 => (rx_sameR2 hsm (p := 282) (tc := 0) (n := 12) (g := 6) rfl (by omega) (by decide +kernel) (by decide +kernel) i0 i1).trans (f282 i i0 i1), fun i i0 i1 => (rx_sameR2 hsm (p := 147) (tc := 0) (n := 12) (g := 7) rfl (by omega) (by decide +kernel) (by decide +kernel) i0 i1).trans (f147 i i0 i1), fun i i0 i1 => (rx_sameR2 hsm (p := 283) (tc := 0) (n := 12) (g := 7) rfl (by omega) (by decide +kernel) (by decide +kernel) i0 i1).trans (f283 i i0 i1), fun i i0 i1 => (rx_sameR2 hsm (p := 148) (tc := 0) (n := 12) (g := 8) rfl (by omega) (by decide +kernel) (by decide +kernel) i0 i1).trans (f148 i i0 i1), fun i i0 i1 => (rx_sameR2 hsm (p := 284) (tc := 0) (n := 12) (g := 8) rfl (by omega) (by decide +kernel) (by decide +kernel) i0 i1).trans (f284 i i0 i1), rjdOp_t hop hopn, fun P hp => ?_⟩
  have g := (h _ _ _ (hwh P hp)).1
  have ew : rjW P (fun k => S 13 k) sl (S 1 10).toNat = rjW P (fun k => S0 13 k) sl (S0 1 10).toNat := by
    rw [e10]
    exact rjW_fn (fun k hk => e13 (k : Int) (by omega) (by omega)) _ (Nat.le_refl _)
  rw [ew] at g
  exact g
theorem rxsLNX_13 {X : (Nat → Int → Int) → Prop} {S0 : Nat → Int → Int} {ws : List Int} (hP : rxPLNX S0 ws) : rx_obK X S0 rxC159.2.2.1 rxCWAT.2.2.1 (rxILNX S0 ws) (rxmLNX S0 ws) 13 14 rxzLNX_13 rxzLNX_14 [.inr (3, (0, 1)), .inr (3, (12, 0)), .inr (3, (13, 0)), .inr (0, (10, 0))] none rxPWAT rxPSWAT := by
  intro S r hinv hXS I0 hin hs_ hf_
  have b_ := bx_bds_sat hs_
  have f_ := bx_fcl_ok hs_.1 hf_
  obtain ⟨⟨l8, u8⟩, ⟨l9, u9⟩, ⟨l10, u10⟩, ⟨l11, u11⟩, ⟨l12, u12⟩, ⟨l13, u13⟩, -⟩ := b_
  have g := rxkLNX_13 hP hin I0 hinv l8 u8 l9 u9 l10 u10 l11 u11 l12 u12 l13 u13
  have ea : List.map (bx_num r) [.inr (3, (0, 1)), .inr (3, (12, 0)), .inr (3, (13, 0)), .inr (0, (10, 0))] = [1, (r 12), (r 13), (r 10)] := by
    simp only [List.map_cons, List.map_nil, bx_xv_ok hs_.1]
    rfl
  rw [ea]
  refine ⟨g.1, fun S_p w r_p hPS hX_p I1 hsm hr hw hs_p => ?_⟩
  have hw : w = none := hPS.1
  subst hw
  have g2 := g.2 S_p hPS I1 hsm
  show rxILNX_14 S0 ws S_p (r_p 8) (r_p 9) (r_p 10) (r_p 11) (r_p 12) (r_p 13) ∧ rxmLNX_14 S0 ws S_p (r_p 8) (r_p 9) (r_p 10) (r_p 11) (r_p 12) (r_p 13) < _
  rw [hr 8 (by decide), hr 9 (by decide), hr 10 (by decide), hr 11 (by decide), hr 12 (by decide), hr 13 (by decide)]
  exact g2
theorem rxcLNX_0_0 {S0 : Nat → Int → Int} {ws : List Int} {S : Nat → Int → Int} {vs ps sl : Int} (hP : rxPLNX S0 ws) (hin : bx_same rxL (bx_mdl rxC159.2.2.1) S0 S) (I0 : bx_Inv rxL S) (hinv : rxILNX_0 S0 ws S vs ps sl) (l8 : (-2147483648) ≤ vs) (u8 : vs ≤ 2147483647) (l9 : (-2147483648) ≤ ps) (u9 : ps ≤ 2147483647) (l10 : (-2147483648) ≤ sl) (u10 : sl ≤ (-2)) : (True) ∧ (True) ∧ rxILNX_1 S0 ws S vs ps sl ∧ rxmLNX_1 S0 ws S vs ps sl < rxmLNX_0 S0 ws S vs ps sl := by
  exact rxc159_0_0 hP.1 hin I0 hinv l8 u8 l9 u9 l10 u10
theorem rxgLNX_0_0 {X : (Nat → Int → Int) → Prop} {S0 : Nat → Int → Int} {ws : List Int} (hP : rxPLNX S0 ws) : bx_obC rxL X S0 rxC159.2.2.1 (rxILNX S0 ws) (rxmLNX S0 ws) 0 rxzLNX_0 rxoLNX_0_0 := by
  intro S S_p r r_p hinv hX hin hsm_ hseg
  obtain ⟨I0, I1, h0_, hr_, b_, f_, d_⟩ := bx_cl (evs := []) (fvs := []) hseg (by decide +kernel) (by decide +kernel)
  have hinv : rxILNX_0 S0 ws S (r 8) (r 9) (r 10) := hinv
  rw [← hr_ 8 (by decide), ← hr_ 9 (by decide), ← hr_ 10 (by decide)] at hinv
  obtain ⟨⟨l8, u8⟩, ⟨l9, u9⟩, ⟨l10, u10⟩, -⟩ := b_
  have w_ := d_
  subst w_
  have g := rxcLNX_0_0 hP hin I0 hinv l8 u8 l9 u9 l10 u10
  refine ⟨bx_narP_ok (l := []) g.1, bx_nfP_ok h0_ (fvs := []) (by decide +kernel) g.2.1, ?_, ?_⟩
  · show rxILNX_1 S0 ws S_p (bx_val [(0, 0), (0, 0), (0, 0), (0, 0), (0, 0), (0, 0), (0, 0), (0, 0), (8, 0), (9, 0), (10, 0)] r_p 8) (bx_val [(0, 0), (0, 0), (0, 0), (0, 0), (0, 0), (0, 0), (0, 0), (0, 0), (8, 0), (9, 0), (10, 0)] r_p 9) (bx_val [(0, 0), (0, 0), (0, 0), (0, 0), (0, 0), (0, 0), (0, 0), (0, 0), (8, 0), (9, 0), (10, 0)] r_p 10)
    rw [bx_val_x (n := 8) (e := (8, 0)) h0_ rfl, bx_val_x (n := 9) (e := (9, 0)) h0_ rfl, bx_val_x (n := 10) (e := (10, 0)) h0_ rfl]
    exact g.2.2.1
  · show rxmLNX_1 S0 ws S_p (bx_val [(0, 0), (0, 0), (0, 0), (0, 0), (0, 0), (0, 0), (0, 0), (0, 0), (8, 0), (9, 0), (10, 0)] r_p 8) (bx_val [(0, 0), (0, 0), (0, 0), (0, 0), (0, 0), (0, 0), (0, 0), (0, 0), (8, 0), (9, 0), (10, 0)] r_p 9) (bx_val [(0, 0), (0, 0), (0, 0), (0, 0), (0, 0), (0, 0), (0, 0), (0, 0), (8, 0), (9, 0), (10, 0)] r_p 10) < rxmLNX_0 S0 ws S_p (r 8) (r 9) (r 10)
    rw [bx_val_x (n := 8) (e := (8, 0)) h0_ rfl, bx_val_x (n := 9) (e := (9, 0)) h0_ rfl, bx_val_x (n := 10) (e := (10, 0)) h0_ rfl, ← hr_ 8 (by decide), ← hr_ 9 (by decide), ← hr_ 10 (by decide)]
    exact g.2.2.2
theorem rxcLNX_0_1 {S0 : Nat → Int → Int} {ws : List Int} {S : Nat → Int → Int} {vs ps sl : Int} (hP : rxPLNX S0 ws) (hin : bx_same rxL (bx_mdl rxC159.2.2.1) S0 S) (I0 : bx_Inv rxL S) (hinv : rxILNX_0 S0 ws S vs ps sl) (l8 : (-2147483648) ≤ vs) (u8 : vs ≤ (-1)) (l9 : (-2147483648) ≤ ps) (u9 : ps ≤ 2147483647) (l10 : (-1) ≤ sl) (u10 : sl ≤ 2147483647) : (True) ∧ (True) ∧ rxILNX_3 S0 ws S vs ps sl ∧ rxmLNX_3 S0 ws S vs ps sl < rxmLNX_0 S0 ws S vs ps sl := by
  exact rxc159_0_1 hP.1 hin I0 hinv l8 u8 l9 u9 l10 u10
theorem rxgLNX_0_1 {X : (Nat → Int → Int) → Prop} {S0 : Nat → Int → Int} {ws : List Int} (hP : rxPLNX S0 ws) : bx_obC rxL X S0 rxC159.2.2.1 (rxILNX S0 ws) (rxmLNX S0 ws) 0 rxzLNX_0 rxoLNX_0_1 := by
  intro S S_p r r_p hinv hX hin hsm_ hseg
  obtain ⟨I0, I1, h0_, hr_, b_, f_, d_⟩ := bx_cl (evs := []) (fvs := []) hseg (by decide +kernel) (by decide +kernel)
  have hinv : rxILNX_0 S0 ws S (r 8) (r 9) (r 10) := hinv
  rw [← hr_ 8 (by decide), ← hr_ 9 (by decide), ← hr_ 10 (by decide)] at hinv
  obtain ⟨⟨l8, u8⟩, ⟨l9, u9⟩, ⟨l10, u10⟩, -⟩ := b_
  have w_ := d_
  subst w_
  have g := rxcLNX_0_1 hP hin I0 hinv l8 u8 l9 u9 l10 u10
  refine ⟨bx_narP_ok (l := []) g.1, bx_nfP_ok h0_ (fvs := []) (by decide +kernel) g.2.1, ?_, ?_⟩
  · show rxILNX_3 S0 ws S_p (bx_val [(0, 0), (0, 0), (0, 0), (0, 0), (0, 0), (0, 0), (0, 0), (0, 0), (8, 0), (9, 0), (10, 0)] r_p 8) (bx_val [(0, 0), (0, 0), (0, 0), (0, 0), (0, 0), (0, 0), (0, 0), (0, 0), (8, 0), (9, 0), (10, 0)] r_p 9) (bx_val [(0, 0), (0, 0), (0, 0), (0, 0), (0, 0), (0, 0), (0, 0), (0, 0), (8, 0), (9, 0), (10, 0)] r_p 10)
    rw [bx_val_x (n := 8) (e := (8, 0)) h0_ rfl, bx_val_x (n := 9) (e := (9, 0)) h0_ rfl, bx_val_x (n := 10) (e := (10, 0)) h0_ rfl]
    exact g.2.2.1
  · show rxmLNX_3 S0 ws S_p (bx_val [(0, 0), (0, 0), (0, 0), (0, 0), (0, 0), (0, 0), (0, 0), (0, 0), (8, 0), (9, 0), (10, 0)] r_p 8) (bx_val [(0, 0), (0, 0), (0, 0), (0, 0), (0, 0), (0, 0), (0, 0), (0, 0), (8, 0), (9, 0), (10, 0)] r_p 9) (bx_val [(0, 0), (0, 0), (0, 0), (0, 0), (0, 0), (0, 0), (0, 0), (0, 0), (8, 0), (9, 0), (10, 0)] r_p 10) < rxmLNX_0 S0 ws S_p (r 8) (r 9) (r 10)
    rw [bx_val_x (n := 8) (e := (8, 0)) h0_ rfl, bx_val_x (n := 9) (e := (9, 0)) h0_ rfl, bx_val_x (n := 10) (e := (10, 0)) h0_ rfl, ← hr_ 8 (by decide), ← hr_ 9 (by decide), ← hr_ 10 (by decide)]
    exact g.2.2.2
theorem rxcLNX_0_2 {S0 : Nat → Int → Int} {ws : List Int} {S : Nat → Int → Int} {vs ps sl x11 : Int} (hP : rxPLNX S0 ws) (hin : bx_same rxL (bx_mdl rxC159.2.2.1) S0 S) (I0 : bx_Inv rxL S) (hinv : rxILNX_0 S0 ws S vs ps sl) (l8 : 0 ≤ vs) (u8 : vs ≤ 2147483647) (l9 : (-2147483648) ≤ ps) (u9 : ps ≤ 2147483647) (l10 : (-1) ≤ sl) (u10 : sl ≤ 2147483647) (l11 : 0 ≤ x11) (u11 : x11 ≤ 12) (f0 : x11 ≤ vs) (e0 : S 1 5 = x11) : (True) ∧ (True) ∧ rxILNX_3 S0 ws S vs ps sl ∧ rxmLNX_3 S0 ws S vs ps sl < rxmLNX_0 S0 ws S vs ps sl := by
  exact rxc159_0_2 hP.1 hin I0 hinv l8 u8 l9 u9 l10 u10 l11 u11 f0 e0
theorem rxgLNX_0_2 {X : (Nat → Int → Int) → Prop} {S0 : Nat → Int → Int} {ws : List Int} (hP : rxPLNX S0 ws) : bx_obC rxL X S0 rxC159.2.2.1 (rxILNX S0 ws) (rxmLNX S0 ws) 0 rxzLNX_0 rxoLNX_0_2 := by
  intro S S_p r r_p hinv hX hin hsm_ hseg
  obtain ⟨I0, I1, h0_, hr_, b_, f_, d_⟩ := bx_cl (evs := [(0, (0, 1), (0, 5), .inr (0, (11, 0)))]) (fvs := [(1, (11, 0), (8, 0), (0, 0))]) hseg (by decide +kernel) (by decide +kernel)
  have hinv : rxILNX_0 S0 ws S (r 8) (r 9) (r 10) := hinv
  rw [← hr_ 8 (by decide), ← hr_ 9 (by decide), ← hr_ 10 (by decide)] at hinv
  obtain ⟨⟨l8, u8⟩, ⟨l9, u9⟩, ⟨l10, u10⟩, ⟨l11, u11⟩, -⟩ := b_
  obtain ⟨f0, -⟩ := f_
  obtain ⟨e0, w_⟩ := d_
  subst w_
  have g := rxcLNX_0_2 hP hin I0 hinv l8 u8 l9 u9 l10 u10 l11 u11 f0 e0
  refine ⟨bx_narP_ok (l := []) g.1, bx_nfP_ok h0_ (fvs := []) (by decide +kernel) g.2.1, ?_, ?_⟩
  · show rxILNX_3 S0 ws S_p (bx_val [(0, 0), (0, 0), (0, 0), (0, 0), (0, 0), (0, 0), (0, 0), (0, 0), (8, 0), (9, 0), (10, 0)] r_p 8) (bx_val [(0, 0), (0, 0), (0, 0), (0, 0), (0, 0), (0, 0), (0, 0), (0, 0), (8, 0), (9, 0), (10, 0)] r_p 9) (bx_val [(0, 0), (0, 0), (0, 0), (0, 0), (0, 0), (0, 0), (0, 0), (0, 0), (8, 0), (9, 0), (10, 0)] r_p 10)
    rw [bx_val_x (n := 8) (e := (8, 0)) h0_ rfl, bx_val_x (n := 9) (e := (9, 0)) h0_ rfl, bx_val_x (n := 10) (e := (10, 0)) h0_ rfl]
    exact g.2.2.1
  · show rxmLNX_3 S0 ws S_p (bx_val [(0, 0), (0, 0), (0, 0), (0, 0), (0, 0), (0, 0), (0, 0), (0, 0), (8, 0), (9, 0), (10, 0)] r_p 8) (bx_val [(0, 0), (0, 0), (0, 0), (0, 0), (0, 0), (0, 0), (0, 0), (0, 0), (8, 0), (9, 0), (10, 0)] r_p 9) (bx_val [(0, 0), (0, 0), (0, 0), (0, 0), (0, 0), (0, 0), (0, 0), (0, 0), (8, 0), (9, 0), (10, 0)] r_p 10) < rxmLNX_0 S0 ws S_p (r 8) (r 9) (r 10)
    rw [bx_val_x (n := 8) (e := (8, 0)) h0_ rfl, bx_val_x (n := 9) (e := (9, 0)) h0_ rfl, bx_val_x (n := 10) (e := (10, 0)) h0_ rfl, ← hr_ 8 (by decide), ← hr_ 9 (by decide), ← hr_ 10 (by decide)]
    exact g.2.2.2
theorem rxcLNX_0_3 {S0 : Nat → Int → Int} {ws : List Int} {S : Nat → Int → Int} {vs ps sl x11 : Int} (hP : rxPLNX S0 ws) (hin : bx_same rxL (bx_mdl rxC159.2.2.1) S0 S) (I0 : bx_Inv rxL S) (hinv : rxILNX_0 S0 ws S vs ps sl) (l8 : 0 ≤ vs) (u8 : vs ≤ 11) (l9 : (-2147483648) ≤ ps) (u9 : ps ≤ (-1)) (l10 : (-1) ≤ sl) (u10 : sl ≤ 2147483647) (l11 : 1 ≤ x11) (u11 : x11 ≤ 12) (f0 : vs < x11) (e0 : S 1 5 = x11) : (True) ∧ (True) ∧ rxILNX_3 S0 ws S vs ps sl ∧ rxmLNX_3 S0 ws S vs ps sl < rxmLNX_0 S0 ws S vs ps sl := by
  exact rxc159_0_3 hP.1 hin I0 hinv l8 u8 l9 u9 l10 u10 l11 u11 f0 e0
theorem rxgLNX_0_3 {X : (Nat → Int → Int) → Prop} {S0 : Nat → Int → Int} {ws : List Int} (hP : rxPLNX S0 ws) : bx_obC rxL X S0 rxC159.2.2.1 (rxILNX S0 ws) (rxmLNX S0 ws) 0 rxzLNX_0 rxoLNX_0_3 := by
  intro S S_p r r_p hinv hX hin hsm_ hseg
  obtain ⟨I0, I1, h0_, hr_, b_, f_, d_⟩ := bx_cl (evs := [(0, (0, 1), (0, 5), .inr (0, (11, 0)))]) (fvs := [(0, (8, 0), (11, 0), (0, 0))]) hseg (by decide +kernel) (by decide +kernel)
  have hinv : rxILNX_0 S0 ws S (r 8) (r 9) (r 10) := hinv
  rw [← hr_ 8 (by decide), ← hr_ 9 (by decide), ← hr_ 10 (by decide)] at hinv
  obtain ⟨⟨l8, u8⟩, ⟨l9, u9⟩, ⟨l10, u10⟩, ⟨l11, u11⟩, -⟩ := b_
  obtain ⟨f0, -⟩ := f_
  obtain ⟨e0, w_⟩ := d_
  subst w_
  have g := rxcLNX_0_3 hP hin I0 hinv l8 u8 l9 u9 l10 u10 l11 u11 f0 e0
  refine ⟨bx_narP_ok (l := []) g.1, bx_nfP_ok h0_ (fvs := []) (by decide +kernel) g.2.1, ?_, ?_⟩
  · show rxILNX_3 S0 ws S_p (bx_val [(0, 0), (0, 0), (0, 0), (0, 0), (0, 0), (0, 0), (0, 0), (0, 0), (8, 0), (9, 0), (10, 0)] r_p 8) (bx_val [(0, 0), (0, 0), (0, 0), (0, 0), (0, 0), (0, 0), (0, 0), (0, 0), (8, 0), (9, 0), (10, 0)] r_p 9) (bx_val [(0, 0), (0, 0), (0, 0), (0, 0), (0, 0), (0, 0), (0, 0), (0, 0), (8, 0), (9, 0), (10, 0)] r_p 10)
    rw [bx_val_x (n := 8) (e := (8, 0)) h0_ rfl, bx_val_x (n := 9) (e := (9, 0)) h0_ rfl, bx_val_x (n := 10) (e := (10, 0)) h0_ rfl]
    exact g.2.2.1
  · show rxmLNX_3 S0 ws S_p (bx_val [(0, 0), (0, 0), (0, 0), (0, 0), (0, 0), (0, 0), (0, 0), (0, 0), (8, 0), (9, 0), (10, 0)] r_p 8) (bx_val [(0, 0), (0, 0), (0, 0), (0, 0), (0, 0), (0, 0), (0, 0), (0, 0), (8, 0), (9, 0), (10, 0)] r_p 9) (bx_val [(0, 0), (0, 0), (0, 0), (0, 0), (0, 0), (0, 0), (0, 0), (0, 0), (8, 0), (9, 0), (10, 0)] r_p 10) < rxmLNX_0 S0 ws S_p (r 8) (r 9) (r 10)
    rw [bx_val_x (n := 8) (e := (8, 0)) h0_ rfl, bx_val_x (n := 9) (e := (9, 0)) h0_ rfl, bx_val_x (n := 10) (e := (10, 0)) h0_ rfl, ← hr_ 8 (by decide), ← hr_ 9 (by decide), ← hr_ 10 (by decide)]
    exact g.2.2.2
theorem rxcLNX_0_4 {S0 : Nat → Int → Int} {ws : List Int} {S : Nat → Int → Int} {vs ps sl x11 x12 : Int} (hP : rxPLNX S0 ws) (hin : bx_same rxL (bx_mdl rxC159.2.2.1) S0 S) (I0 : bx_Inv rxL S) (hinv : rxILNX_0 S0 ws S vs ps sl) (l8 : 0 ≤ vs) (u8 : vs ≤ 11) (l9 : 0 ≤ ps) (u9 : ps ≤ 2147483647) (l10 : (-1) ≤ sl) (u10 : sl ≤ 2147483647) (l11 : 1 ≤ x11) (u11 : x11 ≤ 12) (l12 : 0 ≤ x12) (u12 : x12 ≤ 8) (f0 : x12 ≤ ps) (f1 : vs < x11) (e1 : S 1 5 = x11) (e0 : S 5 0 = x12) : (True) ∧ (True) ∧ rxILNX_3 S0 ws S vs ps sl ∧ rxmLNX_3 S0 ws S vs ps sl < rxmLNX_0 S0 ws S vs ps sl := by
  exact rxc159_0_4 hP.1 hin I0 hinv l8 u8 l9 u9 l10 u10 l11 u11 l12 u12 f0 f1 e1 e0
theorem rxgLNX_0_4 {X : (Nat → Int → Int) → Prop} {S0 : Nat → Int → Int} {ws : List Int} (hP : rxPLNX S0 ws) : bx_obC rxL X S0 rxC159.2.2.1 (rxILNX S0 ws) (rxmLNX S0 ws) 0 rxzLNX_0 rxoLNX_0_4 := by
  intro S S_p r r_p hinv hX hin hsm_ hseg
  obtain ⟨I0, I1, h0_, hr_, b_, f_, d_⟩ := bx_cl (evs := [(0, (0, 5), (0, 0), .inr (0, (12, 0))), (0, (0, 1), (0, 5), .inr (0, (11, 0)))]) (fvs := [(1, (12, 0), (9, 0), (0, 0)), (0, (8, 0), (11, 0), (0, 0))]) hseg (by decide +kernel) (by decide +kernel)
  have hinv : rxILNX_0 S0 ws S (r 8) (r 9) (r 10) := hinv
  rw [← hr_ 8 (by decide), ← hr_ 9 (by decide), ← hr_ 10 (by decide)] at hinv
  obtain ⟨⟨l8, u8⟩, ⟨l9, u9⟩, ⟨l10, u10⟩, ⟨l11, u11⟩, ⟨l12, u12⟩, -⟩ := b_
  obtain ⟨f0, f1, -⟩ := f_
  obtain ⟨e0, ⟨e1, w_⟩⟩ := d_
  subst w_
  have g := rxcLNX_0_4 hP hin I0 hinv l8 u8 l9 u9 l10 u10 l11 u11 l12 u12 f0 f1 e1 e0
  refine ⟨bx_narP_ok (l := []) g.1, bx_nfP_ok h0_ (fvs := []) (by decide +kernel) g.2.1, ?_, ?_⟩
  · show rxILNX_3 S0 ws S_p (bx_val [(0, 0), (0, 0), (0, 0), (0, 0), (0, 0), (0, 0), (0, 0), (0, 0), (8, 0), (9, 0), (10, 0)] r_p 8) (bx_val [(0, 0), (0, 0), (0, 0), (0, 0), (0, 0), (0, 0), (0, 0), (0, 0), (8, 0), (9, 0), (10, 0)] r_p 9) (bx_val [(0, 0), (0, 0), (0, 0), (0, 0), (0, 0), (0, 0), (0, 0), (0, 0), (8, 0), (9, 0), (10, 0)] r_p 10)
    rw [bx_val_x (n := 8) (e := (8, 0)) h0_ rfl, bx_val_x (n := 9) (e := (9, 0)) h0_ rfl, bx_val_x (n := 10) (e := (10, 0)) h0_ rfl]
    exact g.2.2.1
  · show rxmLNX_3 S0 ws S_p (bx_val [(0, 0), (0, 0), (0, 0), (0, 0), (0, 0), (0, 0), (0, 0), (0, 0), (8, 0), (9, 0), (10, 0)] r_p 8) (bx_val [(0, 0), (0, 0), (0, 0), (0, 0), (0, 0), (0, 0), (0, 0), (0, 0), (8, 0), (9, 0), (10, 0)] r_p 9) (bx_val [(0, 0), (0, 0), (0, 0), (0, 0), (0, 0), (0, 0), (0, 0), (0, 0), (8, 0), (9, 0), (10, 0)] r_p 10) < rxmLNX_0 S0 ws S_p (r 8) (r 9) (r 10)
    rw [bx_val_x (n := 8) (e := (8, 0)) h0_ rfl, bx_val_x (n := 9) (e := (9, 0)) h0_ rfl, bx_val_x (n := 10) (e := (10, 0)) h0_ rfl, ← hr_ 8 (by decide), ← hr_ 9 (by decide), ← hr_ 10 (by decide)]
    exact g.2.2.2
theorem rxcLNX_0_5 {S0 : Nat → Int → Int} {ws : List Int} {S : Nat → Int → Int} {vs ps sl x11 x12 : Int} (hP : rxPLNX S0 ws) (hin : bx_same rxL (bx_mdl rxC159.2.2.1) S0 S) (I0 : bx_Inv rxL S) (hinv : rxILNX_0 S0 ws S vs ps sl) (l8 : 0 ≤ vs) (u8 : vs ≤ 11) (l9 : 0 ≤ ps) (u9 : ps ≤ 7) (l10 : (-1) ≤ sl) (u10 : sl ≤ 2147483647) (l11 : 1 ≤ x11) (u11 : x11 ≤ 12) (l12 : 1 ≤ x12) (u12 : x12 ≤ 8) (f0 : ps < x12) (f1 : vs < x11) (e1 : S 1 5 = x11) (e0 : S 5 0 = x12) : (True) ∧ (True) ∧ rxILNX_5 S0 ws S vs ps sl ∧ rxmLNX_5 S0 ws S vs ps sl < rxmLNX_0 S0 ws S vs ps sl := by
  exact rxc159_0_5 hP.1 hin I0 hinv l8 u8 l9 u9 l10 u10 l11 u11 l12 u12 f0 f1 e1 e0
theorem rxgLNX_0_5 {X : (Nat → Int → Int) → Prop} {S0 : Nat → Int → Int} {ws : List Int} (hP : rxPLNX S0 ws) : bx_obC rxL X S0 rxC159.2.2.1 (rxILNX S0 ws) (rxmLNX S0 ws) 0 rxzLNX_0 rxoLNX_0_5 := by
  intro S S_p r r_p hinv hX hin hsm_ hseg
  obtain ⟨I0, I1, h0_, hr_, b_, f_, d_⟩ := bx_cl (evs := [(0, (0, 5), (0, 0), .inr (0, (12, 0))), (0, (0, 1), (0, 5), .inr (0, (11, 0)))]) (fvs := [(0, (9, 0), (12, 0), (0, 0)), (0, (8, 0), (11, 0), (0, 0))]) hseg (by decide +kernel) (by decide +kernel)
  have hinv : rxILNX_0 S0 ws S (r 8) (r 9) (r 10) := hinv
  rw [← hr_ 8 (by decide), ← hr_ 9 (by decide), ← hr_ 10 (by decide)] at hinv
  obtain ⟨⟨l8, u8⟩, ⟨l9, u9⟩, ⟨l10, u10⟩, ⟨l11, u11⟩, ⟨l12, u12⟩, -⟩ := b_
  obtain ⟨f0, f1, -⟩ := f_
  obtain ⟨e0, ⟨e1, w_⟩⟩ := d_
  subst w_
  have g := rxcLNX_0_5 hP hin I0 hinv l8 u8 l9 u9 l10 u10 l11 u11 l12 u12 f0 f1 e1 e0
  refine ⟨bx_narP_ok (l := []) g.1, bx_nfP_ok h0_ (fvs := []) (by decide +kernel) g.2.1, ?_, ?_⟩
  · show rxILNX_5 S0 ws S_p (bx_val [(0, 0), (0, 0), (0, 0), (0, 0), (0, 0), (0, 0), (0, 0), (0, 0), (8, 0), (9, 0), (10, 0)] r_p 8) (bx_val [(0, 0), (0, 0), (0, 0), (0, 0), (0, 0), (0, 0), (0, 0), (0, 0), (8, 0), (9, 0), (10, 0)] r_p 9) (bx_val [(0, 0), (0, 0), (0, 0), (0, 0), (0, 0), (0, 0), (0, 0), (0, 0), (8, 0), (9, 0), (10, 0)] r_p 10)
    rw [bx_val_x (n := 8) (e := (8, 0)) h0_ rfl, bx_val_x (n := 9) (e := (9, 0)) h0_ rfl, bx_val_x (n := 10) (e := (10, 0)) h0_ rfl]
    exact g.2.2.1
  · show rxmLNX_5 S0 ws S_p (bx_val [(0, 0), (0, 0), (0, 0), (0, 0), (0, 0), (0, 0), (0, 0), (0, 0), (8, 0), (9, 0), (10, 0)] r_p 8) (bx_val [(0, 0), (0, 0), (0, 0), (0, 0), (0, 0), (0, 0), (0, 0), (0, 0), (8, 0), (9, 0), (10, 0)] r_p 9) (bx_val [(0, 0), (0, 0), (0, 0), (0, 0), (0, 0), (0, 0), (0, 0), (0, 0), (8, 0), (9, 0), (10, 0)] r_p 10) < rxmLNX_0 S0 ws S_p (r 8) (r 9) (r 10)
    rw [bx_val_x (n := 8) (e := (8, 0)) h0_ rfl, bx_val_x (n := 9) (e := (9, 0)) h0_ rfl, bx_val_x (n := 10) (e := (10, 0)) h0_ rfl, ← hr_ 8 (by decide), ← hr_ 9 (by decide), ← hr_ 10 (by decide)]
    exact g.2.2.2
theorem rxdLNX_2_0 {S0 : Nat → Int → Int} {ws : List Int} {S : Nat → Int → Int} {vs ps sl res : Int} (hP : rxPLNX S0 ws) (hin : bx_same rxL (bx_mdl rxC159.2.2.1) S0 S) (hin2 : bx_same rxL (bx_mdl rxC159.2.2.1) S S) (I0 : bx_Inv rxL S) (I1 : bx_Inv rxL S) (hinv : rxILNX_2 S0 ws S vs ps sl res) (l8 : (-2147483648) ≤ vs) (u8 : vs ≤ 2147483647) (l9 : (-2147483648) ≤ ps) (u9 : ps ≤ 2147483647) (l10 : (-2147483648) ≤ sl) (u10 : sl ≤ 2147483647) (l11 : (-6) ≤ res) (u11 : res ≤ (-1)) : (True) ∧ rxPSLNX S0 ws S (some res) := by
  obtain ⟨a_, c_⟩ := rxd159_2_0 hP.1 hin hin2 I0 I1 hinv l8 u8 l9 u9 l10 u10 l11 u11
  obtain ⟨h1, hg, hw, hf⟩ := id hinv
  exact ⟨a_, c_, vs, ps, sl, hw, fun _ _ _ => rjdSm_sm hf (by decide +kernel), fun z hz h0 => (by have := Option.some.inj hz; exfalso; omega)⟩
theorem rxfLNX_2_0 {X : (Nat → Int → Int) → Prop} {S0 : Nat → Int → Int} {ws : List Int} (hP : rxPLNX S0 ws) : bx_obE rxL X S0 rxC159.2.2.1 (rxILNX S0 ws) (rxPSLNX S0 ws) 2 rxzLNX_2 rxeLNX_2_0 := by
  intro S S_p r r_p hinv hX hin hsm_ hseg
  obtain ⟨I0, I1, h0_, hr_, b_, f_, d_⟩ := bx_cl (evs := []) (fvs := []) hseg (by decide +kernel) (by decide +kernel)
  have hinv : rxILNX_2 S0 ws S (r 8) (r 9) (r 10) (r 11) := hinv
  rw [← hr_ 8 (by decide), ← hr_ 9 (by decide), ← hr_ 10 (by decide), ← hr_ 11 (by decide)] at hinv
  obtain ⟨⟨l8, u8⟩, ⟨l9, u9⟩, ⟨l10, u10⟩, ⟨l11, u11⟩, -⟩ := b_
  have w_ := d_
  subst w_
  have g := rxdLNX_2_0 hP hin hsm_ I0 I1 hinv l8 u8 l9 u9 l10 u10 l11 u11
  refine ⟨bx_narP_ok (l := []) g.1, ?_⟩
  show rxPSLNX S0 ws S_p (some (bx_num r_p (.inr (0, (11, 0)))))
  rw [bx_xv_ok h0_]
  exact g.2
theorem rxdLNX_4_0 {S0 : Nat → Int → Int} {ws : List Int} {S : Nat → Int → Int} {vs ps sl res : Int} (hP : rxPLNX S0 ws) (hin : bx_same rxL (bx_mdl rxC159.2.2.1) S0 S) (hin2 : bx_same rxL (bx_mdl rxC159.2.2.1) S S) (I0 : bx_Inv rxL S) (I1 : bx_Inv rxL S) (hinv : rxILNX_4 S0 ws S vs ps sl res) (l8 : (-2147483648) ≤ vs) (u8 : vs ≤ 2147483647) (l9 : (-2147483648) ≤ ps) (u9 : ps ≤ 2147483647) (l10 : (-1) ≤ sl) (u10 : sl ≤ 2147483647) (l11 : (-6) ≤ res) (u11 : res ≤ (-1)) : (True) ∧ rxPSLNX S0 ws S (some res) := by
  obtain ⟨a_, c_⟩ := rxd159_4_0 hP.1 hin hin2 I0 I1 hinv l8 u8 l9 u9 l10 u10 l11 u11
  obtain ⟨h1, hg, hw, hf⟩ := id hinv
  exact ⟨a_, c_, vs, ps, sl, hw, fun _ _ _ => rjdSm_sm hf (by decide +kernel), fun z hz h0 => (by have := Option.some.inj hz; exfalso; omega)⟩
theorem rxfLNX_4_0 {X : (Nat → Int → Int) → Prop} {S0 : Nat → Int → Int} {ws : List Int} (hP : rxPLNX S0 ws) : bx_obE rxL X S0 rxC159.2.2.1 (rxILNX S0 ws) (rxPSLNX S0 ws) 4 rxzLNX_4 rxeLNX_4_0 := by
  intro S S_p r r_p hinv hX hin hsm_ hseg
  obtain ⟨I0, I1, h0_, hr_, b_, f_, d_⟩ := bx_cl (evs := []) (fvs := []) hseg (by decide +kernel) (by decide +kernel)
  have hinv : rxILNX_4 S0 ws S (r 8) (r 9) (r 10) (r 11) := hinv
  rw [← hr_ 8 (by decide), ← hr_ 9 (by decide), ← hr_ 10 (by decide), ← hr_ 11 (by decide)] at hinv
  obtain ⟨⟨l8, u8⟩, ⟨l9, u9⟩, ⟨l10, u10⟩, ⟨l11, u11⟩, -⟩ := b_
  have w_ := d_
  subst w_
  have g := rxdLNX_4_0 hP hin hsm_ I0 I1 hinv l8 u8 l9 u9 l10 u10 l11 u11
  refine ⟨bx_narP_ok (l := []) g.1, ?_⟩
  show rxPSLNX S0 ws S_p (some (bx_num r_p (.inr (0, (11, 0)))))
  rw [bx_xv_ok h0_]
  exact g.2
theorem rxcLNX_6_0 {S0 : Nat → Int → Int} {ws : List Int} {S : Nat → Int → Int} {vs ps sl r : Int} (hP : rxPLNX S0 ws) (hin : bx_same rxL (bx_mdl rxC159.2.2.1) S0 S) (I0 : bx_Inv rxL S) (hinv : rxILNX_6 S0 ws S vs ps sl r) (l8 : 0 ≤ vs) (u8 : vs ≤ 11) (l9 : 0 ≤ ps) (u9 : ps ≤ 7) (l10 : (-1) ≤ sl) (u10 : sl ≤ 2147483647) (l11 : 0 ≤ r) (u11 : r ≤ 0) : (True) ∧ (True) ∧ rxILNX_7 S0 ws S vs ps sl ∧ rxmLNX_7 S0 ws S vs ps sl < rxmLNX_6 S0 ws S vs ps sl r := by
  exact rxc159_6_0 hP.1 hin I0 hinv l8 u8 l9 u9 l10 u10 l11 u11
theorem rxgLNX_6_0 {X : (Nat → Int → Int) → Prop} {S0 : Nat → Int → Int} {ws : List Int} (hP : rxPLNX S0 ws) : bx_obC rxL X S0 rxC159.2.2.1 (rxILNX S0 ws) (rxmLNX S0 ws) 6 rxzLNX_6 rxoLNX_6_0 := by
  intro S S_p r r_p hinv hX hin hsm_ hseg
  obtain ⟨I0, I1, h0_, hr_, b_, f_, d_⟩ := bx_cl (evs := []) (fvs := []) hseg (by decide +kernel) (by decide +kernel)
  have hinv : rxILNX_6 S0 ws S (r 8) (r 9) (r 10) (r 11) := hinv
  rw [← hr_ 8 (by decide), ← hr_ 9 (by decide), ← hr_ 10 (by decide), ← hr_ 11 (by decide)] at hinv
  obtain ⟨⟨l8, u8⟩, ⟨l9, u9⟩, ⟨l10, u10⟩, ⟨l11, u11⟩, -⟩ := b_
  have w_ := d_
  subst w_
  have g := rxcLNX_6_0 hP hin I0 hinv l8 u8 l9 u9 l10 u10 l11 u11
  refine ⟨bx_narP_ok (l := []) g.1, bx_nfP_ok h0_ (fvs := []) (by decide +kernel) g.2.1, ?_, ?_⟩
  · show rxILNX_7 S0 ws S_p (bx_val [(0, 0), (0, 0), (0, 0), (0, 0), (0, 0), (0, 0), (0, 0), (0, 0), (8, 0), (9, 0), (10, 0)] r_p 8) (bx_val [(0, 0), (0, 0), (0, 0), (0, 0), (0, 0), (0, 0), (0, 0), (0, 0), (8, 0), (9, 0), (10, 0)] r_p 9) (bx_val [(0, 0), (0, 0), (0, 0), (0, 0), (0, 0), (0, 0), (0, 0), (0, 0), (8, 0), (9, 0), (10, 0)] r_p 10)
    rw [bx_val_x (n := 8) (e := (8, 0)) h0_ rfl, bx_val_x (n := 9) (e := (9, 0)) h0_ rfl, bx_val_x (n := 10) (e := (10, 0)) h0_ rfl]
    exact g.2.2.1
  · show rxmLNX_7 S0 ws S_p (bx_val [(0, 0), (0, 0), (0, 0), (0, 0), (0, 0), (0, 0), (0, 0), (0, 0), (8, 0), (9, 0), (10, 0)] r_p 8) (bx_val [(0, 0), (0, 0), (0, 0), (0, 0), (0, 0), (0, 0), (0, 0), (0, 0), (8, 0), (9, 0), (10, 0)] r_p 9) (bx_val [(0, 0), (0, 0), (0, 0), (0, 0), (0, 0), (0, 0), (0, 0), (0, 0), (8, 0), (9, 0), (10, 0)] r_p 10) < rxmLNX_6 S0 ws S_p (r 8) (r 9) (r 10) (r 11)
    rw [bx_val_x (n := 8) (e := (8, 0)) h0_ rfl, bx_val_x (n := 9) (e := (9, 0)) h0_ rfl, bx_val_x (n := 10) (e := (10, 0)) h0_ rfl, ← hr_ 8 (by decide), ← hr_ 9 (by decide), ← hr_ 10 (by decide), ← hr_ 11 (by decide)]
    exact g.2.2.2
theorem rxcLNX_6_1 {S0 : Nat → Int → Int} {ws : List Int} {S : Nat → Int → Int} {vs ps sl r x12 : Int} (hP : rxPLNX S0 ws) (hin : bx_same rxL (bx_mdl rxC159.2.2.1) S0 S) (I0 : bx_Inv rxL S) (hinv : rxILNX_6 S0 ws S vs ps sl r) (l8 : 0 ≤ vs) (u8 : vs ≤ 11) (l9 : 0 ≤ ps) (u9 : ps ≤ 7) (l10 : (-1) ≤ sl) (u10 : sl ≤ 2147483647) (l11 : 1 ≤ r) (u11 : r ≤ 1) (l12 : 12 ≤ x12) (u12 : x12 ≤ 12) (f0 : r ≠ 0) (e0 : S 1 5 = x12) : (True) ∧ (True) ∧ rxILNX_9 S0 ws S vs ps sl ∧ rxmLNX_9 S0 ws S vs ps sl < rxmLNX_6 S0 ws S vs ps sl r := by
  exact rxc159_6_1 hP.1 hin I0 hinv l8 u8 l9 u9 l10 u10 l11 u11 l12 u12 f0 e0
theorem rxgLNX_6_1 {X : (Nat → Int → Int) → Prop} {S0 : Nat → Int → Int} {ws : List Int} (hP : rxPLNX S0 ws) : bx_obC rxL X S0 rxC159.2.2.1 (rxILNX S0 ws) (rxmLNX S0 ws) 6 rxzLNX_6 rxoLNX_6_1 := by
  intro S S_p r r_p hinv hX hin hsm_ hseg
  obtain ⟨I0, I1, h0_, hr_, b_, f_, d_⟩ := bx_cl (evs := [(0, (0, 1), (0, 5), .inr (0, (12, 0)))]) (fvs := [(3, (11, 0), (0, 0), (0, 0))]) hseg (by decide +kernel) (by decide +kernel)
  have hinv : rxILNX_6 S0 ws S (r 8) (r 9) (r 10) (r 11) := hinv
  rw [← hr_ 8 (by decide), ← hr_ 9 (by decide), ← hr_ 10 (by decide), ← hr_ 11 (by decide)] at hinv
  obtain ⟨⟨l8, u8⟩, ⟨l9, u9⟩, ⟨l10, u10⟩, ⟨l11, u11⟩, ⟨l12, u12⟩, -⟩ := b_
  obtain ⟨f0, -⟩ := f_
  obtain ⟨e0, w_⟩ := d_
  subst w_
  have g := rxcLNX_6_1 hP hin I0 hinv l8 u8 l9 u9 l10 u10 l11 u11 l12 u12 f0 e0
  refine ⟨bx_narP_ok (l := []) g.1, bx_nfP_ok h0_ (fvs := []) (by decide +kernel) g.2.1, ?_, ?_⟩
  · show rxILNX_9 S0 ws S_p (bx_val [(0, 0), (0, 0), (0, 0), (0, 0), (0, 0), (0, 0), (0, 0), (0, 0), (8, 0), (9, 0), (10, 0)] r_p 8) (bx_val [(0, 0), (0, 0), (0, 0), (0, 0), (0, 0), (0, 0), (0, 0), (0, 0), (8, 0), (9, 0), (10, 0)] r_p 9) (bx_val [(0, 0), (0, 0), (0, 0), (0, 0), (0, 0), (0, 0), (0, 0), (0, 0), (8, 0), (9, 0), (10, 0)] r_p 10)
    rw [bx_val_x (n := 8) (e := (8, 0)) h0_ rfl, bx_val_x (n := 9) (e := (9, 0)) h0_ rfl, bx_val_x (n := 10) (e := (10, 0)) h0_ rfl]
    exact g.2.2.1
  · show rxmLNX_9 S0 ws S_p (bx_val [(0, 0), (0, 0), (0, 0), (0, 0), (0, 0), (0, 0), (0, 0), (0, 0), (8, 0), (9, 0), (10, 0)] r_p 8) (bx_val [(0, 0), (0, 0), (0, 0), (0, 0), (0, 0), (0, 0), (0, 0), (0, 0), (8, 0), (9, 0), (10, 0)] r_p 9) (bx_val [(0, 0), (0, 0), (0, 0), (0, 0), (0, 0), (0, 0), (0, 0), (0, 0), (8, 0), (9, 0), (10, 0)] r_p 10) < rxmLNX_6 S0 ws S_p (r 8) (r 9) (r 10) (r 11)
    rw [bx_val_x (n := 8) (e := (8, 0)) h0_ rfl, bx_val_x (n := 9) (e := (9, 0)) h0_ rfl, bx_val_x (n := 10) (e := (10, 0)) h0_ rfl, ← hr_ 8 (by decide), ← hr_ 9 (by decide), ← hr_ 10 (by decide), ← hr_ 11 (by decide)]
    exact g.2.2.2
theorem rxcLNX_6_2 {S0 : Nat → Int → Int} {ws : List Int} {S : Nat → Int → Int} {vs ps sl r x12 x13 : Int} (hP : rxPLNX S0 ws) (hin : bx_same rxL (bx_mdl rxC159.2.2.1) S0 S) (I0 : bx_Inv rxL S) (hinv : rxILNX_6 S0 ws S vs ps sl r) (l8 : 0 ≤ vs) (u8 : vs ≤ 11) (l9 : 0 ≤ ps) (u9 : ps ≤ 7) (l10 : (-1) ≤ sl) (u10 : sl ≤ 2147483647) (l11 : 1 ≤ r) (u11 : r ≤ 1) (l12 : 0 ≤ x12) (u12 : x12 ≤ 11) (l13 : 0 ≤ x13) (u13 : x13 ≤ 5) (f0 : r ≠ 0) (e1 : S 1 5 = x12) (e0 : S 9 vs = x13) : ((0 ≤ vs ∧ vs ≤ 10) ∧ True) ∧ (True) ∧ rxILNX_11 S0 ws S vs ps sl x13 ∧ rxmLNX_11 S0 ws S vs ps sl x13 < rxmLNX_6 S0 ws S vs ps sl r := by
  exact rxc159_6_2 hP.1 hin I0 hinv l8 u8 l9 u9 l10 u10 l11 u11 l12 u12 l13 u13 f0 e1 e0
theorem rxgLNX_6_2 {X : (Nat → Int → Int) → Prop} {S0 : Nat → Int → Int} {ws : List Int} (hP : rxPLNX S0 ws) : bx_obC rxL X S0 rxC159.2.2.1 (rxILNX S0 ws) (rxmLNX S0 ws) 6 rxzLNX_6 rxoLNX_6_2 := by
  intro S S_p r r_p hinv hX hin hsm_ hseg
  obtain ⟨I0, I1, h0_, hr_, b_, f_, d_⟩ := bx_cl (evs := [(0, (0, 9), (8, 0), .inr (0, (13, 0))), (0, (0, 1), (0, 5), .inr (0, (12, 0)))]) (fvs := [(3, (11, 0), (0, 0), (0, 0))]) hseg (by decide +kernel) (by decide +kernel)
  have hinv : rxILNX_6 S0 ws S (r 8) (r 9) (r 10) (r 11) := hinv
  rw [← hr_ 8 (by decide), ← hr_ 9 (by decide), ← hr_ 10 (by decide), ← hr_ 11 (by decide)] at hinv
  obtain ⟨⟨l8, u8⟩, ⟨l9, u9⟩, ⟨l10, u10⟩, ⟨l11, u11⟩, ⟨l12, u12⟩, ⟨l13, u13⟩, -⟩ := b_
  obtain ⟨f0, -⟩ := f_
  obtain ⟨e0, ⟨e1, w_⟩⟩ := d_
  subst w_
  have g := rxcLNX_6_2 hP hin I0 hinv l8 u8 l9 u9 l10 u10 l11 u11 l12 u12 l13 u13 f0 e1 e0
  refine ⟨bx_narP_ok (l := [(8, 0, 10)]) g.1, bx_nfP_ok h0_ (fvs := []) (by decide +kernel) g.2.1, ?_, ?_⟩
  · show rxILNX_11 S0 ws S_p (bx_val [(0, 0), (0, 0), (0, 0), (0, 0), (0, 0), (0, 0), (0, 0), (0, 0), (8, 0), (9, 0), (10, 0), (13, 0)] r_p 8) (bx_val [(0, 0), (0, 0), (0, 0), (0, 0), (0, 0), (0, 0), (0, 0), (0, 0), (8, 0), (9, 0), (10, 0), (13, 0)] r_p 9) (bx_val [(0, 0), (0, 0), (0, 0), (0, 0), (0, 0), (0, 0), (0, 0), (0, 0), (8, 0), (9, 0), (10, 0), (13, 0)] r_p 10) (bx_val [(0, 0), (0, 0), (0, 0), (0, 0), (0, 0), (0, 0), (0, 0), (0, 0), (8, 0), (9, 0), (10, 0), (13, 0)] r_p 11)
    rw [bx_val_x (n := 8) (e := (8, 0)) h0_ rfl, bx_val_x (n := 9) (e := (9, 0)) h0_ rfl, bx_val_x (n := 10) (e := (10, 0)) h0_ rfl, bx_val_x (n := 11) (e := (13, 0)) h0_ rfl]
    exact g.2.2.1
  · show rxmLNX_11 S0 ws S_p (bx_val [(0, 0), (0, 0), (0, 0), (0, 0), (0, 0), (0, 0), (0, 0), (0, 0), (8, 0), (9, 0), (10, 0), (13, 0)] r_p 8) (bx_val [(0, 0), (0, 0), (0, 0), (0, 0), (0, 0), (0, 0), (0, 0), (0, 0), (8, 0), (9, 0), (10, 0), (13, 0)] r_p 9) (bx_val [(0, 0), (0, 0), (0, 0), (0, 0), (0, 0), (0, 0), (0, 0), (0, 0), (8, 0), (9, 0), (10, 0), (13, 0)] r_p 10) (bx_val [(0, 0), (0, 0), (0, 0), (0, 0), (0, 0), (0, 0), (0, 0), (0, 0), (8, 0), (9, 0), (10, 0), (13, 0)] r_p 11) < rxmLNX_6 S0 ws S_p (r 8) (r 9) (r 10) (r 11)
    rw [bx_val_x (n := 8) (e := (8, 0)) h0_ rfl, bx_val_x (n := 9) (e := (9, 0)) h0_ rfl, bx_val_x (n := 10) (e := (10, 0)) h0_ rfl, bx_val_x (n := 11) (e := (13, 0)) h0_ rfl, ← hr_ 8 (by decide), ← hr_ 9 (by decide), ← hr_ 10 (by decide), ← hr_ 11 (by decide)]
    exact g.2.2.2
theorem rxdLNX_8_0 {S0 : Nat → Int → Int} {ws : List Int} {S : Nat → Int → Int} {vs ps sl res : Int} (hP : rxPLNX S0 ws) (hin : bx_same rxL (bx_mdl rxC159.2.2.1) S0 S) (hin2 : bx_same rxL (bx_mdl rxC159.2.2.1) S S) (I0 : bx_Inv rxL S) (I1 : bx_Inv rxL S) (hinv : rxILNX_8 S0 ws S vs ps sl res) (l8 : 0 ≤ vs) (u8 : vs ≤ 11) (l9 : 0 ≤ ps) (u9 : ps ≤ 7) (l10 : (-1) ≤ sl) (u10 : sl ≤ 2147483647) (l11 : (-6) ≤ res) (u11 : res ≤ (-1)) : (True) ∧ rxPSLNX S0 ws S (some res) := by
  obtain ⟨a_, c_⟩ := rxd159_8_0 hP.1 hin hin2 I0 I1 hinv l8 u8 l9 u9 l10 u10 l11 u11
  obtain ⟨h1, hm, hg, hw, hf⟩ := id hinv
  exact ⟨a_, c_, vs, ps, sl, hw, fun _ _ _ => rjdSm_sm hf (by decide +kernel), fun z hz h0 => (by have := Option.some.inj hz; exfalso; omega)⟩
theorem rxfLNX_8_0 {X : (Nat → Int → Int) → Prop} {S0 : Nat → Int → Int} {ws : List Int} (hP : rxPLNX S0 ws) : bx_obE rxL X S0 rxC159.2.2.1 (rxILNX S0 ws) (rxPSLNX S0 ws) 8 rxzLNX_8 rxeLNX_8_0 := by
  intro S S_p r r_p hinv hX hin hsm_ hseg
  obtain ⟨I0, I1, h0_, hr_, b_, f_, d_⟩ := bx_cl (evs := []) (fvs := []) hseg (by decide +kernel) (by decide +kernel)
  have hinv : rxILNX_8 S0 ws S (r 8) (r 9) (r 10) (r 11) := hinv
  rw [← hr_ 8 (by decide), ← hr_ 9 (by decide), ← hr_ 10 (by decide), ← hr_ 11 (by decide)] at hinv
  obtain ⟨⟨l8, u8⟩, ⟨l9, u9⟩, ⟨l10, u10⟩, ⟨l11, u11⟩, -⟩ := b_
  have w_ := d_
  subst w_
  have g := rxdLNX_8_0 hP hin hsm_ I0 I1 hinv l8 u8 l9 u9 l10 u10 l11 u11
  refine ⟨bx_narP_ok (l := []) g.1, ?_⟩
  show rxPSLNX S0 ws S_p (some (bx_num r_p (.inr (0, (11, 0)))))
  rw [bx_xv_ok h0_]
  exact g.2
theorem rxdLNX_10_0 {S0 : Nat → Int → Int} {ws : List Int} {S : Nat → Int → Int} {vs ps sl res : Int} (hP : rxPLNX S0 ws) (hin : bx_same rxL (bx_mdl rxC159.2.2.1) S0 S) (hin2 : bx_same rxL (bx_mdl rxC159.2.2.1) S S) (I0 : bx_Inv rxL S) (I1 : bx_Inv rxL S) (hinv : rxILNX_10 S0 ws S vs ps sl res) (l8 : 0 ≤ vs) (u8 : vs ≤ 11) (l9 : 0 ≤ ps) (u9 : ps ≤ 7) (l10 : (-1) ≤ sl) (u10 : sl ≤ 2147483647) (l11 : (-6) ≤ res) (u11 : res ≤ (-1)) : (True) ∧ rxPSLNX S0 ws S (some res) := by
  obtain ⟨a_, c_⟩ := rxd159_10_0 hP.1 hin hin2 I0 I1 hinv l8 u8 l9 u9 l10 u10 l11 u11
  obtain ⟨h1, hm, hg, hw, hf⟩ := id hinv
  exact ⟨a_, c_, vs, ps, sl, hw, fun _ _ _ => rjdSm_sm hf (by decide +kernel), fun z hz h0 => (by have := Option.some.inj hz; exfalso; omega)⟩
theorem rxfLNX_10_0 {X : (Nat → Int → Int) → Prop} {S0 : Nat → Int → Int} {ws : List Int} (hP : rxPLNX S0 ws) : bx_obE rxL X S0 rxC159.2.2.1 (rxILNX S0 ws) (rxPSLNX S0 ws) 10 rxzLNX_10 rxeLNX_10_0 := by
  intro S S_p r r_p hinv hX hin hsm_ hseg
  obtain ⟨I0, I1, h0_, hr_, b_, f_, d_⟩ := bx_cl (evs := []) (fvs := []) hseg (by decide +kernel) (by decide +kernel)
  have hinv : rxILNX_10 S0 ws S (r 8) (r 9) (r 10) (r 11) := hinv
  rw [← hr_ 8 (by decide), ← hr_ 9 (by decide), ← hr_ 10 (by decide), ← hr_ 11 (by decide)] at hinv
  obtain ⟨⟨l8, u8⟩, ⟨l9, u9⟩, ⟨l10, u10⟩, ⟨l11, u11⟩, -⟩ := b_
  have w_ := d_
  subst w_
  have g := rxdLNX_10_0 hP hin hsm_ I0 I1 hinv l8 u8 l9 u9 l10 u10 l11 u11
  refine ⟨bx_narP_ok (l := []) g.1, ?_⟩
  show rxPSLNX S0 ws S_p (some (bx_num r_p (.inr (0, (11, 0)))))
  rw [bx_xv_ok h0_]
  exact g.2
theorem rxcLNX_12_0 {S0 : Nat → Int → Int} {ws : List Int} {S : Nat → Int → Int} {vs ps sl pa res x13 x14 : Int} (hP : rxPLNX S0 ws) (hin : bx_same rxL (bx_mdl rxC159.2.2.1) S0 S) (I0 : bx_Inv rxL S) (hinv : rxILNX_12 S0 ws S vs ps sl pa res) (l8 : 0 ≤ vs) (u8 : vs ≤ 10) (l9 : 0 ≤ ps) (u9 : ps ≤ 7) (l10 : (-1) ≤ sl) (u10 : sl ≤ 2147483647) (l11 : 0 ≤ pa) (u11 : pa ≤ 5) (l12 : (-1) ≤ res) (u12 : res ≤ (-1)) (l13 : 0 ≤ x13) (u13 : x13 ≤ 1522) (l14 : 0 ≤ x14) (u14 : x14 ≤ 1522) (e1 : S 12 vs = x13) (e0 : S 12 0 = x14) : ((0 ≤ res ∧ res ≤ 11) ∧ True) ∧ (True) ∧ rxILNX_13 S0 ws S vs ps sl res x13 x14 ∧ rxmLNX_13 S0 ws S vs ps sl res x13 x14 < rxmLNX_12 S0 ws S vs ps sl pa res := by
  obtain ⟨⟨-, h0⟩, -⟩ := hinv
  exfalso
  omega
theorem rxgLNX_12_0 {X : (Nat → Int → Int) → Prop} {S0 : Nat → Int → Int} {ws : List Int} (hP : rxPLNX S0 ws) : bx_obC rxL X S0 rxC159.2.2.1 (rxILNX S0 ws) (rxmLNX S0 ws) 12 rxzLNX_12 rxoLNX_12_0 := by
  intro S S_p r r_p hinv hX hin hsm_ hseg
  obtain ⟨I0, I1, h0_, hr_, b_, f_, d_⟩ := bx_cl (evs := [(0, (0, 12), (0, 0), .inr (3, (14, 0))), (0, (0, 12), (8, 0), .inr (3, (13, 0)))]) (fvs := []) hseg (by decide +kernel) (by decide +kernel)
  have hinv : rxILNX_12 S0 ws S (r 8) (r 9) (r 10) (r 11) (r 12) := hinv
  rw [← hr_ 8 (by decide), ← hr_ 9 (by decide), ← hr_ 10 (by decide), ← hr_ 11 (by decide), ← hr_ 12 (by decide)] at hinv
  obtain ⟨⟨l8, u8⟩, ⟨l9, u9⟩, ⟨l10, u10⟩, ⟨l11, u11⟩, ⟨l12, u12⟩, ⟨l13, u13⟩, ⟨l14, u14⟩, -⟩ := b_
  obtain ⟨e0, ⟨e1, w_⟩⟩ := d_
  subst w_
  have g := rxcLNX_12_0 hP hin I0 hinv l8 u8 l9 u9 l10 u10 l11 u11 l12 u12 l13 u13 l14 u14 e1 e0
  refine ⟨bx_narP_ok (l := [(12, 0, 11)]) g.1, bx_nfP_ok h0_ (fvs := []) (by decide +kernel) g.2.1, ?_, ?_⟩
  · show rxILNX_13 S0 ws S_p (bx_val [(0, 0), (0, 0), (0, 0), (0, 0), (0, 0), (0, 0), (0, 0), (0, 0), (8, 0), (9, 0), (10, 0), (12, 0), (13, 0), (14, 0)] r_p 8) (bx_val [(0, 0), (0, 0), (0, 0), (0, 0), (0, 0), (0, 0), (0, 0), (0, 0), (8, 0), (9, 0), (10, 0), (12, 0), (13, 0), (14, 0)] r_p 9) (bx_val [(0, 0), (0, 0), (0, 0), (0, 0), (0, 0), (0, 0), (0, 0), (0, 0), (8, 0), (9, 0), (10, 0), (12, 0), (13, 0), (14, 0)] r_p 10) (bx_val [(0, 0), (0, 0), (0, 0), (0, 0), (0, 0), (0, 0), (0, 0), (0, 0), (8, 0), (9, 0), (10, 0), (12, 0), (13, 0), (14, 0)] r_p 11) (bx_val [(0, 0), (0, 0), (0, 0), (0, 0), (0, 0), (0, 0), (0, 0), (0, 0), (8, 0), (9, 0), (10, 0), (12, 0), (13, 0), (14, 0)] r_p 12) (bx_val [(0, 0), (0, 0), (0, 0), (0, 0), (0, 0), (0, 0), (0, 0), (0, 0), (8, 0), (9, 0), (10, 0), (12, 0), (13, 0), (14, 0)] r_p 13)
    rw [bx_val_x (n := 8) (e := (8, 0)) h0_ rfl, bx_val_x (n := 9) (e := (9, 0)) h0_ rfl, bx_val_x (n := 10) (e := (10, 0)) h0_ rfl, bx_val_x (n := 11) (e := (12, 0)) h0_ rfl, bx_val_x (n := 12) (e := (13, 0)) h0_ rfl, bx_val_x (n := 13) (e := (14, 0)) h0_ rfl]
    exact g.2.2.1
  · show rxmLNX_13 S0 ws S_p (bx_val [(0, 0), (0, 0), (0, 0), (0, 0), (0, 0), (0, 0), (0, 0), (0, 0), (8, 0), (9, 0), (10, 0), (12, 0), (13, 0), (14, 0)] r_p 8) (bx_val [(0, 0), (0, 0), (0, 0), (0, 0), (0, 0), (0, 0), (0, 0), (0, 0), (8, 0), (9, 0), (10, 0), (12, 0), (13, 0), (14, 0)] r_p 9) (bx_val [(0, 0), (0, 0), (0, 0), (0, 0), (0, 0), (0, 0), (0, 0), (0, 0), (8, 0), (9, 0), (10, 0), (12, 0), (13, 0), (14, 0)] r_p 10) (bx_val [(0, 0), (0, 0), (0, 0), (0, 0), (0, 0), (0, 0), (0, 0), (0, 0), (8, 0), (9, 0), (10, 0), (12, 0), (13, 0), (14, 0)] r_p 11) (bx_val [(0, 0), (0, 0), (0, 0), (0, 0), (0, 0), (0, 0), (0, 0), (0, 0), (8, 0), (9, 0), (10, 0), (12, 0), (13, 0), (14, 0)] r_p 12) (bx_val [(0, 0), (0, 0), (0, 0), (0, 0), (0, 0), (0, 0), (0, 0), (0, 0), (8, 0), (9, 0), (10, 0), (12, 0), (13, 0), (14, 0)] r_p 13) < rxmLNX_12 S0 ws S_p (r 8) (r 9) (r 10) (r 11) (r 12)
    rw [bx_val_x (n := 8) (e := (8, 0)) h0_ rfl, bx_val_x (n := 9) (e := (9, 0)) h0_ rfl, bx_val_x (n := 10) (e := (10, 0)) h0_ rfl, bx_val_x (n := 11) (e := (12, 0)) h0_ rfl, bx_val_x (n := 12) (e := (13, 0)) h0_ rfl, bx_val_x (n := 13) (e := (14, 0)) h0_ rfl, ← hr_ 8 (by decide), ← hr_ 9 (by decide), ← hr_ 10 (by decide), ← hr_ 11 (by decide), ← hr_ 12 (by decide)]
    exact g.2.2.2
theorem rxcLNX_12_1 {S0 : Nat → Int → Int} {ws : List Int} {S : Nat → Int → Int} {vs ps sl pa res x13 x14 : Int} (hP : rxPLNX S0 ws) (hin : bx_same rxL (bx_mdl rxC159.2.2.1) S0 S) (I0 : bx_Inv rxL S) (hinv : rxILNX_12 S0 ws S vs ps sl pa res) (l8 : 0 ≤ vs) (u8 : vs ≤ 10) (l9 : 0 ≤ ps) (u9 : ps ≤ 7) (l10 : (-1) ≤ sl) (u10 : sl ≤ 2147483647) (l11 : 0 ≤ pa) (u11 : pa ≤ 5) (l12 : 0 ≤ res) (u12 : res ≤ 11) (l13 : 0 ≤ x13) (u13 : x13 ≤ 1522) (l14 : 0 ≤ x14) (u14 : x14 ≤ 1522) (e1 : S 12 vs = x13) (e0 : S 12 res = x14) : (True) ∧ (True) ∧ rxILNX_13 S0 ws S vs ps sl res x13 x14 ∧ rxmLNX_13 S0 ws S vs ps sl res x13 x14 < rxmLNX_12 S0 ws S vs ps sl pa res := by
  obtain ⟨⟨hr, h0⟩, ⟨hm, h12, hpa⟩, hg, hw, h5, r9, r10, r11, k1, k2, f146, f282, f147, f283, f148, f284, hop, hcl⟩ := hinv
  subst hpa
  have hq := (rkPl_sm hin (by decide +kernel) hP.2.1).2.1.2
  obtain ⟨za, -⟩ := hq vs.toNat (by omega)
  rw [Int.toNat_of_nonneg (show 0 ≤ vs by omega)] at za
  obtain ⟨zb, -⟩ := hq res.toNat (by omega)
  rw [Int.toNat_of_nonneg h0] at zb
  exact ⟨trivial, trivial, ⟨e1.symm.trans (za.trans (by omega)), e0.symm.trans (zb.trans (by omega)), ⟨hr, h0⟩, ⟨hm, h12⟩, hg, hw, h5, r9, r10, r11, k1, k2, f146, f282, f147, f283, f148, f284, hop, hcl⟩, by unfold rxmLNX_12 rxmLNX_13; omega⟩
theorem rxgLNX_12_1 {X : (Nat → Int → Int) → Prop} {S0 : Nat → Int → Int} {ws : List Int} (hP : rxPLNX S0 ws) : bx_obC rxL X S0 rxC159.2.2.1 (rxILNX S0 ws) (rxmLNX S0 ws) 12 rxzLNX_12 rxoLNX_12_1 := by
  intro S S_p r r_p hinv hX hin hsm_ hseg
  obtain ⟨I0, I1, h0_, hr_, b_, f_, d_⟩ := bx_cl (evs := [(0, (0, 12), (12, 0), .inr (3, (14, 0))), (0, (0, 12), (8, 0), .inr (3, (13, 0)))]) (fvs := []) hseg (by decide +kernel) (by decide +kernel)
  have hinv : rxILNX_12 S0 ws S (r 8) (r 9) (r 10) (r 11) (r 12) := hinv
  rw [← hr_ 8 (by decide), ← hr_ 9 (by decide), ← hr_ 10 (by decide), ← hr_ 11 (by decide), ← hr_ 12 (by decide)] at hinv
  obtain ⟨⟨l8, u8⟩, ⟨l9, u9⟩, ⟨l10, u10⟩, ⟨l11, u11⟩, ⟨l12, u12⟩, ⟨l13, u13⟩, ⟨l14, u14⟩, -⟩ := b_
  obtain ⟨e0, ⟨e1, w_⟩⟩ := d_
  subst w_
  have g := rxcLNX_12_1 hP hin I0 hinv l8 u8 l9 u9 l10 u10 l11 u11 l12 u12 l13 u13 l14 u14 e1 e0
  refine ⟨bx_narP_ok (l := []) g.1, bx_nfP_ok h0_ (fvs := []) (by decide +kernel) g.2.1, ?_, ?_⟩
  · show rxILNX_13 S0 ws S_p (bx_val [(0, 0), (0, 0), (0, 0), (0, 0), (0, 0), (0, 0), (0, 0), (0, 0), (8, 0), (9, 0), (10, 0), (12, 0), (13, 0), (14, 0)] r_p 8) (bx_val [(0, 0), (0, 0), (0, 0), (0, 0), (0, 0), (0, 0), (0, 0), (0, 0), (8, 0), (9, 0), (10, 0), (12, 0), (13, 0), (14, 0)] r_p 9) (bx_val [(0, 0), (0, 0), (0, 0), (0, 0), (0, 0), (0, 0), (0, 0), (0, 0), (8, 0), (9, 0), (10, 0), (12, 0), (13, 0), (14, 0)] r_p 10) (bx_val [(0, 0), (0, 0), (0, 0), (0, 0), (0, 0), (0, 0), (0, 0), (0, 0), (8, 0), (9, 0), (10, 0), (12, 0), (13, 0), (14, 0)] r_p 11) (bx_val [(0, 0), (0, 0), (0, 0), (0, 0), (0, 0), (0, 0), (0, 0), (0, 0), (8, 0), (9, 0), (10, 0), (12, 0), (13, 0), (14, 0)] r_p 12) (bx_val [(0, 0), (0, 0), (0, 0), (0, 0), (0, 0), (0, 0), (0, 0), (0, 0), (8, 0), (9, 0), (10, 0), (12, 0), (13, 0), (14, 0)] r_p 13)
    rw [bx_val_x (n := 8) (e := (8, 0)) h0_ rfl, bx_val_x (n := 9) (e := (9, 0)) h0_ rfl, bx_val_x (n := 10) (e := (10, 0)) h0_ rfl, bx_val_x (n := 11) (e := (12, 0)) h0_ rfl, bx_val_x (n := 12) (e := (13, 0)) h0_ rfl, bx_val_x (n := 13) (e := (14, 0)) h0_ rfl]
    exact g.2.2.1
  · show rxmLNX_13 S0 ws S_p (bx_val [(0, 0), (0, 0), (0, 0), (0, 0), (0, 0), (0, 0), (0, 0), (0, 0), (8, 0), (9, 0), (10, 0), (12, 0), (13, 0), (14, 0)] r_p 8) (bx_val [(0, 0), (0, 0), (0, 0), (0, 0), (0, 0), (0, 0), (0, 0), (0, 0), (8, 0), (9, 0), (10, 0), (12, 0), (13, 0), (14, 0)] r_p 9) (bx_val [(0, 0), (0, 0), (0, 0), (0, 0), (0, 0), (0, 0), (0, 0), (0, 0), (8, 0), (9, 0), (10, 0), (12, 0), (13, 0), (14, 0)] r_p 10) (bx_val [(0, 0), (0, 0), (0, 0), (0, 0), (0, 0), (0, 0), (0, 0), (0, 0), (8, 0), (9, 0), (10, 0), (12, 0), (13, 0), (14, 0)] r_p 11) (bx_val [(0, 0), (0, 0), (0, 0), (0, 0), (0, 0), (0, 0), (0, 0), (0, 0), (8, 0), (9, 0), (10, 0), (12, 0), (13, 0), (14, 0)] r_p 12) (bx_val [(0, 0), (0, 0), (0, 0), (0, 0), (0, 0), (0, 0), (0, 0), (0, 0), (8, 0), (9, 0), (10, 0), (12, 0), (13, 0), (14, 0)] r_p 13) < rxmLNX_12 S0 ws S_p (r 8) (r 9) (r 10) (r 11) (r 12)
    rw [bx_val_x (n := 8) (e := (8, 0)) h0_ rfl, bx_val_x (n := 9) (e := (9, 0)) h0_ rfl, bx_val_x (n := 10) (e := (10, 0)) h0_ rfl, bx_val_x (n := 11) (e := (12, 0)) h0_ rfl, bx_val_x (n := 12) (e := (13, 0)) h0_ rfl, bx_val_x (n := 13) (e := (14, 0)) h0_ rfl, ← hr_ 8 (by decide), ← hr_ 9 (by decide), ← hr_ 10 (by decide), ← hr_ 11 (by decide), ← hr_ 12 (by decide)]
    exact g.2.2.2
theorem rxdLNX_14_0 {S0 : Nat → Int → Int} {ws : List Int} {S : Nat → Int → Int} {vs ps sl res pl le : Int} (hP : rxPLNX S0 ws) (hin : bx_same rxL (bx_mdl rxC159.2.2.1) S0 S) (hin2 : bx_same rxL (bx_mdl rxC159.2.2.1) S (bx_up S 0 8 0)) (I0 : bx_Inv rxL S) (I1 : bx_Inv rxL (bx_up S 0 8 0)) (hinv : rxILNX_14 S0 ws S vs ps sl res pl le) (l8 : 0 ≤ vs) (u8 : vs ≤ 10) (l9 : 0 ≤ ps) (u9 : ps ≤ 7) (l10 : (-1) ≤ sl) (u10 : sl ≤ 2147483647) (l11 : 0 ≤ res) (u11 : res ≤ 11) (l12 : 0 ≤ pl) (u12 : pl ≤ 1522) (l13 : 0 ≤ le) (u13 : le ≤ 1522) : (True) ∧ rxPSLNX S0 ws (bx_up S 0 8 0) (some res) := by
  obtain ⟨⟨hr, h0⟩, ⟨hm, h12⟩, hg, hw, h5, r9, r10, r11, k1, k2, f146, f282, f147, f283, f148, f284, hop, hnw⟩ := hinv
  exact ⟨trivial, ⟨vs, ps, sl, hw, Or.inr (Or.inr (Or.inr (Or.inr ⟨hg, hm, h12, congrArg some hr, (bx_up_ne (by omega)).trans h5, fun i i0 i1 => (bx_up_ne (by omega)).trans (r9 i i0 i1), fun i i0 i1 => (bx_up_ne (by omega)).trans (r10 i i0 i1), fun i i0 i1 => (bx_up_ne (by omega)).trans (r11 i i0 i1), (bx_up_ne (by omega)).trans k1, (bx_up_ne (by omega)).trans k2, fun i i0 i1 => (bx_up_ne (by omega)).trans (f146 i i0 i1), fun i i0 i1 => (bx_up_ne (by omega)).trans (f282 i i0 i1), fun i i0 i1 => (bx_up_ne (by omega)).trans (f147 i i0 i1), fun i i0 i1 => (bx_up_ne (by omega)).trans (f283 i i0 i1), fun i i0 i1 => (bx_up_ne (by omega)).trans (f148 i i0 i1), fun i i0 i1 => (bx_up_ne (by omega)).trans (f284 i i0 i1)⟩)))⟩, vs, ps, sl, hw, fun z hz h0 => (by have := Option.some.inj hz; exfalso; omega), fun _ _ _ => ⟨fun P hp t a b => ⟨(hnw P hp t a b).1, (bx_up_ne (by omega)).trans (hnw P hp t a b).2.1, (bx_up_ne (by omega)).trans (hnw P hp t a b).2.2⟩, fun p t a b c d e => (bx_up_ne (by omega)).trans (hop p t a b c d e)⟩⟩
theorem rxfLNX_14_0 {X : (Nat → Int → Int) → Prop} {S0 : Nat → Int → Int} {ws : List Int} (hP : rxPLNX S0 ws) : bx_obE rxL X S0 rxC159.2.2.1 (rxILNX S0 ws) (rxPSLNX S0 ws) 14 rxzLNX_14 rxeLNX_14_0 := by
  intro S S_p r r_p hinv hX hin hsm_ hseg
  obtain ⟨I0, I1, h0_, hr_, b_, f_, d_⟩ := bx_cl (evs := [(1, (0, 0), (0, 8), .inr (0, (0, 0)))]) (fvs := []) hseg (by decide +kernel) (by decide +kernel)
  have hinv : rxILNX_14 S0 ws S (r 8) (r 9) (r 10) (r 11) (r 12) (r 13) := hinv
  rw [← hr_ 8 (by decide), ← hr_ 9 (by decide), ← hr_ 10 (by decide), ← hr_ 11 (by decide), ← hr_ 12 (by decide), ← hr_ 13 (by decide)] at hinv
  obtain ⟨⟨l8, u8⟩, ⟨l9, u9⟩, ⟨l10, u10⟩, ⟨l11, u11⟩, ⟨l12, u12⟩, ⟨l13, u13⟩, -⟩ := b_
  obtain ⟨T0, w_, w0⟩ := d_
  subst w0
  subst w_
  have g := rxdLNX_14_0 hP hin hsm_ I0 I1 hinv l8 u8 l9 u9 l10 u10 l11 u11 l12 u12 l13 u13
  refine ⟨bx_narP_ok (l := []) g.1, ?_⟩
  show rxPSLNX S0 ws (bx_up T0 0 (8) (0)) (some (bx_num r_p (.inr (0, (11, 0)))))
  rw [bx_xv_ok h0_]
  exact g.2
theorem rxgCLNX {X : (Nat → Int → Int) → Prop} {S0 : Nat → Int → Int} {ws : List Int} (hP : rxPLNX S0 ws) : bx_allI (fun i q => rxULNX q = true ∨ bx_allP (fun o => bx_obC rxL X S0 rxC159.2.2.1 (rxILNX S0 ws) (rxmLNX S0 ws) i q.1 o) q.2.1) 0 rxYLNX := ⟨Or.inr ⟨rxgLNX_0_0 hP, rxgLNX_0_1 hP, rxgLNX_0_2 hP, rxgLNX_0_3 hP, rxgLNX_0_4 hP, rxgLNX_0_5 hP, trivial⟩, Or.inl rfl, Or.inr trivial, Or.inl rfl, Or.inr trivial, Or.inl rfl, Or.inr ⟨rxgLNX_6_0 hP, rxgLNX_6_1 hP, rxgLNX_6_2 hP, trivial⟩, Or.inl rfl, Or.inr trivial, Or.inl rfl, Or.inr trivial, Or.inl rfl, Or.inr ⟨rxgLNX_12_0 hP, rxgLNX_12_1 hP, trivial⟩, Or.inl rfl, Or.inr trivial, trivial⟩
theorem rxgELNX {X : (Nat → Int → Int) → Prop} {S0 : Nat → Int → Int} {ws : List Int} (hP : rxPLNX S0 ws) : bx_allI (fun i q => rxULNX q = true ∨ bx_allP (fun E => bx_obE rxL X S0 rxC159.2.2.1 (rxILNX S0 ws) (rxPSLNX S0 ws) i q.1 E) q.2.2) 0 rxYLNX := ⟨Or.inr trivial, Or.inl rfl, Or.inr ⟨rxfLNX_2_0 hP, trivial⟩, Or.inl rfl, Or.inr ⟨rxfLNX_4_0 hP, trivial⟩, Or.inl rfl, Or.inr trivial, Or.inl rfl, Or.inr ⟨rxfLNX_8_0 hP, trivial⟩, Or.inl rfl, Or.inr ⟨rxfLNX_10_0 hP, trivial⟩, Or.inl rfl, Or.inr trivial, Or.inl rfl, Or.inr ⟨rxfLNX_14_0 hP, trivial⟩, trivial⟩
theorem rxuLNX {PX : State → Prop} {Dg : va_G} {A : Nat → Prop} {ad xa : Nat → Nat} {l : Launch} {X : (Nat → Int → Int) → Prop} (hPX : rx_PXOK rxNW A PX) (hX : ∀ S S1 : Nat → Int → Int, X S → bx_same rxL (bx_mdl rxC159.2.2.1) S S1 → X S1) (hQ110 : bx_ConP rxG rxNW rxAO PX Dg rxL X vwCl A ad l rxM110 rxC110 rxP110 rxPS110) (hQMLD : bx_ConP rxG rxNW rxAO PX Dg rxL X vwCl A ad l rxM125 rxCMLD rxPMLD rxPSMLD) (hQADX : bx_ConP rxG rxNW rxAO PX Dg rxL X vwCl A ad l rxM123 rxCADX rxPADX rxPSADX) (hQWAT : bx_ConP rxG rxNW rxAO PX Dg rxL X vwCl A ad l rxM126 rxCWAT rxPWAT rxPSWAT) {S0 : Nat → Int → Int} {ws : List Int} (hP : rxPLNX S0 ws) : ∀ (i : Nat) (q : bx_HE), rxYLNX[i]? = some q → rxULNX q = true → ∀ {p : Program} {e : Env} {R : Room} {s : State} {m : MethodId} {args : Array Value} {below : List Frame} {meth : Method} {c : Code} {Q : State → Prop} {H0 : Heap}, rx_Fr rxG rxNW rxAO PX p s m args meth c rxM159 → (∀ q, H0.size ≤ q → A q) → H0 = s.heap → rxM159.2.2.2.2.2.2.1 ≤ R.cells → rxM159.2.2.2.2.2.2.2 ≤ R.slots → rxC159.2.2.2.1 ≤ R.frames → rxC159.2.2.2.1 * 40 ≤ R.locals → bx_Step p l e R s m args below meth c Q Dg rxL X vwCl A xa H0 ad rxM159 rxYLNX (rxILNX S0 ws) (rxmLNX S0 ws) S0 rxC159.2.2.1 i q := by
  intro i q hq hus p e R s m args below meth c Q H0 hF hA hH0 hmc hms hd hdl
  match i, hq with
  | 0, hq =>
    cases hq
    exact absurd (show false = true from hus) Bool.false_ne_true
  | 1, hq =>
    cases hq
    exact rx_stepC (ins := .invokevirtual 110) (len := 3) (i_p := 2) (M_p := rxM110) (d := rxC159.2.2.2.1) (as := [.inr (3, (0, 0)), .inr (0, (0, (-1)))]) (t := []) (ct := rxC110) hPX hF rfl hA hH0 hmc hms hd hdl (by decide +kernel) rfl rfl (by decide +kernel) (by decide +kernel) hQ110 (by decide +kernel) rfl (Or.inr ⟨_, _, _, 1, rfl, rfl, by omega, rfl, rfl, rfl⟩) (rxsLNX_1 hP)
  | 2, hq =>
    cases hq
    exact absurd (show false = true from hus) Bool.false_ne_true
  | 3, hq =>
    cases hq
    exact rx_stepC (ins := .invokevirtual 110) (len := 3) (i_p := 4) (M_p := rxM110) (d := rxC159.2.2.2.1) (as := [.inr (3, (0, 0)), .inr (0, (0, (-2)))]) (t := []) (ct := rxC110) hPX hF rfl hA hH0 hmc hms hd hdl (by decide +kernel) rfl rfl (by decide +kernel) (by decide +kernel) hQ110 (by decide +kernel) rfl (Or.inr ⟨_, _, _, 1, rfl, rfl, by omega, rfl, rfl, rfl⟩) (rxsLNX_3 hP)
  | 4, hq =>
    cases hq
    exact absurd (show false = true from hus) Bool.false_ne_true
  | 5, hq =>
    cases hq
    exact rx_stepC (ins := .invokevirtual 267) (len := 3) (i_p := 6) (M_p := rxM125) (d := rxC159.2.2.2.1) (as := [.inr (3, (0, 1)), .inr (0, (8, 0)), .inr (0, (9, 0))]) (t := []) (ct := rxCMLD) hPX hF rfl hA hH0 hmc hms hd hdl (by decide +kernel) rfl rfl (by decide +kernel) (by decide +kernel) hQMLD (by decide +kernel) rfl (Or.inr ⟨_, _, _, 1, rfl, rfl, by omega, rfl, rfl, rfl⟩) (rxsLNX_5 hP)
  | 6, hq =>
    cases hq
    exact absurd (show false = true from hus) Bool.false_ne_true
  | 7, hq =>
    cases hq
    exact rx_stepC (ins := .invokevirtual 110) (len := 3) (i_p := 8) (M_p := rxM110) (d := rxC159.2.2.2.1) (as := [.inr (3, (0, 0)), .inr (0, (0, (-3)))]) (t := []) (ct := rxC110) hPX hF rfl hA hH0 hmc hms hd hdl (by decide +kernel) rfl rfl (by decide +kernel) (by decide +kernel) hQ110 (by decide +kernel) rfl (Or.inr ⟨_, _, _, 1, rfl, rfl, by omega, rfl, rfl, rfl⟩) (rxsLNX_7 hP)
  | 8, hq =>
    cases hq
    exact absurd (show false = true from hus) Bool.false_ne_true
  | 9, hq =>
    cases hq
    exact rx_stepC (ins := .invokevirtual 110) (len := 3) (i_p := 10) (M_p := rxM110) (d := rxC159.2.2.2.1) (as := [.inr (3, (0, 0)), .inr (0, (0, (-5)))]) (t := []) (ct := rxC110) hPX hF rfl hA hH0 hmc hms hd hdl (by decide +kernel) rfl rfl (by decide +kernel) (by decide +kernel) hQ110 (by decide +kernel) rfl (Or.inr ⟨_, _, _, 1, rfl, rfl, by omega, rfl, rfl, rfl⟩) (rxsLNX_9 hP)
  | 10, hq =>
    cases hq
    exact absurd (show false = true from hus) Bool.false_ne_true
  | 11, hq =>
    cases hq
    exact rx_stepC (ins := .invokevirtual 254) (len := 3) (i_p := 12) (M_p := rxM123) (d := rxC159.2.2.2.1) (as := [.inr (3, (0, 1)), .inr (0, (11, 0)), .inr (0, (9, 0)), .inr (0, (8, 0))]) (t := []) (ct := rxCADX) hPX hF rfl hA hH0 hmc hms hd hdl (by decide +kernel) rfl rfl (by decide +kernel) (by decide +kernel) hQADX (by decide +kernel) rfl (Or.inr ⟨_, _, _, 1, rfl, rfl, by omega, rfl, rfl, rfl⟩) (rxsLNX_11 hP)
  | 12, hq =>
    cases hq
    exact absurd (show false = true from hus) Bool.false_ne_true
  | 13, hq =>
    cases hq
    exact rx_stepC (ins := .invokevirtual 273) (len := 3) (i_p := 14) (M_p := rxM126) (d := rxC159.2.2.2.1) (as := [.inr (3, (0, 1)), .inr (3, (12, 0)), .inr (3, (13, 0)), .inr (0, (10, 0))]) (t := []) (ct := rxCWAT) hPX hF rfl hA hH0 hmc hms hd hdl (by decide +kernel) rfl rfl (by decide +kernel) (by decide +kernel) hQWAT (by decide +kernel) rfl (Or.inl ⟨rfl, rfl, rfl⟩) (rxsLNX_13 hP)
  | 14, hq =>
    cases hq
    exact absurd (show false = true from hus) Bool.false_ne_true
  | n + 15, hq => cases hq
theorem rxQLNX {PX : State → Prop} {Dg : va_G} {A : Nat → Prop} {ad xa : Nat → Nat} {l : Launch} {X : (Nat → Int → Int) → Prop} (hPX : rx_PXOK rxNW A PX) (hsl : ∀ s : State, PX s → ∀ o idx n : Nat, rxSl o idx = some n → ∃ tx : String, vk_R (rxNm o) idx tx (ad n) s)
    (hX : ∀ S S_p : Nat → Int → Int, X S → bx_same rxL (bx_mdl rxC159.2.2.1) S S_p → X S_p)
    (ih : ∀ (j2 : Nat) (ct2 : bx_Ct) (M2 : rx_Mt), ct2 ∈ rxCnE j2 → ct2.2.2.2.1 + 1 ≤ rxC159.2.2.2.1 → rxT.2.2.2.2.2 j2 = some M2 → bx_Con rxG rxNW rxAO PX Dg rxL X vwCl A ad l M2 ct2) (hQ110 : bx_ConP rxG rxNW rxAO PX Dg rxL X vwCl A ad l rxM110 rxC110 rxP110 rxPS110) (hQMLD : bx_ConP rxG rxNW rxAO PX Dg rxL X vwCl A ad l rxM125 rxCMLD rxPMLD rxPSMLD) (hQADX : bx_ConP rxG rxNW rxAO PX Dg rxL X vwCl A ad l rxM123 rxCADX rxPADX rxPSADX) (hQWAT : bx_ConP rxG rxNW rxAO PX Dg rxL X vwCl A ad l rxM126 rxCWAT rxPWAT rxPSWAT) : bx_ConP rxG rxNW rxAO PX Dg rxL X vwCl A ad l rxM159 rxC159 rxPLNX rxPSLNX :=
  rxQof (xa := xa) (Cn := rxCnE) (f := 30000) (j := 159) (tab := rxYLNX) (us := rxULNX) hPX hsl hX ih rfl rxYcLNX rxILNX rxmLNX
    (fun S0 ws r I0 I ht0 ht as he he1 hX0 hI0 hP hs ha => by
      have e := he.symm.trans (show bx_ent0 rxNP rxC159.1 bx_I0 [] = some ([(0, 0), (0, 0), (0, 0), (0, 0), (0, 0), (0, 0), (0, 0), (0, 0), ((-2147483648), 2147483647), ((-2147483648), 2147483647), ((-2147483648), 2147483647)], [], [.inr (3, (0, 0)), .inr (0, (8, 0)), .inr (0, (9, 0)), .inr (0, (10, 0))]) from rfl)
      cases e
      subst ha
      have h0 : r 0 = 0 := hs.1
      show rxILNX_0 S0 _ S0 (r 8) (r 9) (r 10)
      refine ⟨rfl, ?_⟩
      simp only [List.map_cons, List.map_nil, bx_xv_ok h0]
      rfl)
    (fun S0 ws hP => rxuLNX (xa := xa) hPX hX hQ110 hQMLD hQADX hQWAT hP) (fun S0 ws hP => rxgCLNX hP) (fun S0 ws hP => rxgELNX hP)
