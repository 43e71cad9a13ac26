/-! CONTRACT BY HAND, by program (wip/sim/genhand.py): DeadUnderstudies.learn -/
def rxI159_0 (S0 : Nat → Int → Int) (ws : List Int) (S : Nat → Int → Int) (vs ps sl : Int) : Prop := S = S0 ∧ ws = [0, vs, ps, sl]
def rxm159_0 (S0 : Nat → Int → Int) (ws : List Int) (S : Nat → Int → Int) (vs ps sl : Int) : Nat := 100
def rxz159_0 : rx_Z := ([(0, 0), (0, 0), (0, 0), (0, 0), (0, 0), (0, 0), (0, 0), (0, 0), ((-2147483648), 2147483647), ((-2147483648), 2147483647), ((-2147483648), 2147483647)], [], [], 0, 0, 0, [(0, .inr (3, (0, 0))), (1, .inr (0, (8, 0))), (2, .inr (0, (9, 0))), (3, .inr (0, (10, 0)))], [])
def rxI159_1 (S0 : Nat → Int → Int) (ws : List Int) (S : Nat → Int → Int) (vs ps sl : Int) : Prop := sl < -1 ∧ ws = [0, vs, ps, sl] ∧ bx_same rxL (bx_mdl [(11, 8), (1017, 0), (1018, 0), (1023, 0), (1037, 0)]) S0 S
def rxm159_1 (S0 : Nat → Int → Int) (ws : List Int) (S : Nat → Int → Int) (vs ps sl : Int) : Nat := 50
def rxz159_1 : rx_Z := ([(0, 0), (0, 0), (0, 0), (0, 0), (0, 0), (0, 0), (0, 0), (0, 0), ((-2147483648), 2147483647), ((-2147483648), 2147483647), ((-2147483648), 2147483647)], [], [], 0, 0, 7, [(0, .inr (3, (0, 0))), (1, .inr (0, (8, 0))), (2, .inr (0, (9, 0))), (3, .inr (0, (10, 0)))], [.inr (0, (0, (-1))), .inr (3, (0, 0))])
def rxI159_2 (S0 : Nat → Int → Int) (ws : List Int) (S : Nat → Int → Int) (vs ps sl res : Int) : Prop := res = (-1) ∧ sl < -1 ∧ ws = [0, vs, ps, sl] ∧ bx_same rxL (bx_mdl [(11, 8), (1017, 0), (1018, 0), (1023, 0), (1037, 0)]) S0 S
def rxm159_2 (S0 : Nat → Int → Int) (ws : List Int) (S : Nat → Int → Int) (vs ps sl res : Int) : Nat := 20
def rxz159_2 : rx_Z := ([(0, 0), (0, 0), (0, 0), (0, 0), (0, 0), (0, 0), (0, 0), (0, 0), ((-2147483648), 2147483647), ((-2147483648), 2147483647), ((-2147483648), 2147483647), ((-6), (-1))], [], [], 0, 0, 10, [(0, .inr (3, (0, 0))), (1, .inr (0, (8, 0))), (2, .inr (0, (9, 0))), (3, .inr (0, (10, 0)))], [.inr (0, (11, 0))])
def rxI159_3 (S0 : Nat → Int → Int) (ws : List Int) (S : Nat → Int → Int) (vs ps sl : Int) : Prop := (-1 ≤ sl ∧ (vs < 0 ∨ S0 1 5 ≤ vs ∨ ps < 0 ∨ S0 5 0 ≤ ps)) ∧ ws = [0, vs, ps, sl] ∧ bx_same rxL (bx_mdl [(11, 8), (1017, 0), (1018, 0), (1023, 0), (1037, 0)]) S0 S
def rxm159_3 (S0 : Nat → Int → Int) (ws : List Int) (S : Nat → Int → Int) (vs ps sl : Int) : Nat := 50
def rxz159_3 : rx_Z := ([(0, 0), (0, 0), (0, 0), (0, 0), (0, 0), (0, 0), (0, 0), (0, 0), ((-2147483648), 2147483647), ((-2147483648), 2147483647), ((-1), 2147483647)], [], [], 0, 0, 39, [(0, .inr (3, (0, 0))), (1, .inr (0, (8, 0))), (2, .inr (0, (9, 0))), (3, .inr (0, (10, 0)))], [.inr (0, (0, (-2))), .inr (3, (0, 0))])
def rxI159_4 (S0 : Nat → Int → Int) (ws : List Int) (S : Nat → Int → Int) (vs ps sl res : Int) : Prop := res = (-2) ∧ (-1 ≤ sl ∧ (vs < 0 ∨ S0 1 5 ≤ vs ∨ ps < 0 ∨ S0 5 0 ≤ ps)) ∧ ws = [0, vs, ps, sl] ∧ bx_same rxL (bx_mdl [(11, 8), (1017, 0), (1018, 0), (1023, 0), (1037, 0)]) S0 S
def rxm159_4 (S0 : Nat → Int → Int) (ws : List Int) (S : Nat → Int → Int) (vs ps sl res : Int) : Nat := 20
def rxz159_4 : rx_Z := ([(0, 0), (0, 0), (0, 0), (0, 0), (0, 0), (0, 0), (0, 0), (0, 0), ((-2147483648), 2147483647), ((-2147483648), 2147483647), ((-1), 2147483647), ((-6), (-1))], [], [], 0, 0, 42, [(0, .inr (3, (0, 0))), (1, .inr (0, (8, 0))), (2, .inr (0, (9, 0))), (3, .inr (0, (10, 0)))], [.inr (0, (11, 0))])
def rxI159_5 (S0 : Nat → Int → Int) (ws : List Int) (S : Nat → Int → Int) (vs ps sl : Int) : Prop := S = S0 ∧ (-1 ≤ sl ∧ 0 ≤ vs ∧ vs < S0 1 5 ∧ 0 ≤ ps ∧ ps < S0 5 0) ∧ ws = [0, vs, ps, sl]
def rxm159_5 (S0 : Nat → Int → Int) (ws : List Int) (S : Nat → Int → Int) (vs ps sl : Int) : Nat := 90
def rxz159_5 : rx_Z := ([(0, 0), (0, 0), (0, 0), (0, 0), (0, 0), (0, 0), (0, 0), (0, 0), (0, 11), (0, 7), ((-1), 2147483647)], [], [], 0, 0, 49, [(0, .inr (3, (0, 0))), (1, .inr (0, (8, 0))), (2, .inr (0, (9, 0))), (3, .inr (0, (10, 0)))], [.inr (0, (9, 0)), .inr (0, (8, 0)), .inr (3, (0, 1))])
def rxI159_6 (S0 : Nat → Int → Int) (ws : List Int) (S : Nat → Int → Int) (vs ps sl r : Int) : Prop := ((r = 1 ∧ rkMl S0 vs ps) ∨ (r = 0 ∧ rkMln S0 vs ps)) ∧ (-1 ≤ sl ∧ 0 ≤ vs ∧ vs < S0 1 5 ∧ 0 ≤ ps ∧ ps < S0 5 0) ∧ ws = [0, vs, ps, sl] ∧ bx_same rxL (bx_mdl [(11, 8), (1017, 0), (1018, 0), (1023, 0), (1037, 0)]) S0 S
def rxm159_6 (S0 : Nat → Int → Int) (ws : List Int) (S : Nat → Int → Int) (vs ps sl r : Int) : Nat := 80
def rxz159_6 : rx_Z := ([(0, 0), (0, 0), (0, 0), (0, 0), (0, 0), (0, 0), (0, 0), (0, 0), (0, 11), (0, 7), ((-1), 2147483647), (0, 1)], [], [], 0, 0, 52, [(0, .inr (3, (0, 0))), (1, .inr (0, (8, 0))), (2, .inr (0, (9, 0))), (3, .inr (0, (10, 0)))], [.inr (0, (11, 0))])
def rxI159_7 (S0 : Nat → Int → Int) (ws : List Int) (S : Nat → Int → Int) (vs ps sl : Int) : Prop := rkMln S0 vs ps ∧ (-1 ≤ sl ∧ 0 ≤ vs ∧ vs < S0 1 5 ∧ 0 ≤ ps ∧ ps < S0 5 0) ∧ ws = [0, vs, ps, sl] ∧ bx_same rxL (bx_mdl [(11, 8), (1017, 0), (1018, 0), (1023, 0), (1037, 0)]) S0 S
def rxm159_7 (S0 : Nat → Int → Int) (ws : List Int) (S : Nat → Int → Int) (vs ps sl : Int) : Nat := 50
def rxz159_7 : rx_Z := ([(0, 0), (0, 0), (0, 0), (0, 0), (0, 0), (0, 0), (0, 0), (0, 0), (0, 11), (0, 7), ((-1), 2147483647)], [], [], 0, 0, 58, [(0, .inr (3, (0, 0))), (1, .inr (0, (8, 0))), (2, .inr (0, (9, 0))), (3, .inr (0, (10, 0)))], [.inr (0, (0, (-3))), .inr (3, (0, 0))])
def rxI159_8 (S0 : Nat → Int → Int) (ws : List Int) (S : Nat → Int → Int) (vs ps sl res : Int) : Prop := res = (-3) ∧ rkMln S0 vs ps ∧ (-1 ≤ sl ∧ 0 ≤ vs ∧ vs < S0 1 5 ∧ 0 ≤ ps ∧ ps < S0 5 0) ∧ ws = [0, vs, ps, sl] ∧ bx_same rxL (bx_mdl [(11, 8), (1017, 0), (1018, 0), (1023, 0), (1037, 0)]) S0 S
def rxm159_8 (S0 : Nat → Int → Int) (ws : List Int) (S : Nat → Int → Int) (vs ps sl res : Int) : Nat := 20
def rxz159_8 : rx_Z := ([(0, 0), (0, 0), (0, 0), (0, 0), (0, 0), (0, 0), (0, 0), (0, 0), (0, 11), (0, 7), ((-1), 2147483647), ((-6), (-1))], [], [], 0, 0, 61, [(0, .inr (3, (0, 0))), (1, .inr (0, (8, 0))), (2, .inr (0, (9, 0))), (3, .inr (0, (10, 0)))], [.inr (0, (11, 0))])
def rxI159_9 (S0 : Nat → Int → Int) (ws : List Int) (S : Nat → Int → Int) (vs ps sl : Int) : Prop := (rkMl S0 vs ps ∧ 12 ≤ S0 1 5) ∧ (-1 ≤ sl ∧ 0 ≤ vs ∧ vs < S0 1 5 ∧ 0 ≤ ps ∧ ps < S0 5 0) ∧ ws = [0, vs, ps, sl] ∧ bx_same rxL (bx_mdl [(11, 8), (1017, 0), (1018, 0), (1023, 0), (1037, 0)]) S0 S
def rxm159_9 (S0 : Nat → Int → Int) (ws : List Int) (S : Nat → Int → Int) (vs ps sl : Int) : Nat := 50
def rxz159_9 : rx_Z := ([(0, 0), (0, 0), (0, 0), (0, 0), (0, 0), (0, 0), (0, 0), (0, 0), (0, 11), (0, 7), ((-1), 2147483647)], [], [], 0, 0, 77, [(0, .inr (3, (0, 0))), (1, .inr (0, (8, 0))), (2, .inr (0, (9, 0))), (3, .inr (0, (10, 0)))], [.inr (0, (0, (-5))), .inr (3, (0, 0))])
def rxI159_10 (S0 : Nat → Int → Int) (ws : List Int) (S : Nat → Int → Int) (vs ps sl res : Int) : Prop := res = (-5) ∧ (rkMl S0 vs ps ∧ 12 ≤ S0 1 5) ∧ (-1 ≤ sl ∧ 0 ≤ vs ∧ vs < S0 1 5 ∧ 0 ≤ ps ∧ ps < S0 5 0) ∧ ws = [0, vs, ps, sl] ∧ bx_same rxL (bx_mdl [(11, 8), (1017, 0), (1018, 0), (1023, 0), (1037, 0)]) S0 S
def rxm159_10 (S0 : Nat → Int → Int) (ws : List Int) (S : Nat → Int → Int) (vs ps sl res : Int) : Nat := 20
def rxz159_10 : rx_Z := ([(0, 0), (0, 0), (0, 0), (0, 0), (0, 0), (0, 0), (0, 0), (0, 0), (0, 11), (0, 7), ((-1), 2147483647), ((-6), (-1))], [], [], 0, 0, 80, [(0, .inr (3, (0, 0))), (1, .inr (0, (8, 0))), (2, .inr (0, (9, 0))), (3, .inr (0, (10, 0)))], [.inr (0, (11, 0))])
def rxI159_11 (S0 : Nat → Int → Int) (ws : List Int) (S : Nat → Int → Int) (vs ps sl pa : Int) : Prop := (rkMl S0 vs ps ∧ S0 1 5 < 12 ∧ pa = S0 9 vs) ∧ (-1 ≤ sl ∧ 0 ≤ vs ∧ vs < S0 1 5 ∧ 0 ≤ ps ∧ ps < S0 5 0) ∧ ws = [0, vs, ps, sl] ∧ bx_same rxL (bx_mdl [(11, 8), (1017, 0), (1018, 0), (1023, 0), (1037, 0)]) S0 S
def rxm159_11 (S0 : Nat → Int → Int) (ws : List Int) (S : Nat → Int → Int) (vs ps sl pa : Int) : Nat := 50
def rxz159_11 : rx_Z := ([(0, 0), (0, 0), (0, 0), (0, 0), (0, 0), (0, 0), (0, 0), (0, 0), (0, 10), (0, 7), ((-1), 2147483647), (0, 5)], [], [], 0, 0, 96, [(0, .inr (3, (0, 0))), (1, .inr (0, (8, 0))), (2, .inr (0, (9, 0))), (3, .inr (0, (10, 0)))], [.inr (0, (8, 0)), .inr (0, (9, 0)), .inr (0, (11, 0)), .inr (3, (0, 1))])
def rxI159_12 (S0 : Nat → Int → Int) (ws : List Int) (S : Nat → Int → Int) (vs ps sl pa res : Int) : Prop := (res = S0 1 5 ∧ 0 ≤ res) ∧ (rkMl S0 vs ps ∧ S0 1 5 < 12 ∧ pa = S0 9 vs) ∧ (-1 ≤ sl ∧ 0 ≤ vs ∧ vs < S0 1 5 ∧ 0 ≤ ps ∧ ps < S0 5 0) ∧ ws = [0, vs, ps, sl] ∧ S 1 5 = S0 1 5 + 1 ∧ (∀ i : Int, 0 ≤ i → i < 12 → S 9 i = if i = S0 1 5 then pa else S0 9 i) ∧ (∀ i : Int, 0 ≤ i → i < 12 → S 10 i = if i = S0 1 5 then ps else S0 10 i) ∧ (∀ i : Int, 0 ≤ i → i < 12 → S 11 i = if i = S0 1 5 then vs else S0 11 i) ∧ S 138 5 = S0 138 5 ∧ S 274 5 = S0 274 5 ∧ (∀ i : Int, 0 ≤ i → i < 12 → S 146 i = S0 146 i) ∧ (∀ i : Int, 0 ≤ i → i < 12 → S 282 i = S0 282 i) ∧ (∀ i : Int, 0 ≤ i → i < 12 → S 147 i = S0 147 i) ∧ (∀ i : Int, 0 ≤ i → i < 12 → S 283 i = S0 283 i) ∧ (∀ i : Int, 0 ≤ i → i < 12 → S 148 i = S0 148 i) ∧ (∀ i : Int, 0 ≤ i → i < 12 → S 284 i = S0 284 i)
def rxm159_12 (S0 : Nat → Int → Int) (ws : List Int) (S : Nat → Int → Int) (vs ps sl pa res : Int) : Nat := 40
def rxz159_12 : rx_Z := ([(0, 0), (0, 0), (0, 0), (0, 0), (0, 0), (0, 0), (0, 0), (0, 0), (0, 10), (0, 7), ((-1), 2147483647), (0, 5), ((-1), 11)], [], [], 0, 0, 99, [(0, .inr (3, (0, 0))), (1, .inr (0, (8, 0))), (2, .inr (0, (9, 0))), (3, .inr (0, (10, 0)))], [.inr (0, (12, 0))])
def rxo159_0_0 : bx_HO := (([(0, 0), (0, 0), (0, 0), (0, 0), (0, 0), (0, 0), (0, 0), (0, 0), ((-2147483648), 2147483647), ((-2147483648), 2147483647), ((-2147483648), (-2))], [], [], 0, 0, 7, [(0, .inr (3, (0, 0))), (1, .inr (0, (8, 0))), (2, .inr (0, (9, 0))), (3, .inr (0, (10, 0)))], [.inr (0, (0, (-1))), .inr (3, (0, 0))]), [], [], [(0, 0), (0, 0), (0, 0), (0, 0), (0, 0), (0, 0), (0, 0), (0, 0), (8, 0), (9, 0), (10, 0)], 1)
def rxo159_0_1 : bx_HO := (([(0, 0), (0, 0), (0, 0), (0, 0), (0, 0), (0, 0), (0, 0), (0, 0), ((-2147483648), (-1)), ((-2147483648), 2147483647), ((-1), 2147483647)], [], [(((0, 0), 0), .inr (3, (0, 1)))], 0, 0, 39, [(0, .inr (3, (0, 0))), (1, .inr (0, (8, 0))), (2, .inr (0, (9, 0))), (3, .inr (0, (10, 0)))], [.inr (0, (0, (-2))), .inr (3, (0, 0))]), [], [], [(0, 0), (0, 0), (0, 0), (0, 0), (0, 0), (0, 0), (0, 0), (0, 0), (8, 0), (9, 0), (10, 0)], 3)
def rxo159_0_2 : bx_HO := (([(0, 0), (0, 0), (0, 0), (0, 0), (0, 0), (0, 0), (0, 0), (0, 0), (0, 2147483647), ((-2147483648), 2147483647), ((-1), 2147483647), (0, 12)], [(1, (11, 0), (8, 0))], [(((0, 0), 1851192626986356798427873864310897359480125337295219445323071488000000), .inr (0, (11, 0))), (((0, 1), 5), .inr (0, (11, 0))), (((0, 0), 0), .inr (3, (0, 1)))], 0, 0, 39, [(0, .inr (3, (0, 0))), (1, .inr (0, (8, 0))), (2, .inr (0, (9, 0))), (3, .inr (0, (10, 0)))], [.inr (0, (0, (-2))), .inr (3, (0, 0))]), [], [], [(0, 0), (0, 0), (0, 0), (0, 0), (0, 0), (0, 0), (0, 0), (0, 0), (8, 0), (9, 0), (10, 0)], 3)
def rxo159_0_3 : bx_HO := (([(0, 0), (0, 0), (0, 0), (0, 0), (0, 0), (0, 0), (0, 0), (0, 0), (0, 11), ((-2147483648), (-1)), ((-1), 2147483647), (1, 12)], [(0, (8, 0), (11, 0))], [(((0, 1), 4), .inr (3, (0, 5))), (((0, 0), 1851192626986356798427873864310897359480125337295219445323071488000000), .inr (0, (11, 0))), (((0, 1), 5), .inr (0, (11, 0))), (((0, 0), 0), .inr (3, (0, 1)))], 0, 0, 39, [(0, .inr (3, (0, 0))), (1, .inr (0, (8, 0))), (2, .inr (0, (9, 0))), (3, .inr (0, (10, 0)))], [.inr (0, (0, (-2))), .inr (3, (0, 0))]), [], [], [(0, 0), (0, 0), (0, 0), (0, 0), (0, 0), (0, 0), (0, 0), (0, 0), (8, 0), (9, 0), (10, 0)], 3)
def rxo159_0_4 : bx_HO := (([(0, 0), (0, 0), (0, 0), (0, 0), (0, 0), (0, 0), (0, 0), (0, 0), (0, 11), (0, 2147483647), ((-1), 2147483647), (1, 12), (0, 8)], [(1, (12, 0), (9, 0)), (0, (8, 0), (11, 0))], [(((0, 0), 1851192626986356797424340330377019318111018015026043177556312064000000), .inr (0, (12, 0))), (((0, 5), 0), .inr (0, (12, 0))), (((0, 1), 4), .inr (3, (0, 5))), (((0, 0), 1851192626986356798427873864310897359480125337295219445323071488000000), .inr (0, (11, 0))), (((0, 1), 5), .inr (0, (11, 0))), (((0, 0), 0), .inr (3, (0, 1)))], 0, 0, 39, [(0, .inr (3, (0, 0))), (1, .inr (0, (8, 0))), (2, .inr (0, (9, 0))), (3, .inr (0, (10, 0)))], [.inr (0, (0, (-2))), .inr (3, (0, 0))]), [], [], [(0, 0), (0, 0), (0, 0), (0, 0), (0, 0), (0, 0), (0, 0), (0, 0), (8, 0), (9, 0), (10, 0)], 3)
def rxo159_0_5 : bx_HO := (([(0, 0), (0, 0), (0, 0), (0, 0), (0, 0), (0, 0), (0, 0), (0, 0), (0, 11), (0, 7), ((-1), 2147483647), (1, 12), (1, 8)], [(0, (9, 0), (12, 0)), (0, (8, 0), (11, 0))], [(((0, 0), 1851192626986356797424340330377019318111018015026043177556312064000000), .inr (0, (12, 0))), (((0, 5), 0), .inr (0, (12, 0))), (((0, 1), 4), .inr (3, (0, 5))), (((0, 0), 1851192626986356798427873864310897359480125337295219445323071488000000), .inr (0, (11, 0))), (((0, 1), 5), .inr (0, (11, 0))), (((0, 0), 0), .inr (3, (0, 1)))], 0, 0, 49, [(0, .inr (3, (0, 0))), (1, .inr (0, (8, 0))), (2, .inr (0, (9, 0))), (3, .inr (0, (10, 0)))], [.inr (0, (9, 0)), .inr (0, (8, 0)), .inr (3, (0, 1))]), [], [], [(0, 0), (0, 0), (0, 0), (0, 0), (0, 0), (0, 0), (0, 0), (0, 0), (8, 0), (9, 0), (10, 0)], 5)
def rxe159_2_0 : rx_End × List (Nat × Int × Int) := (([(0, 0), (0, 0), (0, 0), (0, 0), (0, 0), (0, 0), (0, 0), (0, 0), ((-2147483648), 2147483647), ((-2147483648), 2147483647), ((-2147483648), 2147483647), ((-6), (-1))], [], [], some (.inr (0, (11, 0)))), [])
def rxe159_4_0 : rx_End × List (Nat × Int × Int) := (([(0, 0), (0, 0), (0, 0), (0, 0), (0, 0), (0, 0), (0, 0), (0, 0), ((-2147483648), 2147483647), ((-2147483648), 2147483647), ((-1), 2147483647), ((-6), (-1))], [], [], some (.inr (0, (11, 0)))), [])
def rxo159_6_0 : bx_HO := (([(0, 0), (0, 0), (0, 0), (0, 0), (0, 0), (0, 0), (0, 0), (0, 0), (0, 11), (0, 7), ((-1), 2147483647), (0, 0)], [], [], 0, 0, 58, [(0, .inr (3, (0, 0))), (1, .inr (0, (8, 0))), (2, .inr (0, (9, 0))), (3, .inr (0, (10, 0)))], [.inr (0, (0, (-3))), .inr (3, (0, 0))]), [], [], [(0, 0), (0, 0), (0, 0), (0, 0), (0, 0), (0, 0), (0, 0), (0, 0), (8, 0), (9, 0), (10, 0)], 7)
def rxo159_6_1 : bx_HO := (([(0, 0), (0, 0), (0, 0), (0, 0), (0, 0), (0, 0), (0, 0), (0, 0), (0, 11), (0, 7), ((-1), 2147483647), (1, 1), (12, 12)], [(3, (11, 0), (0, 0))], [(((0, 0), 1851192626986356798427873864310897359480125337295219445323071488000000), .inr (0, (12, 0))), (((0, 1), 5), .inr (0, (12, 0))), (((0, 0), 0), .inr (3, (0, 1)))], 0, 0, 77, [(0, .inr (3, (0, 0))), (1, .inr (0, (8, 0))), (2, .inr (0, (9, 0))), (3, .inr (0, (10, 0)))], [.inr (0, (0, (-5))), .inr (3, (0, 0))]), [], [], [(0, 0), (0, 0), (0, 0), (0, 0), (0, 0), (0, 0), (0, 0), (0, 0), (8, 0), (9, 0), (10, 0)], 9)
def rxo159_6_2 : bx_HO := (([(0, 0), (0, 0), (0, 0), (0, 0), (0, 0), (0, 0), (0, 0), (0, 0), (0, 11), (0, 7), ((-1), 2147483647), (1, 1), (0, 11), (0, 5)], [(3, (11, 0), (0, 0))], [(((0, 0), 1851192626986356797424364830707437625680387377997778264869896192000000), .inr (0, (13, 0))), (((0, 1), 6), .inr (3, (0, 9))), (((0, 0), 1851192626986356798427873864310897359480125337295219445323071488000000), .inr (0, (12, 0))), (((0, 1), 5), .inr (0, (12, 0))), (((0, 0), 0), .inr (3, (0, 1)))], 0, 0, 96, [(0, .inr (3, (0, 0))), (1, .inr (0, (8, 0))), (2, .inr (0, (9, 0))), (3, .inr (0, (10, 0)))], [.inr (0, (8, 0)), .inr (0, (9, 0)), .inr (0, (13, 0)), .inr (3, (0, 1))]), [(8, 0, 10)], [], [(0, 0), (0, 0), (0, 0), (0, 0), (0, 0), (0, 0), (0, 0), (0, 0), (8, 0), (9, 0), (10, 0), (13, 0)], 11)
def rxe159_8_0 : rx_End × List (Nat × Int × Int) := (([(0, 0), (0, 0), (0, 0), (0, 0), (0, 0), (0, 0), (0, 0), (0, 0), (0, 11), (0, 7), ((-1), 2147483647), ((-6), (-1))], [], [], some (.inr (0, (11, 0)))), [])
def rxe159_10_0 : rx_End × List (Nat × Int × Int) := (([(0, 0), (0, 0), (0, 0), (0, 0), (0, 0), (0, 0), (0, 0), (0, 0), (0, 11), (0, 7), ((-1), 2147483647), ((-6), (-1))], [], [], some (.inr (0, (11, 0)))), [])
def rxe159_12_0 : rx_End × List (Nat × Int × Int) := (([(0, 0), (0, 0), (0, 0), (0, 0), (0, 0), (0, 0), (0, 0), (0, 0), (0, 10), (0, 7), ((-1), 2147483647), (0, 5), ((-1), (-1)), (0, 1522), (0, 1522)], [], [(((0, 0), 1851192626986356799029993984671224184301589730656725205983952899000000), .inr (0, (0, 0))), (((0, 0), 8), .inr (0, (0, 0))), (((0, 0), 917100006000000), .inl none), (((0, 0), 918000006000000), .inl none), (((0, 0), 89999100006000000), .inl none), (((0, 0), 1851192626986356797424340330377019318111018015026043177560440832000000), .inr (3, (14, 0))), (((0, 12), 0), .inr (3, (14, 0))), (((14, 0), 1000010), .inl none), (((0, 0), 1851192626986356797424364830707437625680387377997778264871665664000000), .inr (3, (13, 0))), (((13, 0), 1000010), .inl none), (((0, 1), 9), .inr (3, (0, 12))), (((0, 0), 0), .inr (3, (0, 1)))], some (.inr (0, (12, 0)))), [])
def rxe159_12_1 : rx_End × List (Nat × Int × Int) := (([(0, 0), (0, 0), (0, 0), (0, 0), (0, 0), (0, 0), (0, 0), (0, 0), (0, 10), (0, 7), ((-1), 2147483647), (0, 5), (0, 11), (0, 1522), (0, 1522)], [], [(((0, 0), 1851192626986356799029993984671224184301589730656725205983952899000000), .inr (0, (0, 0))), (((0, 0), 8), .inr (0, (0, 0))), (((0, 0), 917100006000000), .inl none), (((0, 0), 918000006000000), .inl none), (((0, 0), 89999100006000000), .inl none), (((0, 0), 1851192626986356797424377080872646779465072059483645808527278080000000), .inr (3, (14, 0))), (((14, 0), 1000010), .inl none), (((0, 0), 1851192626986356797424364830707437625680387377997778264871665664000000), .inr (3, (13, 0))), (((13, 0), 1000010), .inl none), (((0, 1), 9), .inr (3, (0, 12))), (((0, 0), 0), .inr (3, (0, 1)))], some (.inr (0, (12, 0)))), [])
def rxY159 : List bx_HE := [(rxz159_0, [rxo159_0_0, rxo159_0_1, rxo159_0_2, rxo159_0_3, rxo159_0_4, rxo159_0_5], []), (rxz159_1, [], []), (rxz159_2, [], [rxe159_2_0]), (rxz159_3, [], []), (rxz159_4, [], [rxe159_4_0]), (rxz159_5, [], []), (rxz159_6, [rxo159_6_0, rxo159_6_1, rxo159_6_2], []), (rxz159_7, [], []), (rxz159_8, [], [rxe159_8_0]), (rxz159_9, [], []), (rxz159_10, [], [rxe159_10_0]), (rxz159_11, [], []), (rxz159_12, [], [rxe159_12_0, rxe159_12_1])]
def rxU159 (q : bx_HE) : Bool := Nat.beq (rx_zpc q.1) 7 || Nat.beq (rx_zpc q.1) 39 || Nat.beq (rx_zpc q.1) 49 || Nat.beq (rx_zpc q.1) 58 || Nat.beq (rx_zpc q.1) 77 || Nat.beq (rx_zpc q.1) 96
def rxYB159 : bx_B := (rxV, rxNP, rxDmf, bx_mdH rxC159.2.2.1)
set_option maxRecDepth 100000 in
theorem rxYc159 : bx_chkH rxYB159 rxM159 rxC159 rxY159 (rxU159, fun cut z => rx_ex2 (rxCT rxYB159 rxCn) cut 30000 rxC159.2.2.2.1 159 z) = true := by decide +kernel
def rxI159 (S0 : Nat → Int → Int) (ws : List Int) (i : Nat) : bx_SP := fun S r => match i with | 0 => rxI159_0 S0 ws S (r 8) (r 9) (r 10) | 1 => rxI159_1 S0 ws S (r 8) (r 9) (r 10) | 2 => rxI159_2 S0 ws S (r 8) (r 9) (r 10) (r 11) | 3 => rxI159_3 S0 ws S (r 8) (r 9) (r 10) | 4 => rxI159_4 S0 ws S (r 8) (r 9) (r 10) (r 11) | 5 => rxI159_5 S0 ws S (r 8) (r 9) (r 10) | 6 => rxI159_6 S0 ws S (r 8) (r 9) (r 10) (r 11) | 7 => rxI159_7 S0 ws S (r 8) (r 9) (r 10) | 8 => rxI159_8 S0 ws S (r 8) (r 9) (r 10) (r 11) | 9 => rxI159_9 S0 ws S (r 8) (r 9) (r 10) | 10 => rxI159_10 S0 ws S (r 8) (r 9) (r 10) (r 11) | 11 => rxI159_11 S0 ws S (r 8) (r 9) (r 10) (r 11) | 12 => rxI159_12 S0 ws S (r 8) (r 9) (r 10) (r 11) (r 12) | _ => False
def rxm159 (S0 : Nat → Int → Int) (ws : List Int) (i : Nat) (S : Nat → Int → Int) (r : Nat → Int) : Nat := match i with | 0 => rxm159_0 S0 ws S (r 8) (r 9) (r 10) | 1 => rxm159_1 S0 ws S (r 8) (r 9) (r 10) | 2 => rxm159_2 S0 ws S (r 8) (r 9) (r 10) (r 11) | 3 => rxm159_3 S0 ws S (r 8) (r 9) (r 10) | 4 => rxm159_4 S0 ws S (r 8) (r 9) (r 10) (r 11) | 5 => rxm159_5 S0 ws S (r 8) (r 9) (r 10) | 6 => rxm159_6 S0 ws S (r 8) (r 9) (r 10) (r 11) | 7 => rxm159_7 S0 ws S (r 8) (r 9) (r 10) | 8 => rxm159_8 S0 ws S (r 8) (r 9) (r 10) (r 11) | 9 => rxm159_9 S0 ws S (r 8) (r 9) (r 10) | 10 => rxm159_10 S0 ws S (r 8) (r 9) (r 10) (r 11) | 11 => rxm159_11 S0 ws S (r 8) (r 9) (r 10) (r 11) | 12 => rxm159_12 S0 ws S (r 8) (r 9) (r 10) (r 11) (r 12) | _ => 0
def rxP159 (S0 : Nat → Int → Int) (ws : List Int) : Prop := rkDp S0 ∧ ∀ i : Int, 0 ≤ i → i < S0 1 5 → S0 10 i < S0 5 0
def rxPS159 (S0 : Nat → Int → Int) (ws : List Int) (S : Nat → Int → Int) (w : Option Int) : Prop := ∃ vs ps sl : Int, ws = [0, vs, ps, sl] ∧ ((sl < -1 ∧ w = some (-1) ∧ bx_same rxL (bx_mdl [(11, 8), (1017, 0), (1018, 0), (1023, 0), (1037, 0)]) S0 S) ∨ ((-1 ≤ sl ∧ (vs < 0 ∨ S0 1 5 ≤ vs ∨ ps < 0 ∨ S0 5 0 ≤ ps)) ∧ w = some (-2) ∧ bx_same rxL (bx_mdl [(11, 8), (1017, 0), (1018, 0), (1023, 0), (1037, 0)]) S0 S) ∨ ((-1 ≤ sl ∧ 0 ≤ vs ∧ vs < S0 1 5 ∧ 0 ≤ ps ∧ ps < S0 5 0) ∧ rkMln S0 vs ps ∧ w = some (-3) ∧ bx_same rxL (bx_mdl [(11, 8), (1017, 0), (1018, 0), (1023, 0), (1037, 0)]) S0 S) ∨ ((-1 ≤ sl ∧ 0 ≤ vs ∧ vs < S0 1 5 ∧ 0 ≤ ps ∧ ps < S0 5 0) ∧ rkMl S0 vs ps ∧ 12 ≤ S0 1 5 ∧ w = some (-5) ∧ bx_same rxL (bx_mdl [(11, 8), (1017, 0), (1018, 0), (1023, 0), (1037, 0)]) S0 S) ∨ ((-1 ≤ sl ∧ 0 ≤ vs ∧ vs < S0 1 5 ∧ 0 ≤ ps ∧ ps < S0 5 0) ∧ rkMl S0 vs ps ∧ S0 1 5 < 12 ∧ w = some (S0 1 5) ∧ S 1 5 = S0 1 5 + 1 ∧ (∀ i : Int, 0 ≤ i → i < 12 → S 9 i = if i = S0 1 5 then S0 9 vs else S0 9 i) ∧ (∀ i : Int, 0 ≤ i → i < 12 → S 10 i = if i = S0 1 5 then ps else S0 10 i) ∧ (∀ i : Int, 0 ≤ i → i < 12 → S 11 i = if i = S0 1 5 then vs else S0 11 i) ∧ S 138 5 = S0 138 5 ∧ S 274 5 = S0 274 5 ∧ (∀ i : Int, 0 ≤ i → i < 12 → S 146 i = S0 146 i) ∧ (∀ i : Int, 0 ≤ i → i < 12 → S 282 i = S0 282 i) ∧ (∀ i : Int, 0 ≤ i → i < 12 → S 147 i = S0 147 i) ∧ (∀ i : Int, 0 ≤ i → i < 12 → S 283 i = S0 283 i) ∧ (∀ i : Int, 0 ≤ i → i < 12 → S 148 i = S0 148 i) ∧ (∀ i : Int, 0 ≤ i → i < 12 → S 284 i = S0 284 i)))
theorem rxk159_1 {S0 : Nat → Int → Int} {ws : List Int} {S : Nat → Int → Int} {vs ps sl : Int} (hP : rxP159 S0 ws) (hin : bx_same rxL (bx_mdl rxC159.2.2.1) S0 S) (I0 : bx_Inv rxL S) (hinv : rxI159_1 S0 ws S vs ps sl) (l8 : (-2147483648) ≤ vs) (u8 : vs ≤ 2147483647) (l9 : (-2147483648) ≤ ps) (u9 : ps ≤ 2147483647) (l10 : (-2147483648) ≤ sl) (u10 : sl ≤ 2147483647) : rxP110 S [0, (-1)] ∧ ∀ (S_p : Nat → Int → Int) (res : Int), (-6) ≤ res → res ≤ (-1) → rxPS110 S [0, (-1)] S_p (some res) → bx_Inv rxL S_p → bx_same rxL (bx_mdl rxC110.2.2.1) S S_p → rxI159_2 S0 ws S_p vs ps sl res ∧ rxm159_2 S0 ws S_p vs ps sl res < rxm159_1 S0 ws S vs ps sl := by
  obtain ⟨h1, hw, hf⟩ := hinv
  refine ⟨trivial, fun S_p res _ _ hq _ hsm => ⟨⟨?_, h1, hw, rx_same_sub hf (by decide) hsm⟩, by unfold rxm159_1 rxm159_2; omega⟩⟩
  obtain ⟨c, hc, hr⟩ := hq
  simp only [List.cons.injEq, and_true, true_and] at hc
  simp only [Option.some.injEq] at hr
  omega
theorem rxs159_1 {X : (Nat → Int → Int) → Prop} {S0 : Nat → Int → Int} {ws : List Int} (hP : rxP159 S0 ws) : rx_obK X S0 rxC159.2.2.1 rxC110.2.2.1 (rxI159 S0 ws) (rxm159 S0 ws) 1 2 rxz159_1 rxz159_2 [.inr (3, (0, 0)), .inr (0, (0, (-1)))] (some 11) rxP110 rxPS110 := by
  intro S r hinv hXS I0 hin hs_ hf_
  have b_ := bx_bds_sat hs_
  have f_ := bx_fcl_ok hs_.1 hf_
  obtain ⟨⟨l8, u8⟩, ⟨l9, u9⟩, ⟨l10, u10⟩, -⟩ := b_
  have g := rxk159_1 hP hin I0 hinv l8 u8 l9 u9 l10 u10
  have ea : List.map (bx_num r) [.inr (3, (0, 0)), .inr (0, (0, (-1)))] = [0, -1] := by
    simp only [List.map_cons, List.map_nil, bx_xv_ok hs_.1]
    rfl
  rw [ea]
  refine ⟨g.1, fun S_p w r_p hPS hX_p I1 hsm hr hw hs_p => ?_⟩
  have hw := hw _ rfl
  subst hw
  have b_p := hs_p.2.2 11 _ _ rfl
  have g2 := g.2 S_p (r_p 11) b_p.1 b_p.2 hPS I1 hsm
  show rxI159_2 S0 ws S_p (r_p 8) (r_p 9) (r_p 10) (r_p 11) ∧ rxm159_2 S0 ws S_p (r_p 8) (r_p 9) (r_p 10) (r_p 11) < _
  rw [hr 8 (by decide), hr 9 (by decide), hr 10 (by decide)]
  exact g2
theorem rxk159_3 {S0 : Nat → Int → Int} {ws : List Int} {S : Nat → Int → Int} {vs ps sl : Int} (hP : rxP159 S0 ws) (hin : bx_same rxL (bx_mdl rxC159.2.2.1) S0 S) (I0 : bx_Inv rxL S) (hinv : rxI159_3 S0 ws S vs ps sl) (l8 : (-2147483648) ≤ vs) (u8 : vs ≤ 2147483647) (l9 : (-2147483648) ≤ ps) (u9 : ps ≤ 2147483647) (l10 : (-1) ≤ sl) (u10 : sl ≤ 2147483647) : rxP110 S [0, (-2)] ∧ ∀ (S_p : Nat → Int → Int) (res : Int), (-6) ≤ res → res ≤ (-1) → rxPS110 S [0, (-2)] S_p (some res) → bx_Inv rxL S_p → bx_same rxL (bx_mdl rxC110.2.2.1) S S_p → rxI159_4 S0 ws S_p vs ps sl res ∧ rxm159_4 S0 ws S_p vs ps sl res < rxm159_3 S0 ws S vs ps sl := by
  obtain ⟨h1, hw, hf⟩ := hinv
  refine ⟨trivial, fun S_p res _ _ hq _ hsm => ⟨⟨?_, h1, hw, rx_same_sub hf (by decide) hsm⟩, by unfold rxm159_3 rxm159_4; omega⟩⟩
  obtain ⟨c, hc, hr⟩ := hq
  simp only [List.cons.injEq, and_true, true_and] at hc
  simp only [Option.some.injEq] at hr
  omega
theorem rxs159_3 {X : (Nat → Int → Int) → Prop} {S0 : Nat → Int → Int} {ws : List Int} (hP : rxP159 S0 ws) : rx_obK X S0 rxC159.2.2.1 rxC110.2.2.1 (rxI159 S0 ws) (rxm159 S0 ws) 3 4 rxz159_3 rxz159_4 [.inr (3, (0, 0)), .inr (0, (0, (-2)))] (some 11) rxP110 rxPS110 := by
  intro S r hinv hXS I0 hin hs_ hf_
  have b_ := bx_bds_sat hs_
  have f_ := bx_fcl_ok hs_.1 hf_
  obtain ⟨⟨l8, u8⟩, ⟨l9, u9⟩, ⟨l10, u10⟩, -⟩ := b_
  have g := rxk159_3 hP hin I0 hinv l8 u8 l9 u9 l10 u10
  have ea : List.map (bx_num r) [.inr (3, (0, 0)), .inr (0, (0, (-2)))] = [0, -2] := by
    simp only [List.map_cons, List.map_nil, bx_xv_ok hs_.1]
    rfl
  rw [ea]
  refine ⟨g.1, fun S_p w r_p hPS hX_p I1 hsm hr hw hs_p => ?_⟩
  have hw := hw _ rfl
  subst hw
  have b_p := hs_p.2.2 11 _ _ rfl
  have g2 := g.2 S_p (r_p 11) b_p.1 b_p.2 hPS I1 hsm
  show rxI159_4 S0 ws S_p (r_p 8) (r_p 9) (r_p 10) (r_p 11) ∧ rxm159_4 S0 ws S_p (r_p 8) (r_p 9) (r_p 10) (r_p 11) < _
  rw [hr 8 (by decide), hr 9 (by decide), hr 10 (by decide)]
  exact g2
theorem rxk159_5 {S0 : Nat → Int → Int} {ws : List Int} {S : Nat → Int → Int} {vs ps sl : Int} (hP : rxP159 S0 ws) (hin : bx_same rxL (bx_mdl rxC159.2.2.1) S0 S) (I0 : bx_Inv rxL S) (hinv : rxI159_5 S0 ws S vs ps sl) (l8 : 0 ≤ vs) (u8 : vs ≤ 11) (l9 : 0 ≤ ps) (u9 : ps ≤ 7) (l10 : (-1) ≤ sl) (u10 : sl ≤ 2147483647) : rxPMLD S [1, vs, ps] ∧ ∀ (S_p : Nat → Int → Int) (r : Int), 0 ≤ r → r ≤ 1 → rxPSMLD S [1, vs, ps] S_p (some r) → bx_Inv rxL S_p → bx_same rxL (bx_mdl rxCMLD.2.2.1) S S_p → rxI159_6 S0 ws S_p vs ps sl r ∧ rxm159_6 S0 ws S_p vs ps sl r < rxm159_5 S0 ws S vs ps sl := by
  obtain ⟨hS, hg, hw⟩ := hinv
  subst hS
  have hh := hP.2 vs (by omega) (by omega)
  refine ⟨⟨vs, ps, rfl, by omega, by omega, hh, hP.1⟩, fun S_p r _ _ hq _ hsm => ⟨⟨?_, hg, hw, rx_same_sub (fun _ _ _ _ _ => rfl) (by decide) hsm⟩, by unfold rxm159_5 rxm159_6; omega⟩⟩
  obtain ⟨vs2, ps2, hw3, h⟩ := hq
  have k0 : vs = vs2 := Option.some.inj (congrArg (fun l : List Int => l[1]?) hw3)
  have k1 : ps = ps2 := Option.some.inj (congrArg (fun l : List Int => l[2]?) hw3)
  subst k0
  subst k1
  exact h.imp (fun q => ⟨Option.some.inj q.1, q.2⟩) (fun q => ⟨Option.some.inj q.1, q.2⟩)
theorem rxs159_5 {X : (Nat → Int → Int) → Prop} {S0 : Nat → Int → Int} {ws : List Int} (hP : rxP159 S0 ws) : rx_obK X S0 rxC159.2.2.1 rxCMLD.2.2.1 (rxI159 S0 ws) (rxm159 S0 ws) 5 6 rxz159_5 rxz159_6 [.inr (3, (0, 1)), .inr (0, (8, 0)), .inr (0, (9, 0))] (some 11) rxPMLD rxPSMLD := by
  intro S r hinv hXS I0 hin hs_ hf_
  have b_ := bx_bds_sat hs_
  have f_ := bx_fcl_ok hs_.1 hf_
  obtain ⟨⟨l8, u8⟩, ⟨l9, u9⟩, ⟨l10, u10⟩, -⟩ := b_
  have g := rxk159_5 hP hin I0 hinv l8 u8 l9 u9 l10 u10
  have ea : List.map (bx_num r) [.inr (3, (0, 1)), .inr (0, (8, 0)), .inr (0, (9, 0))] = [1, (r 8), (r 9)] := by
    simp only [List.map_cons, List.map_nil, bx_xv_ok hs_.1]
    rfl
  rw [ea]
  refine ⟨g.1, fun S_p w r_p hPS hX_p I1 hsm hr hw hs_p => ?_⟩
  have hw := hw _ rfl
  subst hw
  have b_p := hs_p.2.2 11 _ _ rfl
  have g2 := g.2 S_p (r_p 11) b_p.1 b_p.2 hPS I1 hsm
  show rxI159_6 S0 ws S_p (r_p 8) (r_p 9) (r_p 10) (r_p 11) ∧ rxm159_6 S0 ws S_p (r_p 8) (r_p 9) (r_p 10) (r_p 11) < _
  rw [hr 8 (by decide), hr 9 (by decide), hr 10 (by decide)]
  exact g2
theorem rxk159_7 {S0 : Nat → Int → Int} {ws : List Int} {S : Nat → Int → Int} {vs ps sl : Int} (hP : rxP159 S0 ws) (hin : bx_same rxL (bx_mdl rxC159.2.2.1) S0 S) (I0 : bx_Inv rxL S) (hinv : rxI159_7 S0 ws S vs ps sl) (l8 : 0 ≤ vs) (u8 : vs ≤ 11) (l9 : 0 ≤ ps) (u9 : ps ≤ 7) (l10 : (-1) ≤ sl) (u10 : sl ≤ 2147483647) : rxP110 S [0, (-3)] ∧ ∀ (S_p : Nat → Int → Int) (res : Int), (-6) ≤ res → res ≤ (-1) → rxPS110 S [0, (-3)] S_p (some res) → bx_Inv rxL S_p → bx_same rxL (bx_mdl rxC110.2.2.1) S S_p → rxI159_8 S0 ws S_p vs ps sl res ∧ rxm159_8 S0 ws S_p vs ps sl res < rxm159_7 S0 ws S vs ps sl := by
  obtain ⟨h1, hg, hw, hf⟩ := hinv
  refine ⟨trivial, fun S_p res _ _ hq _ hsm => ⟨⟨?_, h1, hg, hw, rx_same_sub hf (by decide) hsm⟩, by unfold rxm159_7 rxm159_8; omega⟩⟩
  obtain ⟨c, hc, hr⟩ := hq
  simp only [List.cons.injEq, and_true, true_and] at hc
  simp only [Option.some.injEq] at hr
  omega
theorem rxs159_7 {X : (Nat → Int → Int) → Prop} {S0 : Nat → Int → Int} {ws : List Int} (hP : rxP159 S0 ws) : rx_obK X S0 rxC159.2.2.1 rxC110.2.2.1 (rxI159 S0 ws) (rxm159 S0 ws) 7 8 rxz159_7 rxz159_8 [.inr (3, (0, 0)), .inr (0, (0, (-3)))] (some 11) rxP110 rxPS110 := by
  intro S r hinv hXS I0 hin hs_ hf_
  have b_ := bx_bds_sat hs_
  have f_ := bx_fcl_ok hs_.1 hf_
  obtain ⟨⟨l8, u8⟩, ⟨l9, u9⟩, ⟨l10, u10⟩, -⟩ := b_
  have g := rxk159_7 hP hin I0 hinv l8 u8 l9 u9 l10 u10
  have ea : List.map (bx_num r) [.inr (3, (0, 0)), .inr (0, (0, (-3)))] = [0, -3] := by
    simp only [List.map_cons, List.map_nil, bx_xv_ok hs_.1]
    rfl
  rw [ea]
  refine ⟨g.1, fun S_p w r_p hPS hX_p I1 hsm hr hw hs_p => ?_⟩
  have hw := hw _ rfl
  subst hw
  have b_p := hs_p.2.2 11 _ _ rfl
  have g2 := g.2 S_p (r_p 11) b_p.1 b_p.2 hPS I1 hsm
  show rxI159_8 S0 ws S_p (r_p 8) (r_p 9) (r_p 10) (r_p 11) ∧ rxm159_8 S0 ws S_p (r_p 8) (r_p 9) (r_p 10) (r_p 11) < _
  rw [hr 8 (by decide), hr 9 (by decide), hr 10 (by decide)]
  exact g2
theorem rxk159_9 {S0 : Nat → Int → Int} {ws : List Int} {S : Nat → Int → Int} {vs ps sl : Int} (hP : rxP159 S0 ws) (hin : bx_same rxL (bx_mdl rxC159.2.2.1) S0 S) (I0 : bx_Inv rxL S) (hinv : rxI159_9 S0 ws S vs ps sl) (l8 : 0 ≤ vs) (u8 : vs ≤ 11) (l9 : 0 ≤ ps) (u9 : ps ≤ 7) (l10 : (-1) ≤ sl) (u10 : sl ≤ 2147483647) : rxP110 S [0, (-5)] ∧ ∀ (S_p : Nat → Int → Int) (res : Int), (-6) ≤ res → res ≤ (-1) → rxPS110 S [0, (-5)] S_p (some res) → bx_Inv rxL S_p → bx_same rxL (bx_mdl rxC110.2.2.1) S S_p → rxI159_10 S0 ws S_p vs ps sl res ∧ rxm159_10 S0 ws S_p vs ps sl res < rxm159_9 S0 ws S vs ps sl := by
  obtain ⟨h1, hg, hw, hf⟩ := hinv
  refine ⟨trivial, fun S_p res _ _ hq _ hsm => ⟨⟨?_, h1, hg, hw, rx_same_sub hf (by decide) hsm⟩, by unfold rxm159_9 rxm159_10; omega⟩⟩
  obtain ⟨c, hc, hr⟩ := hq
  simp only [List.cons.injEq, and_true, true_and] at hc
  simp only [Option.some.injEq] at hr
  omega
theorem rxs159_9 {X : (Nat → Int → Int) → Prop} {S0 : Nat → Int → Int} {ws : List Int} (hP : rxP159 S0 ws) : rx_obK X S0 rxC159.2.2.1 rxC110.2.2.1 (rxI159 S0 ws) (rxm159 S0 ws) 9 10 rxz159_9 rxz159_10 [.inr (3, (0, 0)), .inr (0, (0, (-5)))] (some 11) rxP110 rxPS110 := by
  intro S r hinv hXS I0 hin hs_ hf_
  have b_ := bx_bds_sat hs_
  have f_ := bx_fcl_ok hs_.1 hf_
  obtain ⟨⟨l8, u8⟩, ⟨l9, u9⟩, ⟨l10, u10⟩, -⟩ := b_
  have g := rxk159_9 hP hin I0 hinv l8 u8 l9 u9 l10 u10
  have ea : List.map (bx_num r) [.inr (3, (0, 0)), .inr (0, (0, (-5)))] = [0, -5] := by
    simp only [List.map_cons, List.map_nil, bx_xv_ok hs_.1]
    rfl
  rw [ea]
  refine ⟨g.1, fun S_p w r_p hPS hX_p I1 hsm hr hw hs_p => ?_⟩
  have hw := hw _ rfl
  subst hw
  have b_p := hs_p.2.2 11 _ _ rfl
  have g2 := g.2 S_p (r_p 11) b_p.1 b_p.2 hPS I1 hsm
  show rxI159_10 S0 ws S_p (r_p 8) (r_p 9) (r_p 10) (r_p 11) ∧ rxm159_10 S0 ws S_p (r_p 8) (r_p 9) (r_p 10) (r_p 11) < _
  rw [hr 8 (by decide), hr 9 (by decide), hr 10 (by decide)]
  exact g2
theorem rxk159_11 {S0 : Nat → Int → Int} {ws : List Int} {S : Nat → Int → Int} {vs ps sl pa : Int} (hP : rxP159 S0 ws) (hin : bx_same rxL (bx_mdl rxC159.2.2.1) S0 S) (I0 : bx_Inv rxL S) (hinv : rxI159_11 S0 ws S vs ps sl pa) (l8 : 0 ≤ vs) (u8 : vs ≤ 10) (l9 : 0 ≤ ps) (u9 : ps ≤ 7) (l10 : (-1) ≤ sl) (u10 : sl ≤ 2147483647) (l11 : 0 ≤ pa) (u11 : pa ≤ 5) : rxPADV S [1, pa, ps, vs] ∧ ∀ (S_p : Nat → Int → Int) (res : Int), (-1) ≤ res → res ≤ 11 → rxPSADV S [1, pa, ps, vs] S_p (some res) → bx_Inv rxL S_p → bx_same rxL (bx_mdl rxCADV.2.2.1) S S_p → rxI159_12 S0 ws S_p vs ps sl pa res ∧ rxm159_12 S0 ws S_p vs ps sl pa res < rxm159_11 S0 ws S vs ps sl pa := by
  obtain ⟨hm, hg, hw, hf⟩ := hinv
  refine ⟨trivial, fun S_p res _ _ hq _ hsm => ⟨?_, by unfold rxm159_11 rxm159_12; omega⟩⟩
  have b5 : 0 ≤ S 1 5 ∧ S 1 5 ≤ 12 := I0 1 5 (by decide) (by decide)
  have e5 : S 1 5 = S0 1 5 := hf 1 5 (by decide) (by decide) (by decide +kernel)
  obtain ⟨pa2, ps2, te2, hw3, h⟩ := hq
  have k0 : pa = pa2 := Option.some.inj (congrArg (fun l : List Int => l[1]?) hw3)
  have k1 : ps = ps2 := Option.some.inj (congrArg (fun l : List Int => l[2]?) hw3)
  have k2 : vs = te2 := Option.some.inj (congrArg (fun l : List Int => l[3]?) hw3)
  subst k0
  subst k1
  subst k2
  rcases h with ⟨h, -⟩ | ⟨h, hr, h5, r9, r10, r11, k1, k2, f146, f282, f147, f283, f148, f284⟩
  · exfalso
    omega
  · exact ⟨⟨(Option.some.inj hr).trans e5, by have := Option.some.inj hr; omega⟩, hm, hg, hw, by omega, fun i i0 i1 => by rw [r9 i i0 i1, e5, rx_sameR2 hf (p := 9) (tc := 0) (n := 12) (g := 6) rfl (by omega) (by decide +kernel) (by decide +kernel) i0 i1], fun i i0 i1 => by rw [r10 i i0 i1, e5, rx_sameR2 hf (p := 10) (tc := 0) (n := 12) (g := 7) rfl (by omega) (by decide +kernel) (by decide +kernel) i0 i1], fun i i0 i1 => by rw [r11 i i0 i1, e5, rx_sameR2 hf (p := 11) (tc := 0) (n := 12) (g := 8) rfl (by omega) (by decide +kernel) (by decide +kernel) i0 i1], k1.trans (hf 138 5 (by decide) (by decide) (by decide +kernel)), k2.trans (hf 274 5 (by decide) (by decide) (by decide +kernel)), fun i i0 i1 => (f146 i i0 i1).trans (rx_sameR2 hf (p := 146) (tc := 0) (n := 12) (g := 6) rfl (by omega) (by decide +kernel) (by decide +kernel) i0 i1), fun i i0 i1 => (f282 i i0 i1).trans (rx_sameR2 hf (p := 282) (tc := 0) (n := 12) (g := 6) rfl (by omega) (by decide +kernel) (by decide +kernel) i0 i1), fun i i0 i1 => (f147 i i0 i1).trans (rx_sameR2 hf (p := 147) (tc := 0) (n := 12) (g := 7) rfl (by omega) (by decide +kernel) (by decide +kernel) i0 i1), fun i i0 i1 => (f283 i i0 i1).trans (rx_sameR2 hf (p := 283) (tc := 0) (n := 12) (g := 7) rfl (by omega) (by decide +kernel) (by decide +kernel) i0 i1), fun i i0 i1 => (f148 i i0 i1).trans (rx_sameR2 hf (p := 148) (tc := 0) (n := 12) (g := 8) rfl (by omega) (by decide +kernel) (by decide +kernel) i0 i1), fun i i0 i1 => (f284 i i0 i1).trans (rx_sameR2 hf (p := 284) (tc := 0) (n := 12) (g := 8) rfl (by omega) (by decide +kernel) (by decide +kernel) i0 i1)⟩
theorem rxs159_11 {X : (Nat → Int → Int) → Prop} {S0 : Nat → Int → Int} {ws : List Int} (hP : rxP159 S0 ws) : rx_obK X S0 rxC159.2.2.1 rxCADV.2.2.1 (rxI159 S0 ws) (rxm159 S0 ws) 11 12 rxz159_11 rxz159_12 [.inr (3, (0, 1)), .inr (0, (11, 0)), .inr (0, (9, 0)), .inr (0, (8, 0))] (some 12) rxPADV rxPSADV := by
  intro S r hinv hXS I0 hin hs_ hf_
  have b_ := bx_bds_sat hs_
  have f_ := bx_fcl_ok hs_.1 hf_
  obtain ⟨⟨l8, u8⟩, ⟨l9, u9⟩, ⟨l10, u10⟩, ⟨l11, u11⟩, -⟩ := b_
  have g := rxk159_11 hP hin I0 hinv l8 u8 l9 u9 l10 u10 l11 u11
  have ea : List.map (bx_num r) [.inr (3, (0, 1)), .inr (0, (11, 0)), .inr (0, (9, 0)), .inr (0, (8, 0))] = [1, (r 11), (r 9), (r 8)] := by
    simp only [List.map_cons, List.map_nil, bx_xv_ok hs_.1]
    rfl
  rw [ea]
  refine ⟨g.1, fun S_p w r_p hPS hX_p I1 hsm hr hw hs_p => ?_⟩
  have hw := hw _ rfl
  subst hw
  have b_p := hs_p.2.2 12 _ _ rfl
  have g2 := g.2 S_p (r_p 12) b_p.1 b_p.2 hPS I1 hsm
  show rxI159_12 S0 ws S_p (r_p 8) (r_p 9) (r_p 10) (r_p 11) (r_p 12) ∧ rxm159_12 S0 ws S_p (r_p 8) (r_p 9) (r_p 10) (r_p 11) (r_p 12) < _
  rw [hr 8 (by decide), hr 9 (by decide), hr 10 (by decide), hr 11 (by decide)]
  exact g2
theorem rxc159_0_0 {S0 : Nat → Int → Int} {ws : List Int} {S : Nat → Int → Int} {vs ps sl : Int} (hP : rxP159 S0 ws) (hin : bx_same rxL (bx_mdl rxC159.2.2.1) S0 S) (I0 : bx_Inv rxL S) (hinv : rxI159_0 S0 ws S vs ps sl) (l8 : (-2147483648) ≤ vs) (u8 : vs ≤ 2147483647) (l9 : (-2147483648) ≤ ps) (u9 : ps ≤ 2147483647) (l10 : (-2147483648) ≤ sl) (u10 : sl ≤ (-2)) : (True) ∧ (True) ∧ rxI159_1 S0 ws S vs ps sl ∧ rxm159_1 S0 ws S vs ps sl < rxm159_0 S0 ws S vs ps sl := by
  obtain ⟨rfl, hw⟩ := hinv
  exact ⟨trivial, trivial, ⟨by omega, hw, fun _ _ _ _ _ => rfl⟩, by unfold rxm159_0 rxm159_1; omega⟩
theorem rxg159_0_0 {X : (Nat → Int → Int) → Prop} {S0 : Nat → Int → Int} {ws : List Int} (hP : rxP159 S0 ws) : bx_obC rxL X S0 rxC159.2.2.1 (rxI159 S0 ws) (rxm159 S0 ws) 0 rxz159_0 rxo159_0_0 := by
  intro S S_p r r_p hinv hX hin hsm_ hseg
  obtain ⟨I0, I1, h0_, hr_, b_, f_, d_⟩ := bx_cl (evs := []) (fvs := []) hseg (by decide +kernel) (by decide +kernel)
  have hinv : rxI159_0 S0 ws S (r 8) (r 9) (r 10) := hinv
  rw [← hr_ 8 (by decide), ← hr_ 9 (by decide), ← hr_ 10 (by decide)] at hinv
  obtain ⟨⟨l8, u8⟩, ⟨l9, u9⟩, ⟨l10, u10⟩, -⟩ := b_
  have w_ := d_
  subst w_
  have g := rxc159_0_0 hP hin I0 hinv l8 u8 l9 u9 l10 u10
  refine ⟨bx_narP_ok (l := []) g.1, bx_nfP_ok h0_ (fvs := []) (by decide +kernel) g.2.1, ?_, ?_⟩
  · show rxI159_1 S0 ws S_p (bx_val [(0, 0), (0, 0), (0, 0), (0, 0), (0, 0), (0, 0), (0, 0), (0, 0), (8, 0), (9, 0), (10, 0)] r_p 8) (bx_val [(0, 0), (0, 0), (0, 0), (0, 0), (0, 0), (0, 0), (0, 0), (0, 0), (8, 0), (9, 0), (10, 0)] r_p 9) (bx_val [(0, 0), (0, 0), (0, 0), (0, 0), (0, 0), (0, 0), (0, 0), (0, 0), (8, 0), (9, 0), (10, 0)] r_p 10)
    rw [bx_val_x (n := 8) (e := (8, 0)) h0_ rfl, bx_val_x (n := 9) (e := (9, 0)) h0_ rfl, bx_val_x (n := 10) (e := (10, 0)) h0_ rfl]
    exact g.2.2.1
  · show rxm159_1 S0 ws S_p (bx_val [(0, 0), (0, 0), (0, 0), (0, 0), (0, 0), (0, 0), (0, 0), (0, 0), (8, 0), (9, 0), (10, 0)] r_p 8) (bx_val [(0, 0), (0, 0), (0, 0), (0, 0), (0, 0), (0, 0), (0, 0), (0, 0), (8, 0), (9, 0), (10, 0)] r_p 9) (bx_val [(0, 0), (0, 0), (0, 0), (0, 0), (0, 0), (0, 0), (0, 0), (0, 0), (8, 0), (9, 0), (10, 0)] r_p 10) < rxm159_0 S0 ws S_p (r 8) (r 9) (r 10)
    rw [bx_val_x (n := 8) (e := (8, 0)) h0_ rfl, bx_val_x (n := 9) (e := (9, 0)) h0_ rfl, bx_val_x (n := 10) (e := (10, 0)) h0_ rfl, ← hr_ 8 (by decide), ← hr_ 9 (by decide), ← hr_ 10 (by decide)]
    exact g.2.2.2
theorem rxc159_0_1 {S0 : Nat → Int → Int} {ws : List Int} {S : Nat → Int → Int} {vs ps sl : Int} (hP : rxP159 S0 ws) (hin : bx_same rxL (bx_mdl rxC159.2.2.1) S0 S) (I0 : bx_Inv rxL S) (hinv : rxI159_0 S0 ws S vs ps sl) (l8 : (-2147483648) ≤ vs) (u8 : vs ≤ (-1)) (l9 : (-2147483648) ≤ ps) (u9 : ps ≤ 2147483647) (l10 : (-1) ≤ sl) (u10 : sl ≤ 2147483647) : (True) ∧ (True) ∧ rxI159_3 S0 ws S vs ps sl ∧ rxm159_3 S0 ws S vs ps sl < rxm159_0 S0 ws S vs ps sl := by
  obtain ⟨rfl, hw⟩ := hinv
  exact ⟨trivial, trivial, ⟨⟨by omega, by omega⟩, hw, fun _ _ _ _ _ => rfl⟩, by unfold rxm159_0 rxm159_3; omega⟩
theorem rxg159_0_1 {X : (Nat → Int → Int) → Prop} {S0 : Nat → Int → Int} {ws : List Int} (hP : rxP159 S0 ws) : bx_obC rxL X S0 rxC159.2.2.1 (rxI159 S0 ws) (rxm159 S0 ws) 0 rxz159_0 rxo159_0_1 := by
  intro S S_p r r_p hinv hX hin hsm_ hseg
  obtain ⟨I0, I1, h0_, hr_, b_, f_, d_⟩ := bx_cl (evs := []) (fvs := []) hseg (by decide +kernel) (by decide +kernel)
  have hinv : rxI159_0 S0 ws S (r 8) (r 9) (r 10) := hinv
  rw [← hr_ 8 (by decide), ← hr_ 9 (by decide), ← hr_ 10 (by decide)] at hinv
  obtain ⟨⟨l8, u8⟩, ⟨l9, u9⟩, ⟨l10, u10⟩, -⟩ := b_
  have w_ := d_
  subst w_
  have g := rxc159_0_1 hP hin I0 hinv l8 u8 l9 u9 l10 u10
  refine ⟨bx_narP_ok (l := []) g.1, bx_nfP_ok h0_ (fvs := []) (by decide +kernel) g.2.1, ?_, ?_⟩
  · show rxI159_3 S0 ws S_p (bx_val [(0, 0), (0, 0), (0, 0), (0, 0), (0, 0), (0, 0), (0, 0), (0, 0), (8, 0), (9, 0), (10, 0)] r_p 8) (bx_val [(0, 0), (0, 0), (0, 0), (0, 0), (0, 0), (0, 0), (0, 0), (0, 0), (8, 0), (9, 0), (10, 0)] r_p 9) (bx_val [(0, 0), (0, 0), (0, 0), (0, 0), (0, 0), (0, 0), (0, 0), (0, 0), (8, 0), (9, 0), (10, 0)] r_p 10)
    rw [bx_val_x (n := 8) (e := (8, 0)) h0_ rfl, bx_val_x (n := 9) (e := (9, 0)) h0_ rfl, bx_val_x (n := 10) (e := (10, 0)) h0_ rfl]
    exact g.2.2.1
  · show rxm159_3 S0 ws S_p (bx_val [(0, 0), (0, 0), (0, 0), (0, 0), (0, 0), (0, 0), (0, 0), (0, 0), (8, 0), (9, 0), (10, 0)] r_p 8) (bx_val [(0, 0), (0, 0), (0, 0), (0, 0), (0, 0), (0, 0), (0, 0), (0, 0), (8, 0), (9, 0), (10, 0)] r_p 9) (bx_val [(0, 0), (0, 0), (0, 0), (0, 0), (0, 0), (0, 0), (0, 0), (0, 0), (8, 0), (9, 0), (10, 0)] r_p 10) < rxm159_0 S0 ws S_p (r 8) (r 9) (r 10)
    rw [bx_val_x (n := 8) (e := (8, 0)) h0_ rfl, bx_val_x (n := 9) (e := (9, 0)) h0_ rfl, bx_val_x (n := 10) (e := (10, 0)) h0_ rfl, ← hr_ 8 (by decide), ← hr_ 9 (by decide), ← hr_ 10 (by decide)]
    exact g.2.2.2
theorem rxc159_0_2 {S0 : Nat → Int → Int} {ws : List Int} {S : Nat → Int → Int} {vs ps sl x11 : Int} (hP : rxP159 S0 ws) (hin : bx_same rxL (bx_mdl rxC159.2.2.1) S0 S) (I0 : bx_Inv rxL S) (hinv : rxI159_0 S0 ws S vs ps sl) (l8 : 0 ≤ vs) (u8 : vs ≤ 2147483647) (l9 : (-2147483648) ≤ ps) (u9 : ps ≤ 2147483647) (l10 : (-1) ≤ sl) (u10 : sl ≤ 2147483647) (l11 : 0 ≤ x11) (u11 : x11 ≤ 12) (f0 : x11 ≤ vs) (e0 : S 1 5 = x11) : (True) ∧ (True) ∧ rxI159_3 S0 ws S vs ps sl ∧ rxm159_3 S0 ws S vs ps sl < rxm159_0 S0 ws S vs ps sl := by
  obtain ⟨rfl, hw⟩ := hinv
  exact ⟨trivial, trivial, ⟨⟨by omega, by omega⟩, hw, fun _ _ _ _ _ => rfl⟩, by unfold rxm159_0 rxm159_3; omega⟩
theorem rxg159_0_2 {X : (Nat → Int → Int) → Prop} {S0 : Nat → Int → Int} {ws : List Int} (hP : rxP159 S0 ws) : bx_obC rxL X S0 rxC159.2.2.1 (rxI159 S0 ws) (rxm159 S0 ws) 0 rxz159_0 rxo159_0_2 := by
  intro S S_p r r_p hinv hX hin hsm_ hseg
  obtain ⟨I0, I1, h0_, hr_, b_, f_, d_⟩ := bx_cl (evs := [(0, (0, 1), (0, 5), .inr (0, (11, 0)))]) (fvs := [(1, (11, 0), (8, 0), (0, 0))]) hseg (by decide +kernel) (by decide +kernel)
  have hinv : rxI159_0 S0 ws S (r 8) (r 9) (r 10) := hinv
  rw [← hr_ 8 (by decide), ← hr_ 9 (by decide), ← hr_ 10 (by decide)] at hinv
  obtain ⟨⟨l8, u8⟩, ⟨l9, u9⟩, ⟨l10, u10⟩, ⟨l11, u11⟩, -⟩ := b_
  obtain ⟨f0, -⟩ := f_
  obtain ⟨e0, w_⟩ := d_
  subst w_
  have g := rxc159_0_2 hP hin I0 hinv l8 u8 l9 u9 l10 u10 l11 u11 f0 e0
  refine ⟨bx_narP_ok (l := []) g.1, bx_nfP_ok h0_ (fvs := []) (by decide +kernel) g.2.1, ?_, ?_⟩
  · show rxI159_3 S0 ws S_p (bx_val [(0, 0), (0, 0), (0, 0), (0, 0), (0, 0), (0, 0), (0, 0), (0, 0), (8, 0), (9, 0), (10, 0)] r_p 8) (bx_val [(0, 0), (0, 0), (0, 0), (0, 0), (0, 0), (0, 0), (0, 0), (0, 0), (8, 0), (9, 0), (10, 0)] r_p 9) (bx_val [(0, 0), (0, 0), (0, 0), (0, 0), (0, 0), (0, 0), (0, 0), (0, 0), (8, 0), (9, 0), (10, 0)] r_p 10)
    rw [bx_val_x (n := 8) (e := (8, 0)) h0_ rfl, bx_val_x (n := 9) (e := (9, 0)) h0_ rfl, bx_val_x (n := 10) (e := (10, 0)) h0_ rfl]
    exact g.2.2.1
  · show rxm159_3 S0 ws S_p (bx_val [(0, 0), (0, 0), (0, 0), (0, 0), (0, 0), (0, 0), (0, 0), (0, 0), (8, 0), (9, 0), (10, 0)] r_p 8) (bx_val [(0, 0), (0, 0), (0, 0), (0, 0), (0, 0), (0, 0), (0, 0), (0, 0), (8, 0), (9, 0), (10, 0)] r_p 9) (bx_val [(0, 0), (0, 0), (0, 0), (0, 0), (0, 0), (0, 0), (0, 0), (0, 0), (8, 0), (9, 0), (10, 0)] r_p 10) < rxm159_0 S0 ws S_p (r 8) (r 9) (r 10)
    rw [bx_val_x (n := 8) (e := (8, 0)) h0_ rfl, bx_val_x (n := 9) (e := (9, 0)) h0_ rfl, bx_val_x (n := 10) (e := (10, 0)) h0_ rfl, ← hr_ 8 (by decide), ← hr_ 9 (by decide), ← hr_ 10 (by decide)]
    exact g.2.2.2
theorem rxc159_0_3 {S0 : Nat → Int → Int} {ws : List Int} {S : Nat → Int → Int} {vs ps sl x11 : Int} (hP : rxP159 S0 ws) (hin : bx_same rxL (bx_mdl rxC159.2.2.1) S0 S) (I0 : bx_Inv rxL S) (hinv : rxI159_0 S0 ws S vs ps sl) (l8 : 0 ≤ vs) (u8 : vs ≤ 11) (l9 : (-2147483648) ≤ ps) (u9 : ps ≤ (-1)) (l10 : (-1) ≤ sl) (u10 : sl ≤ 2147483647) (l11 : 1 ≤ x11) (u11 : x11 ≤ 12) (f0 : vs < x11) (e0 : S 1 5 = x11) : (True) ∧ (True) ∧ rxI159_3 S0 ws S vs ps sl ∧ rxm159_3 S0 ws S vs ps sl < rxm159_0 S0 ws S vs ps sl := by
  obtain ⟨rfl, hw⟩ := hinv
  exact ⟨trivial, trivial, ⟨⟨by omega, by omega⟩, hw, fun _ _ _ _ _ => rfl⟩, by unfold rxm159_0 rxm159_3; omega⟩
theorem rxg159_0_3 {X : (Nat → Int → Int) → Prop} {S0 : Nat → Int → Int} {ws : List Int} (hP : rxP159 S0 ws) : bx_obC rxL X S0 rxC159.2.2.1 (rxI159 S0 ws) (rxm159 S0 ws) 0 rxz159_0 rxo159_0_3 := by
  intro S S_p r r_p hinv hX hin hsm_ hseg
  obtain ⟨I0, I1, h0_, hr_, b_, f_, d_⟩ := bx_cl (evs := [(0, (0, 1), (0, 5), .inr (0, (11, 0)))]) (fvs := [(0, (8, 0), (11, 0), (0, 0))]) hseg (by decide +kernel) (by decide +kernel)
  have hinv : rxI159_0 S0 ws S (r 8) (r 9) (r 10) := hinv
  rw [← hr_ 8 (by decide), ← hr_ 9 (by decide), ← hr_ 10 (by decide)] at hinv
  obtain ⟨⟨l8, u8⟩, ⟨l9, u9⟩, ⟨l10, u10⟩, ⟨l11, u11⟩, -⟩ := b_
  obtain ⟨f0, -⟩ := f_
  obtain ⟨e0, w_⟩ := d_
  subst w_
  have g := rxc159_0_3 hP hin I0 hinv l8 u8 l9 u9 l10 u10 l11 u11 f0 e0
  refine ⟨bx_narP_ok (l := []) g.1, bx_nfP_ok h0_ (fvs := []) (by decide +kernel) g.2.1, ?_, ?_⟩
  · show rxI159_3 S0 ws S_p (bx_val [(0, 0), (0, 0), (0, 0), (0, 0), (0, 0), (0, 0), (0, 0), (0, 0), (8, 0), (9, 0), (10, 0)] r_p 8) (bx_val [(0, 0), (0, 0), (0, 0), (0, 0), (0, 0), (0, 0), (0, 0), (0, 0), (8, 0), (9, 0), (10, 0)] r_p 9) (bx_val [(0, 0), (0, 0), (0, 0), (0, 0), (0, 0), (0, 0), (0, 0), (0, 0), (8, 0), (9, 0), (10, 0)] r_p 10)
    rw [bx_val_x (n := 8) (e := (8, 0)) h0_ rfl, bx_val_x (n := 9) (e := (9, 0)) h0_ rfl, bx_val_x (n := 10) (e := (10, 0)) h0_ rfl]
    exact g.2.2.1
  · show rxm159_3 S0 ws S_p (bx_val [(0, 0), (0, 0), (0, 0), (0, 0), (0, 0), (0, 0), (0, 0), (0, 0), (8, 0), (9, 0), (10, 0)] r_p 8) (bx_val [(0, 0), (0, 0), (0, 0), (0, 0), (0, 0), (0, 0), (0, 0), (0, 0), (8, 0), (9, 0), (10, 0)] r_p 9) (bx_val [(0, 0), (0, 0), (0, 0), (0, 0), (0, 0), (0, 0), (0, 0), (0, 0), (8, 0), (9, 0), (10, 0)] r_p 10) < rxm159_0 S0 ws S_p (r 8) (r 9) (r 10)
    rw [bx_val_x (n := 8) (e := (8, 0)) h0_ rfl, bx_val_x (n := 9) (e := (9, 0)) h0_ rfl, bx_val_x (n := 10) (e := (10, 0)) h0_ rfl, ← hr_ 8 (by decide), ← hr_ 9 (by decide), ← hr_ 10 (by decide)]
    exact g.2.2.2
theorem rxc159_0_4 {S0 : Nat → Int → Int} {ws : List Int} {S : Nat → Int → Int} {vs ps sl x11 x12 : Int} (hP : rxP159 S0 ws) (hin : bx_same rxL (bx_mdl rxC159.2.2.1) S0 S) (I0 : bx_Inv rxL S) (hinv : rxI159_0 S0 ws S vs ps sl) (l8 : 0 ≤ vs) (u8 : vs ≤ 11) (l9 : 0 ≤ ps) (u9 : ps ≤ 2147483647) (l10 : (-1) ≤ sl) (u10 : sl ≤ 2147483647) (l11 : 1 ≤ x11) (u11 : x11 ≤ 12) (l12 : 0 ≤ x12) (u12 : x12 ≤ 8) (f0 : x12 ≤ ps) (f1 : vs < x11) (e1 : S 1 5 = x11) (e0 : S 5 0 = x12) : (True) ∧ (True) ∧ rxI159_3 S0 ws S vs ps sl ∧ rxm159_3 S0 ws S vs ps sl < rxm159_0 S0 ws S vs ps sl := by
  obtain ⟨rfl, hw⟩ := hinv
  exact ⟨trivial, trivial, ⟨⟨by omega, by omega⟩, hw, fun _ _ _ _ _ => rfl⟩, by unfold rxm159_0 rxm159_3; omega⟩
theorem rxg159_0_4 {X : (Nat → Int → Int) → Prop} {S0 : Nat → Int → Int} {ws : List Int} (hP : rxP159 S0 ws) : bx_obC rxL X S0 rxC159.2.2.1 (rxI159 S0 ws) (rxm159 S0 ws) 0 rxz159_0 rxo159_0_4 := by
  intro S S_p r r_p hinv hX hin hsm_ hseg
  obtain ⟨I0, I1, h0_, hr_, b_, f_, d_⟩ := bx_cl (evs := [(0, (0, 5), (0, 0), .inr (0, (12, 0))), (0, (0, 1), (0, 5), .inr (0, (11, 0)))]) (fvs := [(1, (12, 0), (9, 0), (0, 0)), (0, (8, 0), (11, 0), (0, 0))]) hseg (by decide +kernel) (by decide +kernel)
  have hinv : rxI159_0 S0 ws S (r 8) (r 9) (r 10) := hinv
  rw [← hr_ 8 (by decide), ← hr_ 9 (by decide), ← hr_ 10 (by decide)] at hinv
  obtain ⟨⟨l8, u8⟩, ⟨l9, u9⟩, ⟨l10, u10⟩, ⟨l11, u11⟩, ⟨l12, u12⟩, -⟩ := b_
  obtain ⟨f0, f1, -⟩ := f_
  obtain ⟨e0, ⟨e1, w_⟩⟩ := d_
  subst w_
  have g := rxc159_0_4 hP hin I0 hinv l8 u8 l9 u9 l10 u10 l11 u11 l12 u12 f0 f1 e1 e0
  refine ⟨bx_narP_ok (l := []) g.1, bx_nfP_ok h0_ (fvs := []) (by decide +kernel) g.2.1, ?_, ?_⟩
  · show rxI159_3 S0 ws S_p (bx_val [(0, 0), (0, 0), (0, 0), (0, 0), (0, 0), (0, 0), (0, 0), (0, 0), (8, 0), (9, 0), (10, 0)] r_p 8) (bx_val [(0, 0), (0, 0), (0, 0), (0, 0), (0, 0), (0, 0), (0, 0), (0, 0), (8, 0), (9, 0), (10, 0)] r_p 9) (bx_val [(0, 0), (0, 0), (0, 0), (0, 0), (0, 0), (0, 0), (0, 0), (0, 0), (8, 0), (9, 0), (10, 0)] r_p 10)
    rw [bx_val_x (n := 8) (e := (8, 0)) h0_ rfl, bx_val_x (n := 9) (e := (9, 0)) h0_ rfl, bx_val_x (n := 10) (e := (10, 0)) h0_ rfl]
    exact g.2.2.1
  · show rxm159_3 S0 ws S_p (bx_val [(0, 0), (0, 0), (0, 0), (0, 0), (0, 0), (0, 0), (0, 0), (0, 0), (8, 0), (9, 0), (10, 0)] r_p 8) (bx_val [(0, 0), (0, 0), (0, 0), (0, 0), (0, 0), (0, 0), (0, 0), (0, 0), (8, 0), (9, 0), (10, 0)] r_p 9) (bx_val [(0, 0), (0, 0), (0, 0), (0, 0), (0, 0), (0, 0), (0, 0), (0, 0), (8, 0), (9, 0), (10, 0)] r_p 10) < rxm159_0 S0 ws S_p (r 8) (r 9) (r 10)
    rw [bx_val_x (n := 8) (e := (8, 0)) h0_ rfl, bx_val_x (n := 9) (e := (9, 0)) h0_ rfl, bx_val_x (n := 10) (e := (10, 0)) h0_ rfl, ← hr_ 8 (by decide), ← hr_ 9 (by decide), ← hr_ 10 (by decide)]
    exact g.2.2.2
theorem rxc159_0_5 {S0 : Nat → Int → Int} {ws : List Int} {S : Nat → Int → Int} {vs ps sl x11 x12 : Int} (hP : rxP159 S0 ws) (hin : bx_same rxL (bx_mdl rxC159.2.2.1) S0 S) (I0 : bx_Inv rxL S) (hinv : rxI159_0 S0 ws S vs ps sl) (l8 : 0 ≤ vs) (u8 : vs ≤ 11) (l9 : 0 ≤ ps) (u9 : ps ≤ 7) (l10 : (-1) ≤ sl) (u10 : sl ≤ 2147483647) (l11 : 1 ≤ x11) (u11 : x11 ≤ 12) (l12 : 1 ≤ x12) (u12 : x12 ≤ 8) (f0 : ps < x12) (f1 : vs < x11) (e1 : S 1 5 = x11) (e0 : S 5 0 = x12) : (True) ∧ (True) ∧ rxI159_5 S0 ws S vs ps sl ∧ rxm159_5 S0 ws S vs ps sl < rxm159_0 S0 ws S vs ps sl := by
  obtain ⟨rfl, hw⟩ := hinv
  exact ⟨trivial, trivial, ⟨rfl, by omega, hw⟩, by unfold rxm159_0 rxm159_5; omega⟩
theorem rxg159_0_5 {X : (Nat → Int → Int) → Prop} {S0 : Nat → Int → Int} {ws : List Int} (hP : rxP159 S0 ws) : bx_obC rxL X S0 rxC159.2.2.1 (rxI159 S0 ws) (rxm159 S0 ws) 0 rxz159_0 rxo159_0_5 := by
  intro S S_p r r_p hinv hX hin hsm_ hseg
  obtain ⟨I0, I1, h0_, hr_, b_, f_, d_⟩ := bx_cl (evs := [(0, (0, 5), (0, 0), .inr (0, (12, 0))), (0, (0, 1), (0, 5), .inr (0, (11, 0)))]) (fvs := [(0, (9, 0), (12, 0), (0, 0)), (0, (8, 0), (11, 0), (0, 0))]) hseg (by decide +kernel) (by decide +kernel)
  have hinv : rxI159_0 S0 ws S (r 8) (r 9) (r 10) := hinv
  rw [← hr_ 8 (by decide), ← hr_ 9 (by decide), ← hr_ 10 (by decide)] at hinv
  obtain ⟨⟨l8, u8⟩, ⟨l9, u9⟩, ⟨l10, u10⟩, ⟨l11, u11⟩, ⟨l12, u12⟩, -⟩ := b_
  obtain ⟨f0, f1, -⟩ := f_
  obtain ⟨e0, ⟨e1, w_⟩⟩ := d_
  subst w_
  have g := rxc159_0_5 hP hin I0 hinv l8 u8 l9 u9 l10 u10 l11 u11 l12 u12 f0 f1 e1 e0
  refine ⟨bx_narP_ok (l := []) g.1, bx_nfP_ok h0_ (fvs := []) (by decide +kernel) g.2.1, ?_, ?_⟩
  · show rxI159_5 S0 ws S_p (bx_val [(0, 0), (0, 0), (0, 0), (0, 0), (0, 0), (0, 0), (0, 0), (0, 0), (8, 0), (9, 0), (10, 0)] r_p 8) (bx_val [(0, 0), (0, 0), (0, 0), (0, 0), (0, 0), (0, 0), (0, 0), (0, 0), (8, 0), (9, 0), (10, 0)] r_p 9) (bx_val [(0, 0), (0, 0), (0, 0), (0, 0), (0, 0), (0, 0), (0, 0), (0, 0), (8, 0), (9, 0), (10, 0)] r_p 10)
    rw [bx_val_x (n := 8) (e := (8, 0)) h0_ rfl, bx_val_x (n := 9) (e := (9, 0)) h0_ rfl, bx_val_x (n := 10) (e := (10, 0)) h0_ rfl]
    exact g.2.2.1
  · show rxm159_5 S0 ws S_p (bx_val [(0, 0), (0, 0), (0, 0), (0, 0), (0, 0), (0, 0), (0, 0), (0, 0), (8, 0), (9, 0), (10, 0)] r_p 8) (bx_val [(0, 0), (0, 0), (0, 0), (0, 0), (0, 0), (0, 0), (0, 0), (0, 0), (8, 0), (9, 0), (10, 0)] r_p 9) (bx_val [(0, 0), (0, 0), (0, 0), (0, 0), (0, 0), (0, 0), (0, 0), (0, 0), (8, 0), (9, 0), (10, 0)] r_p 10) < rxm159_0 S0 ws S_p (r 8) (r 9) (r 10)
    rw [bx_val_x (n := 8) (e := (8, 0)) h0_ rfl, bx_val_x (n := 9) (e := (9, 0)) h0_ rfl, bx_val_x (n := 10) (e := (10, 0)) h0_ rfl, ← hr_ 8 (by decide), ← hr_ 9 (by decide), ← hr_ 10 (by decide)]
    exact g.2.2.2
theorem rxd159_2_0 {S0 : Nat → Int → Int} {ws : List Int} {S : Nat → Int → Int} {vs ps sl res : Int} (hP : rxP159 S0 ws) (hin : bx_same rxL (bx_mdl rxC159.2.2.1) S0 S) (hin2 : bx_same rxL (bx_mdl rxC159.2.2.1) S S) (I0 : bx_Inv rxL S) (I1 : bx_Inv rxL S) (hinv : rxI159_2 S0 ws S vs ps sl res) (l8 : (-2147483648) ≤ vs) (u8 : vs ≤ 2147483647) (l9 : (-2147483648) ≤ ps) (u9 : ps ≤ 2147483647) (l10 : (-2147483648) ≤ sl) (u10 : sl ≤ 2147483647) (l11 : (-6) ≤ res) (u11 : res ≤ (-1)) : (True) ∧ rxPS159 S0 ws S (some res) := by
  obtain ⟨h1, hg, hw, hf⟩ := hinv
  exact ⟨trivial, vs, ps, sl, hw, Or.inl ⟨hg, congrArg some h1, hf⟩⟩
theorem rxf159_2_0 {X : (Nat → Int → Int) → Prop} {S0 : Nat → Int → Int} {ws : List Int} (hP : rxP159 S0 ws) : bx_obE rxL X S0 rxC159.2.2.1 (rxI159 S0 ws) (rxPS159 S0 ws) 2 rxz159_2 rxe159_2_0 := by
  intro S S_p r r_p hinv hX hin hsm_ hseg
  obtain ⟨I0, I1, h0_, hr_, b_, f_, d_⟩ := bx_cl (evs := []) (fvs := []) hseg (by decide +kernel) (by decide +kernel)
  have hinv : rxI159_2 S0 ws S (r 8) (r 9) (r 10) (r 11) := hinv
  rw [← hr_ 8 (by decide), ← hr_ 9 (by decide), ← hr_ 10 (by decide), ← hr_ 11 (by decide)] at hinv
  obtain ⟨⟨l8, u8⟩, ⟨l9, u9⟩, ⟨l10, u10⟩, ⟨l11, u11⟩, -⟩ := b_
  have w_ := d_
  subst w_
  have g := rxd159_2_0 hP hin hsm_ I0 I1 hinv l8 u8 l9 u9 l10 u10 l11 u11
  refine ⟨bx_narP_ok (l := []) g.1, ?_⟩
  show rxPS159 S0 ws S_p (some (bx_num r_p (.inr (0, (11, 0)))))
  rw [bx_xv_ok h0_]
  exact g.2
theorem rxd159_4_0 {S0 : Nat → Int → Int} {ws : List Int} {S : Nat → Int → Int} {vs ps sl res : Int} (hP : rxP159 S0 ws) (hin : bx_same rxL (bx_mdl rxC159.2.2.1) S0 S) (hin2 : bx_same rxL (bx_mdl rxC159.2.2.1) S S) (I0 : bx_Inv rxL S) (I1 : bx_Inv rxL S) (hinv : rxI159_4 S0 ws S vs ps sl res) (l8 : (-2147483648) ≤ vs) (u8 : vs ≤ 2147483647) (l9 : (-2147483648) ≤ ps) (u9 : ps ≤ 2147483647) (l10 : (-1) ≤ sl) (u10 : sl ≤ 2147483647) (l11 : (-6) ≤ res) (u11 : res ≤ (-1)) : (True) ∧ rxPS159 S0 ws S (some res) := by
  obtain ⟨h1, hg, hw, hf⟩ := hinv
  exact ⟨trivial, vs, ps, sl, hw, Or.inr (Or.inl ⟨hg, congrArg some h1, hf⟩)⟩
theorem rxf159_4_0 {X : (Nat → Int → Int) → Prop} {S0 : Nat → Int → Int} {ws : List Int} (hP : rxP159 S0 ws) : bx_obE rxL X S0 rxC159.2.2.1 (rxI159 S0 ws) (rxPS159 S0 ws) 4 rxz159_4 rxe159_4_0 := by
  intro S S_p r r_p hinv hX hin hsm_ hseg
  obtain ⟨I0, I1, h0_, hr_, b_, f_, d_⟩ := bx_cl (evs := []) (fvs := []) hseg (by decide +kernel) (by decide +kernel)
  have hinv : rxI159_4 S0 ws S (r 8) (r 9) (r 10) (r 11) := hinv
  rw [← hr_ 8 (by decide), ← hr_ 9 (by decide), ← hr_ 10 (by decide), ← hr_ 11 (by decide)] at hinv
  obtain ⟨⟨l8, u8⟩, ⟨l9, u9⟩, ⟨l10, u10⟩, ⟨l11, u11⟩, -⟩ := b_
  have w_ := d_
  subst w_
  have g := rxd159_4_0 hP hin hsm_ I0 I1 hinv l8 u8 l9 u9 l10 u10 l11 u11
  refine ⟨bx_narP_ok (l := []) g.1, ?_⟩
  show rxPS159 S0 ws S_p (some (bx_num r_p (.inr (0, (11, 0)))))
  rw [bx_xv_ok h0_]
  exact g.2
theorem rxc159_6_0 {S0 : Nat → Int → Int} {ws : List Int} {S : Nat → Int → Int} {vs ps sl r : Int} (hP : rxP159 S0 ws) (hin : bx_same rxL (bx_mdl rxC159.2.2.1) S0 S) (I0 : bx_Inv rxL S) (hinv : rxI159_6 S0 ws S vs ps sl r) (l8 : 0 ≤ vs) (u8 : vs ≤ 11) (l9 : 0 ≤ ps) (u9 : ps ≤ 7) (l10 : (-1) ≤ sl) (u10 : sl ≤ 2147483647) (l11 : 0 ≤ r) (u11 : r ≤ 0) : (True) ∧ (True) ∧ rxI159_7 S0 ws S vs ps sl ∧ rxm159_7 S0 ws S vs ps sl < rxm159_6 S0 ws S vs ps sl r := by
  obtain ⟨hr, hg, hw, hf⟩ := hinv
  refine ⟨trivial, trivial, ⟨?_, hg, hw, hf⟩, by unfold rxm159_6 rxm159_7; omega⟩
  rcases hr with ⟨h, -⟩ | ⟨-, h⟩
  · exfalso
    omega
  · exact h
theorem rxg159_6_0 {X : (Nat → Int → Int) → Prop} {S0 : Nat → Int → Int} {ws : List Int} (hP : rxP159 S0 ws) : bx_obC rxL X S0 rxC159.2.2.1 (rxI159 S0 ws) (rxm159 S0 ws) 6 rxz159_6 rxo159_6_0 := by
  intro S S_p r r_p hinv hX hin hsm_ hseg
  obtain ⟨I0, I1, h0_, hr_, b_, f_, d_⟩ := bx_cl (evs := []) (fvs := []) hseg (by decide +kernel) (by decide +kernel)
  have hinv : rxI159_6 S0 ws S (r 8) (r 9) (r 10) (r 11) := hinv
  rw [← hr_ 8 (by decide), ← hr_ 9 (by decide), ← hr_ 10 (by decide), ← hr_ 11 (by decide)] at hinv
  obtain ⟨⟨l8, u8⟩, ⟨l9, u9⟩, ⟨l10, u10⟩, ⟨l11, u11⟩, -⟩ := b_
  have w_ := d_
  subst w_
  have g := rxc159_6_0 hP hin I0 hinv l8 u8 l9 u9 l10 u10 l11 u11
  refine ⟨bx_narP_ok (l := []) g.1, bx_nfP_ok h0_ (fvs := []) (by decide +kernel) g.2.1, ?_, ?_⟩
  · show rxI159_7 S0 ws S_p (bx_val [(0, 0), (0, 0), (0, 0), (0, 0), (0, 0), (0, 0), (0, 0), (0, 0), (8, 0), (9, 0), (10, 0)] r_p 8) (bx_val [(0, 0), (0, 0), (0, 0), (0, 0), (0, 0), (0, 0), (0, 0), (0, 0), (8, 0), (9, 0), (10, 0)] r_p 9) (bx_val [(0, 0), (0, 0), (0, 0), (0, 0), (0, 0), (0, 0), (0, 0), (0, 0), (8, 0), (9, 0), (10, 0)] r_p 10)
    rw [bx_val_x (n := 8) (e := (8, 0)) h0_ rfl, bx_val_x (n := 9) (e := (9, 0)) h0_ rfl, bx_val_x (n := 10) (e := (10, 0)) h0_ rfl]
    exact g.2.2.1
  · show rxm159_7 S0 ws S_p (bx_val [(0, 0), (0, 0), (0, 0), (0, 0), (0, 0), (0, 0), (0, 0), (0, 0), (8, 0), (9, 0), (10, 0)] r_p 8) (bx_val [(0, 0), (0, 0), (0, 0), (0, 0), (0, 0), (0, 0), (0, 0), (0, 0), (8, 0), (9, 0), (10, 0)] r_p 9) (bx_val [(0, 0), (0, 0), (0, 0), (0, 0), (0, 0), (0, 0), (0, 0), (0, 0), (8, 0), (9, 0), (10, 0)] r_p 10) < rxm159_6 S0 ws S_p (r 8) (r 9) (r 10) (r 11)
    rw [bx_val_x (n := 8) (e := (8, 0)) h0_ rfl, bx_val_x (n := 9) (e := (9, 0)) h0_ rfl, bx_val_x (n := 10) (e := (10, 0)) h0_ rfl, ← hr_ 8 (by decide), ← hr_ 9 (by decide), ← hr_ 10 (by decide), ← hr_ 11 (by decide)]
    exact g.2.2.2
theorem rxc159_6_1 {S0 : Nat → Int → Int} {ws : List Int} {S : Nat → Int → Int} {vs ps sl r x12 : Int} (hP : rxP159 S0 ws) (hin : bx_same rxL (bx_mdl rxC159.2.2.1) S0 S) (I0 : bx_Inv rxL S) (hinv : rxI159_6 S0 ws S vs ps sl r) (l8 : 0 ≤ vs) (u8 : vs ≤ 11) (l9 : 0 ≤ ps) (u9 : ps ≤ 7) (l10 : (-1) ≤ sl) (u10 : sl ≤ 2147483647) (l11 : 1 ≤ r) (u11 : r ≤ 1) (l12 : 12 ≤ x12) (u12 : x12 ≤ 12) (f0 : r ≠ 0) (e0 : S 1 5 = x12) : (True) ∧ (True) ∧ rxI159_9 S0 ws S vs ps sl ∧ rxm159_9 S0 ws S vs ps sl < rxm159_6 S0 ws S vs ps sl r := by
  obtain ⟨hr, hg, hw, hf⟩ := hinv
  have e5 : S 1 5 = S0 1 5 := hf 1 5 (by decide) (by decide) (by decide +kernel)
  refine ⟨trivial, trivial, ⟨⟨?_, by omega⟩, hg, hw, hf⟩, by unfold rxm159_6 rxm159_9; omega⟩
  rcases hr with ⟨-, h⟩ | ⟨h, -⟩
  · exact h
  · exfalso
    omega
theorem rxg159_6_1 {X : (Nat → Int → Int) → Prop} {S0 : Nat → Int → Int} {ws : List Int} (hP : rxP159 S0 ws) : bx_obC rxL X S0 rxC159.2.2.1 (rxI159 S0 ws) (rxm159 S0 ws) 6 rxz159_6 rxo159_6_1 := by
  intro S S_p r r_p hinv hX hin hsm_ hseg
  obtain ⟨I0, I1, h0_, hr_, b_, f_, d_⟩ := bx_cl (evs := [(0, (0, 1), (0, 5), .inr (0, (12, 0)))]) (fvs := [(3, (11, 0), (0, 0), (0, 0))]) hseg (by decide +kernel) (by decide +kernel)
  have hinv : rxI159_6 S0 ws S (r 8) (r 9) (r 10) (r 11) := hinv
  rw [← hr_ 8 (by decide), ← hr_ 9 (by decide), ← hr_ 10 (by decide), ← hr_ 11 (by decide)] at hinv
  obtain ⟨⟨l8, u8⟩, ⟨l9, u9⟩, ⟨l10, u10⟩, ⟨l11, u11⟩, ⟨l12, u12⟩, -⟩ := b_
  obtain ⟨f0, -⟩ := f_
  obtain ⟨e0, w_⟩ := d_
  subst w_
  have g := rxc159_6_1 hP hin I0 hinv l8 u8 l9 u9 l10 u10 l11 u11 l12 u12 f0 e0
  refine ⟨bx_narP_ok (l := []) g.1, bx_nfP_ok h0_ (fvs := []) (by decide +kernel) g.2.1, ?_, ?_⟩
  · show rxI159_9 S0 ws S_p (bx_val [(0, 0), (0, 0), (0, 0), (0, 0), (0, 0), (0, 0), (0, 0), (0, 0), (8, 0), (9, 0), (10, 0)] r_p 8) (bx_val [(0, 0), (0, 0), (0, 0), (0, 0), (0, 0), (0, 0), (0, 0), (0, 0), (8, 0), (9, 0), (10, 0)] r_p 9) (bx_val [(0, 0), (0, 0), (0, 0), (0, 0), (0, 0), (0, 0), (0, 0), (0, 0), (8, 0), (9, 0), (10, 0)] r_p 10)
    rw [bx_val_x (n := 8) (e := (8, 0)) h0_ rfl, bx_val_x (n := 9) (e := (9, 0)) h0_ rfl, bx_val_x (n := 10) (e := (10, 0)) h0_ rfl]
    exact g.2.2.1
  · show rxm159_9 S0 ws S_p (bx_val [(0, 0), (0, 0), (0, 0), (0, 0), (0, 0), (0, 0), (0, 0), (0, 0), (8, 0), (9, 0), (10, 0)] r_p 8) (bx_val [(0, 0), (0, 0), (0, 0), (0, 0), (0, 0), (0, 0), (0, 0), (0, 0), (8, 0), (9, 0), (10, 0)] r_p 9) (bx_val [(0, 0), (0, 0), (0, 0), (0, 0), (0, 0), (0, 0), (0, 0), (0, 0), (8, 0), (9, 0), (10, 0)] r_p 10) < rxm159_6 S0 ws S_p (r 8) (r 9) (r 10) (r 11)
    rw [bx_val_x (n := 8) (e := (8, 0)) h0_ rfl, bx_val_x (n := 9) (e := (9, 0)) h0_ rfl, bx_val_x (n := 10) (e := (10, 0)) h0_ rfl, ← hr_ 8 (by decide), ← hr_ 9 (by decide), ← hr_ 10 (by decide), ← hr_ 11 (by decide)]
    exact g.2.2.2
theorem rxc159_6_2 {S0 : Nat → Int → Int} {ws : List Int} {S : Nat → Int → Int} {vs ps sl r x12 x13 : Int} (hP : rxP159 S0 ws) (hin : bx_same rxL (bx_mdl rxC159.2.2.1) S0 S) (I0 : bx_Inv rxL S) (hinv : rxI159_6 S0 ws S vs ps sl r) (l8 : 0 ≤ vs) (u8 : vs ≤ 11) (l9 : 0 ≤ ps) (u9 : ps ≤ 7) (l10 : (-1) ≤ sl) (u10 : sl ≤ 2147483647) (l11 : 1 ≤ r) (u11 : r ≤ 1) (l12 : 0 ≤ x12) (u12 : x12 ≤ 11) (l13 : 0 ≤ x13) (u13 : x13 ≤ 5) (f0 : r ≠ 0) (e1 : S 1 5 = x12) (e0 : S 9 vs = x13) : ((0 ≤ vs ∧ vs ≤ 10) ∧ True) ∧ (True) ∧ rxI159_11 S0 ws S vs ps sl x13 ∧ rxm159_11 S0 ws S vs ps sl x13 < rxm159_6 S0 ws S vs ps sl r := by
  obtain ⟨hr, hg, hw, hf⟩ := hinv
  have e5 : S 1 5 = S0 1 5 := hf 1 5 (by decide) (by decide) (by decide +kernel)
  have e9 : S 9 vs = S0 9 vs := rx_sameR2 hf (p := 9) (tc := 0) (n := 12) (g := 6) rfl (by omega) (by decide +kernel) (by decide +kernel) (by omega) (by omega)
  refine ⟨⟨⟨by omega, by omega⟩, trivial⟩, trivial, ⟨⟨?_, by omega, by omega⟩, hg, hw, hf⟩, by unfold rxm159_6 rxm159_11; omega⟩
  rcases hr with ⟨-, h⟩ | ⟨h, -⟩
  · exact h
  · exfalso
    omega
theorem rxg159_6_2 {X : (Nat → Int → Int) → Prop} {S0 : Nat → Int → Int} {ws : List Int} (hP : rxP159 S0 ws) : bx_obC rxL X S0 rxC159.2.2.1 (rxI159 S0 ws) (rxm159 S0 ws) 6 rxz159_6 rxo159_6_2 := by
  intro S S_p r r_p hinv hX hin hsm_ hseg
  obtain ⟨I0, I1, h0_, hr_, b_, f_, d_⟩ := bx_cl (evs := [(0, (0, 9), (8, 0), .inr (0, (13, 0))), (0, (0, 1), (0, 5), .inr (0, (12, 0)))]) (fvs := [(3, (11, 0), (0, 0), (0, 0))]) hseg (by decide +kernel) (by decide +kernel)
  have hinv : rxI159_6 S0 ws S (r 8) (r 9) (r 10) (r 11) := hinv
  rw [← hr_ 8 (by decide), ← hr_ 9 (by decide), ← hr_ 10 (by decide), ← hr_ 11 (by decide)] at hinv
  obtain ⟨⟨l8, u8⟩, ⟨l9, u9⟩, ⟨l10, u10⟩, ⟨l11, u11⟩, ⟨l12, u12⟩, ⟨l13, u13⟩, -⟩ := b_
  obtain ⟨f0, -⟩ := f_
  obtain ⟨e0, ⟨e1, w_⟩⟩ := d_
  subst w_
  have g := rxc159_6_2 hP hin I0 hinv l8 u8 l9 u9 l10 u10 l11 u11 l12 u12 l13 u13 f0 e1 e0
  refine ⟨bx_narP_ok (l := [(8, 0, 10)]) g.1, bx_nfP_ok h0_ (fvs := []) (by decide +kernel) g.2.1, ?_, ?_⟩
  · show rxI159_11 S0 ws S_p (bx_val [(0, 0), (0, 0), (0, 0), (0, 0), (0, 0), (0, 0), (0, 0), (0, 0), (8, 0), (9, 0), (10, 0), (13, 0)] r_p 8) (bx_val [(0, 0), (0, 0), (0, 0), (0, 0), (0, 0), (0, 0), (0, 0), (0, 0), (8, 0), (9, 0), (10, 0), (13, 0)] r_p 9) (bx_val [(0, 0), (0, 0), (0, 0), (0, 0), (0, 0), (0, 0), (0, 0), (0, 0), (8, 0), (9, 0), (10, 0), (13, 0)] r_p 10) (bx_val [(0, 0), (0, 0), (0, 0), (0, 0), (0, 0), (0, 0), (0, 0), (0, 0), (8, 0), (9, 0), (10, 0), (13, 0)] r_p 11)
    rw [bx_val_x (n := 8) (e := (8, 0)) h0_ rfl, bx_val_x (n := 9) (e := (9, 0)) h0_ rfl, bx_val_x (n := 10) (e := (10, 0)) h0_ rfl, bx_val_x (n := 11) (e := (13, 0)) h0_ rfl]
    exact g.2.2.1
  · show rxm159_11 S0 ws S_p (bx_val [(0, 0), (0, 0), (0, 0), (0, 0), (0, 0), (0, 0), (0, 0), (0, 0), (8, 0), (9, 0), (10, 0), (13, 0)] r_p 8) (bx_val [(0, 0), (0, 0), (0, 0), (0, 0), (0, 0), (0, 0), (0, 0), (0, 0), (8, 0), (9, 0), (10, 0), (13, 0)] r_p 9) (bx_val [(0, 0), (0, 0), (0, 0), (0, 0), (0, 0), (0, 0), (0, 0), (0, 0), (8, 0), (9, 0), (10, 0), (13, 0)] r_p 10) (bx_val [(0, 0), (0, 0), (0, 0), (0, 0), (0, 0), (0, 0), (0, 0), (0, 0), (8, 0), (9, 0), (10, 0), (13, 0)] r_p 11) < rxm159_6 S0 ws S_p (r 8) (r 9) (r 10) (r 11)
    rw [bx_val_x (n := 8) (e := (8, 0)) h0_ rfl, bx_val_x (n := 9) (e := (9, 0)) h0_ rfl, bx_val_x (n := 10) (e := (10, 0)) h0_ rfl, bx_val_x (n := 11) (e := (13, 0)) h0_ rfl, ← hr_ 8 (by decide), ← hr_ 9 (by decide), ← hr_ 10 (by decide), ← hr_ 11 (by decide)]
    exact g.2.2.2
theorem rxd159_8_0 {S0 : Nat → Int → Int} {ws : List Int} {S : Nat → Int → Int} {vs ps sl res : Int} (hP : rxP159 S0 ws) (hin : bx_same rxL (bx_mdl rxC159.2.2.1) S0 S) (hin2 : bx_same rxL (bx_mdl rxC159.2.2.1) S S) (I0 : bx_Inv rxL S) (I1 : bx_Inv rxL S) (hinv : rxI159_8 S0 ws S vs ps sl res) (l8 : 0 ≤ vs) (u8 : vs ≤ 11) (l9 : 0 ≤ ps) (u9 : ps ≤ 7) (l10 : (-1) ≤ sl) (u10 : sl ≤ 2147483647) (l11 : (-6) ≤ res) (u11 : res ≤ (-1)) : (True) ∧ rxPS159 S0 ws S (some res) := by
  obtain ⟨h1, hm, hg, hw, hf⟩ := hinv
  exact ⟨trivial, vs, ps, sl, hw, Or.inr (Or.inr (Or.inl ⟨hg, hm, congrArg some h1, hf⟩))⟩
theorem rxf159_8_0 {X : (Nat → Int → Int) → Prop} {S0 : Nat → Int → Int} {ws : List Int} (hP : rxP159 S0 ws) : bx_obE rxL X S0 rxC159.2.2.1 (rxI159 S0 ws) (rxPS159 S0 ws) 8 rxz159_8 rxe159_8_0 := by
  intro S S_p r r_p hinv hX hin hsm_ hseg
  obtain ⟨I0, I1, h0_, hr_, b_, f_, d_⟩ := bx_cl (evs := []) (fvs := []) hseg (by decide +kernel) (by decide +kernel)
  have hinv : rxI159_8 S0 ws S (r 8) (r 9) (r 10) (r 11) := hinv
  rw [← hr_ 8 (by decide), ← hr_ 9 (by decide), ← hr_ 10 (by decide), ← hr_ 11 (by decide)] at hinv
  obtain ⟨⟨l8, u8⟩, ⟨l9, u9⟩, ⟨l10, u10⟩, ⟨l11, u11⟩, -⟩ := b_
  have w_ := d_
  subst w_
  have g := rxd159_8_0 hP hin hsm_ I0 I1 hinv l8 u8 l9 u9 l10 u10 l11 u11
  refine ⟨bx_narP_ok (l := []) g.1, ?_⟩
  show rxPS159 S0 ws S_p (some (bx_num r_p (.inr (0, (11, 0)))))
  rw [bx_xv_ok h0_]
  exact g.2
theorem rxd159_10_0 {S0 : Nat → Int → Int} {ws : List Int} {S : Nat → Int → Int} {vs ps sl res : Int} (hP : rxP159 S0 ws) (hin : bx_same rxL (bx_mdl rxC159.2.2.1) S0 S) (hin2 : bx_same rxL (bx_mdl rxC159.2.2.1) S S) (I0 : bx_Inv rxL S) (I1 : bx_Inv rxL S) (hinv : rxI159_10 S0 ws S vs ps sl res) (l8 : 0 ≤ vs) (u8 : vs ≤ 11) (l9 : 0 ≤ ps) (u9 : ps ≤ 7) (l10 : (-1) ≤ sl) (u10 : sl ≤ 2147483647) (l11 : (-6) ≤ res) (u11 : res ≤ (-1)) : (True) ∧ rxPS159 S0 ws S (some res) := by
  obtain ⟨h1, ⟨hm, h12⟩, hg, hw, hf⟩ := hinv
  exact ⟨trivial, vs, ps, sl, hw, Or.inr (Or.inr (Or.inr (Or.inl ⟨hg, hm, h12, congrArg some h1, hf⟩)))⟩
theorem rxf159_10_0 {X : (Nat → Int → Int) → Prop} {S0 : Nat → Int → Int} {ws : List Int} (hP : rxP159 S0 ws) : bx_obE rxL X S0 rxC159.2.2.1 (rxI159 S0 ws) (rxPS159 S0 ws) 10 rxz159_10 rxe159_10_0 := by
  intro S S_p r r_p hinv hX hin hsm_ hseg
  obtain ⟨I0, I1, h0_, hr_, b_, f_, d_⟩ := bx_cl (evs := []) (fvs := []) hseg (by decide +kernel) (by decide +kernel)
  have hinv : rxI159_10 S0 ws S (r 8) (r 9) (r 10) (r 11) := hinv
  rw [← hr_ 8 (by decide), ← hr_ 9 (by decide), ← hr_ 10 (by decide), ← hr_ 11 (by decide)] at hinv
  obtain ⟨⟨l8, u8⟩, ⟨l9, u9⟩, ⟨l10, u10⟩, ⟨l11, u11⟩, -⟩ := b_
  have w_ := d_
  subst w_
  have g := rxd159_10_0 hP hin hsm_ I0 I1 hinv l8 u8 l9 u9 l10 u10 l11 u11
  refine ⟨bx_narP_ok (l := []) g.1, ?_⟩
  show rxPS159 S0 ws S_p (some (bx_num r_p (.inr (0, (11, 0)))))
  rw [bx_xv_ok h0_]
  exact g.2
theorem rxd159_12_0 {S0 : Nat → Int → Int} {ws : List Int} {S T3 T2 T1 : Nat → Int → Int} {vs ps sl pa res x13 x14 : Int} (hP : rxP159 S0 ws) (hin : bx_same rxL (bx_mdl rxC159.2.2.1) S0 S) (hin2 : bx_same rxL (bx_mdl rxC159.2.2.1) S (bx_up T1 0 8 0)) (I0 : bx_Inv rxL S) (I1 : bx_Inv rxL (bx_up T1 0 8 0)) (hinv : rxI159_12 S0 ws S vs ps sl pa res) (l8 : 0 ≤ vs) (u8 : vs ≤ 10) (l9 : 0 ≤ ps) (u9 : ps ≤ 7) (l10 : (-1) ≤ sl) (u10 : sl ≤ 2147483647) (l11 : 0 ≤ pa) (u11 : pa ≤ 5) (l12 : (-1) ≤ res) (u12 : res ≤ (-1)) (l13 : 0 ≤ x13) (u13 : x13 ≤ 1522) (l14 : 0 ≤ x14) (u14 : x14 ≤ 1522) (e5 : S 12 vs = x13) (e4 : S 12 0 = x14) (v3 : ∀ (p i : Nat), p < rxL.2.1 → i < bx_wd (rxL.1 p) → bx_mc (rxL.1 p) i ≠ (99999, 0) → T3 p (i : Int) = S p (i : Int)) (v2 : ∀ (p i : Nat), p < rxL.2.1 → i < bx_wd (rxL.1 p) → bx_mc (rxL.1 p) i ≠ (1020, 0) → T2 p (i : Int) = T3 p (i : Int)) (v1 : ∀ (p i : Nat), p < rxL.2.1 → i < bx_wd (rxL.1 p) → bx_mc (rxL.1 p) i ≠ (1019, 0) → T1 p (i : Int) = T2 p (i : Int)) : (True) ∧ rxPS159 S0 ws (bx_up T1 0 8 0) (some res) := by
  obtain ⟨⟨-, h0⟩, -⟩ := hinv
  exfalso
  omega
theorem rxf159_12_0 {X : (Nat → Int → Int) → Prop} {S0 : Nat → Int → Int} {ws : List Int} (hP : rxP159 S0 ws) : bx_obE rxL X S0 rxC159.2.2.1 (rxI159 S0 ws) (rxPS159 S0 ws) 12 rxz159_12 rxe159_12_0 := by
  intro S S_p r r_p hinv hX hin hsm_ hseg
  obtain ⟨I0, I1, h0_, hr_, b_, f_, d_⟩ := bx_cl (evs := [(1, (0, 0), (0, 8), .inr (0, (0, 0))), (2, (1019, 0), (0, 0), .inl none), (2, (1020, 0), (0, 0), .inl none), (2, (99999, 0), (0, 0), .inl none), (0, (0, 12), (0, 0), .inr (3, (14, 0))), (0, (0, 12), (8, 0), .inr (3, (13, 0)))]) (fvs := []) hseg (by decide +kernel) (by decide +kernel)
  have hinv : rxI159_12 S0 ws S (r 8) (r 9) (r 10) (r 11) (r 12) := hinv
  rw [← hr_ 8 (by decide), ← hr_ 9 (by decide), ← hr_ 10 (by decide), ← hr_ 11 (by decide), ← hr_ 12 (by decide)] at hinv
  obtain ⟨⟨l8, u8⟩, ⟨l9, u9⟩, ⟨l10, u10⟩, ⟨l11, u11⟩, ⟨l12, u12⟩, ⟨l13, u13⟩, ⟨l14, u14⟩, -⟩ := b_
  obtain ⟨T0, ⟨T1, ⟨T2, ⟨T3, ⟨e4, ⟨e5, w_⟩⟩, v3⟩, v2⟩, v1⟩, w0⟩ := d_
  subst w0
  subst w_
  have g := rxd159_12_0 hP hin hsm_ I0 I1 hinv l8 u8 l9 u9 l10 u10 l11 u11 l12 u12 l13 u13 l14 u14 e5 e4 v3 v2 v1
  refine ⟨bx_narP_ok (l := []) g.1, ?_⟩
  show rxPS159 S0 ws (bx_up T0 0 (8) (0)) (some (bx_num r_p (.inr (0, (12, 0)))))
  rw [bx_xv_ok h0_]
  exact g.2
theorem rxd159_12_1 {S0 : Nat → Int → Int} {ws : List Int} {S T3 T2 T1 : Nat → Int → Int} {vs ps sl pa res x13 x14 : Int} (hP : rxP159 S0 ws) (hin : bx_same rxL (bx_mdl rxC159.2.2.1) S0 S) (hin2 : bx_same rxL (bx_mdl rxC159.2.2.1) S (bx_up T1 0 8 0)) (I0 : bx_Inv rxL S) (I1 : bx_Inv rxL (bx_up T1 0 8 0)) (hinv : rxI159_12 S0 ws S vs ps sl pa res) (l8 : 0 ≤ vs) (u8 : vs ≤ 10) (l9 : 0 ≤ ps) (u9 : ps ≤ 7) (l10 : (-1) ≤ sl) (u10 : sl ≤ 2147483647) (l11 : 0 ≤ pa) (u11 : pa ≤ 5) (l12 : 0 ≤ res) (u12 : res ≤ 11) (l13 : 0 ≤ x13) (u13 : x13 ≤ 1522) (l14 : 0 ≤ x14) (u14 : x14 ≤ 1522) (e5 : S 12 vs = x13) (e4 : S 12 res = x14) (v3 : ∀ (p i : Nat), p < rxL.2.1 → i < bx_wd (rxL.1 p) → bx_mc (rxL.1 p) i ≠ (99999, 0) → T3 p (i : Int) = S p (i : Int)) (v2 : ∀ (p i : Nat), p < rxL.2.1 → i < bx_wd (rxL.1 p) → bx_mc (rxL.1 p) i ≠ (1020, 0) → T2 p (i : Int) = T3 p (i : Int)) (v1 : ∀ (p i : Nat), p < rxL.2.1 → i < bx_wd (rxL.1 p) → bx_mc (rxL.1 p) i ≠ (1019, 0) → T1 p (i : Int) = T2 p (i : Int)) : (True) ∧ rxPS159 S0 ws (bx_up T1 0 8 0) (some res) := by
  obtain ⟨⟨hr, h0⟩, ⟨hm, h12, hpa⟩, hg, hw, h5, r9, r10, r11, k1, k2, f146, f282, f147, f283, f148, f284⟩ := hinv
  subst hpa
  have fr : ∀ {p n : Nat} (_ : p ∈ rxNum) (_ : bx_wd (rxL.1 p) = n) {i : Int}, 0 ≤ i → i < (n : Int) → T1 p i = S p i := fun hp hn _ a b => (rk_frI v1 (by decide +kernel) hp hn a b).trans ((rk_frI v2 (by decide +kernel) hp hn a b).trans (rk_frI v3 (by decide +kernel) hp hn a b))
  exact ⟨trivial, vs, ps, sl, hw, Or.inr (Or.inr (Or.inr (Or.inr ⟨hg, hm, h12, congrArg some hr, (bx_up_ne (by omega)).trans ((fr (p := 1) (n := 19) (by decide) (by decide +kernel) (i := 5) (by decide) (by decide)).trans (h5)), fun i i0 i1 => (bx_up_ne (by omega)).trans ((fr (p := 9) (n := 12) (by decide) (by decide +kernel) i0 i1).trans (r9 i i0 i1)), fun i i0 i1 => (bx_up_ne (by omega)).trans ((fr (p := 10) (n := 12) (by decide) (by decide +kernel) i0 i1).trans (r10 i i0 i1)), fun i i0 i1 => (bx_up_ne (by omega)).trans ((fr (p := 11) (n := 12) (by decide) (by decide +kernel) i0 i1).trans (r11 i i0 i1)), (bx_up_ne (by omega)).trans ((fr (p := 138) (n := 19) (by decide) (by decide +kernel) (i := 5) (by decide) (by decide)).trans (k1)), (bx_up_ne (by omega)).trans ((fr (p := 274) (n := 19) (by decide) (by decide +kernel) (i := 5) (by decide) (by decide)).trans (k2)), fun i i0 i1 => (bx_up_ne (by omega)).trans ((fr (p := 146) (n := 12) (by decide) (by decide +kernel) i0 i1).trans (f146 i i0 i1)), fun i i0 i1 => (bx_up_ne (by omega)).trans ((fr (p := 282) (n := 12) (by decide) (by decide +kernel) i0 i1).trans (f282 i i0 i1)), fun i i0 i1 => (bx_up_ne (by omega)).trans ((fr (p := 147) (n := 12) (by decide) (by decide +kernel) i0 i1).trans (f147 i i0 i1)), fun i i0 i1 => (bx_up_ne (by omega)).trans ((fr (p := 283) (n := 12) (by decide) (by decide +kernel) i0 i1).trans (f283 i i0 i1)), fun i i0 i1 => (bx_up_ne (by omega)).trans ((fr (p := 148) (n := 12) (by decide) (by decide +kernel) i0 i1).trans (f148 i i0 i1)), fun i i0 i1 => (bx_up_ne (by omega)).trans ((fr (p := 284) (n := 12) (by decide) (by decide +kernel) i0 i1).trans (f284 i i0 i1))⟩)))⟩
theorem rxf159_12_1 {X : (Nat → Int → Int) → Prop} {S0 : Nat → Int → Int} {ws : List Int} (hP : rxP159 S0 ws) : bx_obE rxL X S0 rxC159.2.2.1 (rxI159 S0 ws) (rxPS159 S0 ws) 12 rxz159_12 rxe159_12_1 := by
  intro S S_p r r_p hinv hX hin hsm_ hseg
  obtain ⟨I0, I1, h0_, hr_, b_, f_, d_⟩ := bx_cl (evs := [(1, (0, 0), (0, 8), .inr (0, (0, 0))), (2, (1019, 0), (0, 0), .inl none), (2, (1020, 0), (0, 0), .inl none), (2, (99999, 0), (0, 0), .inl none), (0, (0, 12), (12, 0), .inr (3, (14, 0))), (0, (0, 12), (8, 0), .inr (3, (13, 0)))]) (fvs := []) hseg (by decide +kernel) (by decide +kernel)
  have hinv : rxI159_12 S0 ws S (r 8) (r 9) (r 10) (r 11) (r 12) := hinv
  rw [← hr_ 8 (by decide), ← hr_ 9 (by decide), ← hr_ 10 (by decide), ← hr_ 11 (by decide), ← hr_ 12 (by decide)] at hinv
  obtain ⟨⟨l8, u8⟩, ⟨l9, u9⟩, ⟨l10, u10⟩, ⟨l11, u11⟩, ⟨l12, u12⟩, ⟨l13, u13⟩, ⟨l14, u14⟩, -⟩ := b_
  obtain ⟨T0, ⟨T1, ⟨T2, ⟨T3, ⟨e4, ⟨e5, w_⟩⟩, v3⟩, v2⟩, v1⟩, w0⟩ := d_
  subst w0
  subst w_
  have g := rxd159_12_1 hP hin hsm_ I0 I1 hinv l8 u8 l9 u9 l10 u10 l11 u11 l12 u12 l13 u13 l14 u14 e5 e4 v3 v2 v1
  refine ⟨bx_narP_ok (l := []) g.1, ?_⟩
  show rxPS159 S0 ws (bx_up T0 0 (8) (0)) (some (bx_num r_p (.inr (0, (12, 0)))))
  rw [bx_xv_ok h0_]
  exact g.2
theorem rxgC159 {X : (Nat → Int → Int) → Prop} {S0 : Nat → Int → Int} {ws : List Int} (hP : rxP159 S0 ws) : bx_allI (fun i q => rxU159 q = true ∨ bx_allP (fun o => bx_obC rxL X S0 rxC159.2.2.1 (rxI159 S0 ws) (rxm159 S0 ws) i q.1 o) q.2.1) 0 rxY159 := ⟨Or.inr ⟨rxg159_0_0 hP, rxg159_0_1 hP, rxg159_0_2 hP, rxg159_0_3 hP, rxg159_0_4 hP, rxg159_0_5 hP, trivial⟩, Or.inl rfl, Or.inr trivial, Or.inl rfl, Or.inr trivial, Or.inl rfl, Or.inr ⟨rxg159_6_0 hP, rxg159_6_1 hP, rxg159_6_2 hP, trivial⟩, Or.inl rfl, Or.inr trivial, Or.inl rfl, Or.inr trivial, Or.inl rfl, Or.inr trivial, trivial⟩
theorem rxgE159 {X : (Nat → Int → Int) → Prop} {S0 : Nat → Int → Int} {ws : List Int} (hP : rxP159 S0 ws) : bx_allI (fun i q => rxU159 q = true ∨ bx_allP (fun E => bx_obE rxL X S0 rxC159.2.2.1 (rxI159 S0 ws) (rxPS159 S0 ws) i q.1 E) q.2.2) 0 rxY159 := ⟨Or.inr trivial, Or.inl rfl, Or.inr ⟨rxf159_2_0 hP, trivial⟩, Or.inl rfl, Or.inr ⟨rxf159_4_0 hP, trivial⟩, Or.inl rfl, Or.inr trivial, Or.inl rfl, Or.inr ⟨rxf159_8_0 hP, trivial⟩, Or.inl rfl, Or.inr ⟨rxf159_10_0 hP, trivial⟩, Or.inl rfl, Or.inr ⟨rxf159_12_0 hP, rxf159_12_1 hP, trivial⟩, trivial⟩
theorem rxu159 {PX : State → Prop} {Dg : va_G} {A : Nat → Prop} {ad xa : Nat → Nat} {l : Launch} {X : (Nat → Int → Int) → Prop} (hPX : rx_PXOK rxNW A PX) (hX : ∀ S S1 : Nat → Int → Int, X S → bx_same rxL (bx_mdl rxC159.2.2.1) S S1 → X S1) (hQ110 : bx_ConP rxG rxNW rxAO PX Dg rxL X vwCl A ad l rxM110 rxC110 rxP110 rxPS110) (hQMLD : bx_ConP rxG rxNW rxAO PX Dg rxL X vwCl A ad l rxM125 rxCMLD rxPMLD rxPSMLD) (hQADV : bx_ConP rxG rxNW rxAO PX Dg rxL X vwCl A ad l rxM123 rxCADV rxPADV rxPSADV) {S0 : Nat → Int → Int} {ws : List Int} (hP : rxP159 S0 ws) : ∀ (i : Nat) (q : bx_HE), rxY159[i]? = some q → rxU159 q = true → ∀ {p : Program} {e : Env} {R : Room} {s : State} {m : MethodId} {args : Array Value} {below : List Frame} {meth : Method} {c : Code} {Q : State → Prop} {H0 : Heap}, rx_Fr rxG rxNW rxAO PX p s m args meth c rxM159 → (∀ q, H0.size ≤ q → A q) → H0 = s.heap → rxM159.2.2.2.2.2.2.1 ≤ R.cells → rxM159.2.2.2.2.2.2.2 ≤ R.slots → rxC159.2.2.2.1 ≤ R.frames → rxC159.2.2.2.1 * 40 ≤ R.locals → bx_Step p l e R s m args below meth c Q Dg rxL X vwCl A xa H0 ad rxM159 rxY159 (rxI159 S0 ws) (rxm159 S0 ws) S0 rxC159.2.2.1 i q := by
  intro i q hq hus p e R s m args below meth c Q H0 hF hA hH0 hmc hms hd hdl
  match i, hq with
  | 0, hq =>
    cases hq
    exact absurd (show false = true from hus) Bool.false_ne_true
  | 1, hq =>
    cases hq
    exact rx_stepC (ins := .invokevirtual 110) (len := 3) (i_p := 2) (M_p := rxM110) (d := rxC159.2.2.2.1) (as := [.inr (3, (0, 0)), .inr (0, (0, (-1)))]) (t := []) (ct := rxC110) hPX hF rfl hA hH0 hmc hms hd hdl (by decide +kernel) rfl rfl (by decide +kernel) (by decide +kernel) hQ110 (by decide +kernel) rfl (Or.inr ⟨_, _, _, 1, rfl, rfl, by omega, rfl, rfl, rfl⟩) (rxs159_1 hP)
  | 2, hq =>
    cases hq
    exact absurd (show false = true from hus) Bool.false_ne_true
  | 3, hq =>
    cases hq
    exact rx_stepC (ins := .invokevirtual 110) (len := 3) (i_p := 4) (M_p := rxM110) (d := rxC159.2.2.2.1) (as := [.inr (3, (0, 0)), .inr (0, (0, (-2)))]) (t := []) (ct := rxC110) hPX hF rfl hA hH0 hmc hms hd hdl (by decide +kernel) rfl rfl (by decide +kernel) (by decide +kernel) hQ110 (by decide +kernel) rfl (Or.inr ⟨_, _, _, 1, rfl, rfl, by omega, rfl, rfl, rfl⟩) (rxs159_3 hP)
  | 4, hq =>
    cases hq
    exact absurd (show false = true from hus) Bool.false_ne_true
  | 5, hq =>
    cases hq
    exact rx_stepC (ins := .invokevirtual 267) (len := 3) (i_p := 6) (M_p := rxM125) (d := rxC159.2.2.2.1) (as := [.inr (3, (0, 1)), .inr (0, (8, 0)), .inr (0, (9, 0))]) (t := []) (ct := rxCMLD) hPX hF rfl hA hH0 hmc hms hd hdl (by decide +kernel) rfl rfl (by decide +kernel) (by decide +kernel) hQMLD (by decide +kernel) rfl (Or.inr ⟨_, _, _, 1, rfl, rfl, by omega, rfl, rfl, rfl⟩) (rxs159_5 hP)
  | 6, hq =>
    cases hq
    exact absurd (show false = true from hus) Bool.false_ne_true
  | 7, hq =>
    cases hq
    exact rx_stepC (ins := .invokevirtual 110) (len := 3) (i_p := 8) (M_p := rxM110) (d := rxC159.2.2.2.1) (as := [.inr (3, (0, 0)), .inr (0, (0, (-3)))]) (t := []) (ct := rxC110) hPX hF rfl hA hH0 hmc hms hd hdl (by decide +kernel) rfl rfl (by decide +kernel) (by decide +kernel) hQ110 (by decide +kernel) rfl (Or.inr ⟨_, _, _, 1, rfl, rfl, by omega, rfl, rfl, rfl⟩) (rxs159_7 hP)
  | 8, hq =>
    cases hq
    exact absurd (show false = true from hus) Bool.false_ne_true
  | 9, hq =>
    cases hq
    exact rx_stepC (ins := .invokevirtual 110) (len := 3) (i_p := 10) (M_p := rxM110) (d := rxC159.2.2.2.1) (as := [.inr (3, (0, 0)), .inr (0, (0, (-5)))]) (t := []) (ct := rxC110) hPX hF rfl hA hH0 hmc hms hd hdl (by decide +kernel) rfl rfl (by decide +kernel) (by decide +kernel) hQ110 (by decide +kernel) rfl (Or.inr ⟨_, _, _, 1, rfl, rfl, by omega, rfl, rfl, rfl⟩) (rxs159_9 hP)
  | 10, hq =>
    cases hq
    exact absurd (show false = true from hus) Bool.false_ne_true
  | 11, hq =>
    cases hq
    exact rx_stepC (ins := .invokevirtual 254) (len := 3) (i_p := 12) (M_p := rxM123) (d := rxC159.2.2.2.1) (as := [.inr (3, (0, 1)), .inr (0, (11, 0)), .inr (0, (9, 0)), .inr (0, (8, 0))]) (t := []) (ct := rxCADV) hPX hF rfl hA hH0 hmc hms hd hdl (by decide +kernel) rfl rfl (by decide +kernel) (by decide +kernel) hQADV (by decide +kernel) rfl (Or.inr ⟨_, _, _, 1, rfl, rfl, by omega, rfl, rfl, rfl⟩) (rxs159_11 hP)
  | 12, hq =>
    cases hq
    exact absurd (show false = true from hus) Bool.false_ne_true
  | n + 13, hq => cases hq
theorem rxQ159 {PX : State → Prop} {Dg : va_G} {A : Nat → Prop} {ad xa : Nat → Nat} {l : Launch} {X : (Nat → Int → Int) → Prop} (hPX : rx_PXOK rxNW A PX) (hsl : ∀ s : State, PX s → ∀ o idx n : Nat, rxSl o idx = some n → ∃ tx : String, vk_R (rxNm o) idx tx (ad n) s)
    (hX : ∀ S S_p : Nat → Int → Int, X S → bx_same rxL (bx_mdl rxC159.2.2.1) S S_p → X S_p)
    (ih : ∀ (j2 : Nat) (ct2 : bx_Ct) (M2 : rx_Mt), ct2 ∈ rxCn j2 → ct2.2.2.2.1 + 1 ≤ rxC159.2.2.2.1 → rxT.2.2.2.2.2 j2 = some M2 → bx_Con rxG rxNW rxAO PX Dg rxL X vwCl A ad l M2 ct2) (hQ110 : bx_ConP rxG rxNW rxAO PX Dg rxL X vwCl A ad l rxM110 rxC110 rxP110 rxPS110) (hQMLD : bx_ConP rxG rxNW rxAO PX Dg rxL X vwCl A ad l rxM125 rxCMLD rxPMLD rxPSMLD) (hQADV : bx_ConP rxG rxNW rxAO PX Dg rxL X vwCl A ad l rxM123 rxCADV rxPADV rxPSADV) : bx_ConP rxG rxNW rxAO PX Dg rxL X vwCl A ad l rxM159 rxC159 rxP159 rxPS159 :=
  rxQof (xa := xa) (Cn := rxCn) (f := 30000) (j := 159) (tab := rxY159) (us := rxU159) hPX hsl hX ih rfl rxYc159 rxI159 rxm159
    (fun S0 ws r I0 I ht0 ht as he he1 hX0 hI0 hP hs ha => by
      have e := he.symm.trans (show bx_ent0 rxNP rxC159.1 bx_I0 [] = some ([(0, 0), (0, 0), (0, 0), (0, 0), (0, 0), (0, 0), (0, 0), (0, 0), ((-2147483648), 2147483647), ((-2147483648), 2147483647), ((-2147483648), 2147483647)], [], [.inr (3, (0, 0)), .inr (0, (8, 0)), .inr (0, (9, 0)), .inr (0, (10, 0))]) from rfl)
      cases e
      subst ha
      have h0 : r 0 = 0 := hs.1
      show rxI159_0 S0 _ S0 (r 8) (r 9) (r 10)
      refine ⟨rfl, ?_⟩
      simp only [List.map_cons, List.map_nil, bx_xv_ok h0]
      rfl)
    (fun S0 ws hP => rxu159 (xa := xa) hPX hX hQ110 hQMLD hQADV hP) (fun S0 ws hP => rxgC159 hP) (fun S0 ws hP => rxgE159 hP)
/-! CONTRACT BY HAND, by program (wip/sim/genhand.py): DeadUnderstudies.undo -/
def rxI161_0 (S0 : Nat → Int → Int) (ws : List Int) (S : Nat → Int → Int) : Prop := S = S0 ∧ ws = [0]
def rxm161_0 (S0 : Nat → Int → Int) (ws : List Int) (S : Nat → Int → Int) : Nat := 100
def rxz161_0 : rx_Z := ([(0, 0), (0, 0), (0, 0), (0, 0), (0, 0), (0, 0), (0, 0), (0, 0)], [], [], 0, 0, 0, [(0, .inr (3, (0, 0)))], [])
def rxI161_1 (S0 : Nat → Int → Int) (ws : List Int) (S : Nat → Int → Int) : Prop := S = S0 ∧ S0 1 5 ≤ 0 ∧ ws = [0]
def rxm161_1 (S0 : Nat → Int → Int) (ws : List Int) (S : Nat → Int → Int) : Nat := 50
def rxz161_1 : rx_Z := ([(0, 0), (0, 0), (0, 0), (0, 0), (0, 0), (0, 0), (0, 0), (0, 0)], [], [], 0, 0, 13, [(0, .inr (3, (0, 0)))], [.inr (0, (0, (-3))), .inr (3, (0, 0))])
def rxI161_2 (S0 : Nat → Int → Int) (ws : List Int) (S : Nat → Int → Int) (res : Int) : Prop := res = -3 ∧ S0 1 5 ≤ 0 ∧ ws = [0] ∧ bx_same rxL (bx_mdl rxC110.2.2.1) S0 S
def rxm161_2 (S0 : Nat → Int → Int) (ws : List Int) (S : Nat → Int → Int) (res : Int) : Nat := 20
def rxz161_2 : rx_Z := ([(0, 0), (0, 0), (0, 0), (0, 0), (0, 0), (0, 0), (0, 0), (0, 0), ((-6), (-1))], [], [], 0, 0, 16, [(0, .inr (3, (0, 0)))], [.inr (0, (8, 0))])
def rxo161_0_0 : bx_HO := (([(0, 0), (0, 0), (0, 0), (0, 0), (0, 0), (0, 0), (0, 0), (0, 0), (0, 0)], [], [(((0, 0), 1851192626986356798427873864310897359480125337295219445323071488000000), .inr (0, (8, 0))), (((0, 1), 5), .inr (0, (8, 0))), (((0, 0), 0), .inr (3, (0, 1)))], 0, 0, 13, [(0, .inr (3, (0, 0)))], [.inr (0, (0, (-3))), .inr (3, (0, 0))]), [], [], [(0, 0), (0, 0), (0, 0), (0, 0), (0, 0), (0, 0), (0, 0), (0, 0)], 1)
def rxe161_0_0 : rx_End × List (Nat × Int × Int) := (([(0, 0), (0, 0), (0, 0), (0, 0), (0, 0), (0, 0), (0, 0), (0, 0), (1, 12), (0, 7)], [], [(((0, 0), 1851192626986356799029993984671224184301589730656725205983952899000000), .inr (0, (0, 0))), (((0, 0), 8), .inr (0, (0, 0))), (((0, 0), 1851192626986356797223658123920662017406565913543943011316662272000000), .inr (0, (9, 0))), (((0, 1), 7), .inr (3, (0, 10))), (((0, 0), 1851192626986356798427873864310897359480125337295219445323071491000000), .inr (0, (8, (-1)))), (((0, 1), 5), .inr (0, (8, (-1)))), (((0, 0), 1851192626986356798427873864310897359480125337295219445323071488000000), .inr (0, (8, 0))), (((0, 0), 0), .inr (3, (0, 1)))], some (.inr (0, (9, 0)))), [])
def rxe161_2_0 : rx_End × List (Nat × Int × Int) := (([(0, 0), (0, 0), (0, 0), (0, 0), (0, 0), (0, 0), (0, 0), (0, 0), ((-6), (-1))], [], [], some (.inr (0, (8, 0)))), [])
def rxY161 : List bx_HE := [(rxz161_0, [rxo161_0_0], [rxe161_0_0]), (rxz161_1, [], []), (rxz161_2, [], [rxe161_2_0])]
def rxU161 (q : bx_HE) : Bool := Nat.beq (rx_zpc q.1) 13
def rxYB161 : bx_B := (rxV, rxNP, rxDmf, bx_mdH rxC161.2.2.1)
set_option maxRecDepth 100000 in
theorem rxYc161 : bx_chkH rxYB161 rxM161 rxC161 rxY161 (rxU161, fun cut z => rx_ex2 (rxCT rxYB161 rxCnE) cut 30000 rxC161.2.2.2.1 161 z) = true := by decide +kernel
def rxI161 (S0 : Nat → Int → Int) (ws : List Int) (i : Nat) : bx_SP := fun S r => match i with | 0 => rxI161_0 S0 ws S | 1 => rxI161_1 S0 ws S | 2 => rxI161_2 S0 ws S (r 8) | _ => False
def rxm161 (S0 : Nat → Int → Int) (ws : List Int) (i : Nat) (S : Nat → Int → Int) (r : Nat → Int) : Nat := match i with | 0 => rxm161_0 S0 ws S | 1 => rxm161_1 S0 ws S | 2 => rxm161_2 S0 ws S (r 8) | _ => 0
def rxP161 (S0 : Nat → Int → Int) (ws : List Int) : Prop := True
def rxPS161 (S0 : Nat → Int → Int) (ws : List Int) (S : Nat → Int → Int) (w : Option Int) : Prop := ws = [0] ∧ ((S0 1 5 ≤ 0 ∧ w = some (-3) ∧ bx_same rxL (bx_mdl rxC110.2.2.1) S0 S) ∨ (0 < S0 1 5 ∧ w = some (S0 10 (S0 1 5 - 1)) ∧ S 1 5 = S0 1 5 - 1 ∧ S 138 5 = S0 138 5 ∧ S 274 5 = S0 274 5))
theorem rxk161_1 {S0 : Nat → Int → Int} {ws : List Int} {S : Nat → Int → Int} (hP : rxP161 S0 ws) (hin : bx_same rxL (bx_mdl rxC161.2.2.1) S0 S) (I0 : bx_Inv rxL S) (hinv : rxI161_1 S0 ws S)  : rxP110 S [0, (-3)] ∧ ∀ (S_p : Nat → Int → Int) (res : Int), (-6) ≤ res → res ≤ (-1) → rxPS110 S [0, (-3)] S_p (some res) → bx_Inv rxL S_p → bx_same rxL (bx_mdl rxC110.2.2.1) S S_p → rxI161_2 S0 ws S_p res ∧ rxm161_2 S0 ws S_p res < rxm161_1 S0 ws S := by
  obtain ⟨rfl, h1, hw⟩ := hinv
  refine ⟨trivial, fun S_p res _ _ hq _ hsm => ⟨⟨?_, h1, hw, hsm⟩, by unfold rxm161_1 rxm161_2; omega⟩⟩
  obtain ⟨c, hc, hr⟩ := hq
  simp only [List.cons.injEq, and_true, true_and] at hc
  simp only [Option.some.injEq] at hr
  omega
theorem rxs161_1 {X : (Nat → Int → Int) → Prop} {S0 : Nat → Int → Int} {ws : List Int} (hP : rxP161 S0 ws) : rx_obK X S0 rxC161.2.2.1 rxC110.2.2.1 (rxI161 S0 ws) (rxm161 S0 ws) 1 2 rxz161_1 rxz161_2 [.inr (3, (0, 0)), .inr (0, (0, (-3)))] (some 8) rxP110 rxPS110 := by
  intro S r hinv hXS I0 hin hs_ hf_
  have b_ := bx_bds_sat hs_
  have f_ := bx_fcl_ok hs_.1 hf_
  have g := rxk161_1 hP hin I0 hinv 
  have ea : List.map (bx_num r) [.inr (3, (0, 0)), .inr (0, (0, (-3)))] = [0, -3] := by
    simp only [List.map_cons, List.map_nil, bx_xv_ok hs_.1]
    rfl
  rw [ea]
  refine ⟨g.1, fun S_p w r_p hPS hX_p I1 hsm hr hw hs_p => ?_⟩
  have hw := hw _ rfl
  subst hw
  have b_p := hs_p.2.2 8 _ _ rfl
  have g2 := g.2 S_p (r_p 8) b_p.1 b_p.2 hPS I1 hsm
  show rxI161_2 S0 ws S_p (r_p 8) ∧ rxm161_2 S0 ws S_p (r_p 8) < _
  exact g2
theorem rxc161_0_0 {S0 : Nat → Int → Int} {ws : List Int} {S : Nat → Int → Int} {x8 : Int} (hP : rxP161 S0 ws) (hin : bx_same rxL (bx_mdl rxC161.2.2.1) S0 S) (I0 : bx_Inv rxL S) (hinv : rxI161_0 S0 ws S) (l8 : 0 ≤ x8) (u8 : x8 ≤ 0) (e0 : S 1 5 = x8) : (True) ∧ (True) ∧ rxI161_1 S0 ws S ∧ rxm161_1 S0 ws S < rxm161_0 S0 ws S := by
  obtain ⟨rfl, hw⟩ := hinv
  exact ⟨trivial, trivial, ⟨rfl, by omega, hw⟩, by unfold rxm161_0 rxm161_1; omega⟩
theorem rxg161_0_0 {X : (Nat → Int → Int) → Prop} {S0 : Nat → Int → Int} {ws : List Int} (hP : rxP161 S0 ws) : bx_obC rxL X S0 rxC161.2.2.1 (rxI161 S0 ws) (rxm161 S0 ws) 0 rxz161_0 rxo161_0_0 := by
  intro S S_p r r_p hinv hX hin hsm_ hseg
  obtain ⟨I0, I1, h0_, hr_, b_, f_, d_⟩ := bx_cl (evs := [(0, (0, 1), (0, 5), .inr (0, (8, 0)))]) (fvs := []) hseg (by decide +kernel) (by decide +kernel)
  have hinv : rxI161_0 S0 ws S := hinv
  obtain ⟨⟨l8, u8⟩, -⟩ := b_
  obtain ⟨e0, w_⟩ := d_
  subst w_
  have g := rxc161_0_0 hP hin I0 hinv l8 u8 e0
  refine ⟨bx_narP_ok (l := []) g.1, bx_nfP_ok h0_ (fvs := []) (by decide +kernel) g.2.1, ?_, ?_⟩
  · show rxI161_1 S0 ws S_p
    exact g.2.2.1
  · show rxm161_1 S0 ws S_p < rxm161_0 S0 ws S_p
    exact g.2.2.2
theorem rxd161_0_0 {S0 : Nat → Int → Int} {ws : List Int} {S : Nat → Int → Int} {x8 x9 : Int} (hP : rxP161 S0 ws) (hin : bx_same rxL (bx_mdl rxC161.2.2.1) S0 S) (hin2 : bx_same rxL (bx_mdl rxC161.2.2.1) S (bx_up (bx_up S 1 5 (x8 + (-1))) 0 8 0)) (I0 : bx_Inv rxL S) (I1 : bx_Inv rxL (bx_up (bx_up S 1 5 (x8 + (-1))) 0 8 0)) (hinv : rxI161_0 S0 ws S) (l8 : 1 ≤ x8) (u8 : x8 ≤ 12) (l9 : 0 ≤ x9) (u9 : x9 ≤ 7) (e3 : S 1 5 = x8) (e1 : (bx_up S 1 5 (x8 + (-1))) 10 (x8 + (-1)) = x9) : (True) ∧ rxPS161 S0 ws (bx_up (bx_up S 1 5 (x8 + (-1))) 0 8 0) (some x9) := by
  obtain ⟨rfl, hw⟩ := hinv
  have z : S 10 (S 1 5 - 1) = x9 := by
    rw [show S 1 5 - 1 = (x8 + -1) by omega]
    exact (show _ = S 10 (x8 + -1) from bx_up_ne (by omega)).symm.trans e1
  exact ⟨trivial, hw, Or.inr ⟨by omega, congrArg some z.symm, ((bx_up_ne (by omega)).trans (bx_up_at)).trans (by omega), (bx_up_ne (by omega)).trans ((bx_up_ne (by omega))), (bx_up_ne (by omega)).trans ((bx_up_ne (by omega)))⟩⟩
theorem rxf161_0_0 {X : (Nat → Int → Int) → Prop} {S0 : Nat → Int → Int} {ws : List Int} (hP : rxP161 S0 ws) : bx_obE rxL X S0 rxC161.2.2.1 (rxI161 S0 ws) (rxPS161 S0 ws) 0 rxz161_0 rxe161_0_0 := by
  intro S S_p r r_p hinv hX hin hsm_ hseg
  obtain ⟨I0, I1, h0_, hr_, b_, f_, d_⟩ := bx_cl (evs := [(1, (0, 0), (0, 8), .inr (0, (0, 0))), (0, (0, 10), (8, (-1)), .inr (0, (9, 0))), (1, (0, 1), (0, 5), .inr (0, (8, (-1)))), (0, (0, 1), (0, 5), .inr (0, (8, 0)))]) (fvs := []) hseg (by decide +kernel) (by decide +kernel)
  have hinv : rxI161_0 S0 ws S := hinv
  obtain ⟨⟨l8, u8⟩, ⟨l9, u9⟩, -⟩ := b_
  obtain ⟨T0, ⟨e1, ⟨T2, ⟨e3, w_⟩, w2⟩⟩, w0⟩ := d_
  subst w0
  subst w2
  subst w_
  have g := rxd161_0_0 hP hin hsm_ I0 I1 hinv l8 u8 l9 u9 e3 e1
  refine ⟨bx_narP_ok (l := []) g.1, ?_⟩
  show rxPS161 S0 ws (bx_up (bx_up T2 1 (5) (r_p 8 + (-1))) 0 (8) (0)) (some (bx_num r_p (.inr (0, (9, 0)))))
  rw [bx_xv_ok h0_]
  exact g.2
theorem rxd161_2_0 {S0 : Nat → Int → Int} {ws : List Int} {S : Nat → Int → Int} {res : Int} (hP : rxP161 S0 ws) (hin : bx_same rxL (bx_mdl rxC161.2.2.1) S0 S) (hin2 : bx_same rxL (bx_mdl rxC161.2.2.1) S S) (I0 : bx_Inv rxL S) (I1 : bx_Inv rxL S) (hinv : rxI161_2 S0 ws S res) (l8 : (-6) ≤ res) (u8 : res ≤ (-1)) : (True) ∧ rxPS161 S0 ws S (some res) := by
  obtain ⟨h1, h2, hw, hs⟩ := hinv
  exact ⟨trivial, hw, Or.inl ⟨h2, congrArg some h1, hs⟩⟩
theorem rxf161_2_0 {X : (Nat → Int → Int) → Prop} {S0 : Nat → Int → Int} {ws : List Int} (hP : rxP161 S0 ws) : bx_obE rxL X S0 rxC161.2.2.1 (rxI161 S0 ws) (rxPS161 S0 ws) 2 rxz161_2 rxe161_2_0 := by
  intro S S_p r r_p hinv hX hin hsm_ hseg
  obtain ⟨I0, I1, h0_, hr_, b_, f_, d_⟩ := bx_cl (evs := []) (fvs := []) hseg (by decide +kernel) (by decide +kernel)
  have hinv : rxI161_2 S0 ws S (r 8) := hinv
  rw [← hr_ 8 (by decide)] at hinv
  obtain ⟨⟨l8, u8⟩, -⟩ := b_
  have w_ := d_
  subst w_
  have g := rxd161_2_0 hP hin hsm_ I0 I1 hinv l8 u8
  refine ⟨bx_narP_ok (l := []) g.1, ?_⟩
  show rxPS161 S0 ws S_p (some (bx_num r_p (.inr (0, (8, 0)))))
  rw [bx_xv_ok h0_]
  exact g.2
theorem rxgC161 {X : (Nat → Int → Int) → Prop} {S0 : Nat → Int → Int} {ws : List Int} (hP : rxP161 S0 ws) : bx_allI (fun i q => rxU161 q = true ∨ bx_allP (fun o => bx_obC rxL X S0 rxC161.2.2.1 (rxI161 S0 ws) (rxm161 S0 ws) i q.1 o) q.2.1) 0 rxY161 := ⟨Or.inr ⟨rxg161_0_0 hP, trivial⟩, Or.inl rfl, Or.inr trivial, trivial⟩
theorem rxgE161 {X : (Nat → Int → Int) → Prop} {S0 : Nat → Int → Int} {ws : List Int} (hP : rxP161 S0 ws) : bx_allI (fun i q => rxU161 q = true ∨ bx_allP (fun E => bx_obE rxL X S0 rxC161.2.2.1 (rxI161 S0 ws) (rxPS161 S0 ws) i q.1 E) q.2.2) 0 rxY161 := ⟨Or.inr ⟨rxf161_0_0 hP, trivial⟩, Or.inl rfl, Or.inr ⟨rxf161_2_0 hP, trivial⟩, trivial⟩
theorem rxu161 {PX : State → Prop} {Dg : va_G} {A : Nat → Prop} {ad xa : Nat → Nat} {l : Launch} {X : (Nat → Int → Int) → Prop} (hPX : rx_PXOK rxNW A PX) (hX : ∀ S S1 : Nat → Int → Int, X S → bx_same rxL (bx_mdl rxC161.2.2.1) S S1 → X S1) (hQ110 : bx_ConP rxG rxNW rxAO PX Dg rxL X vwCl A ad l rxM110 rxC110 rxP110 rxPS110) {S0 : Nat → Int → Int} {ws : List Int} (hP : rxP161 S0 ws) : ∀ (i : Nat) (q : bx_HE), rxY161[i]? = some q → rxU161 q = true → ∀ {p : Program} {e : Env} {R : Room} {s : State} {m : MethodId} {args : Array Value} {below : List Frame} {meth : Method} {c : Code} {Q : State → Prop} {H0 : Heap}, rx_Fr rxG rxNW rxAO PX p s m args meth c rxM161 → (∀ q, H0.size ≤ q → A q) → H0 = s.heap → rxM161.2.2.2.2.2.2.1 ≤ R.cells → rxM161.2.2.2.2.2.2.2 ≤ R.slots → rxC161.2.2.2.1 ≤ R.frames → rxC161.2.2.2.1 * 40 ≤ R.locals → bx_Step p l e R s m args below meth c Q Dg rxL X vwCl A xa H0 ad rxM161 rxY161 (rxI161 S0 ws) (rxm161 S0 ws) S0 rxC161.2.2.1 i q := by
  intro i q hq hus p e R s m args below meth c Q H0 hF hA hH0 hmc hms hd hdl
  match i, hq with
  | 0, hq =>
    cases hq
    exact absurd (show false = true from hus) Bool.false_ne_true
  | 1, hq =>
    cases hq
    exact rx_stepC (ins := .invokevirtual 110) (len := 3) (i_p := 2) (M_p := rxM110) (d := rxC161.2.2.2.1) (as := [.inr (3, (0, 0)), .inr (0, (0, (-3)))]) (t := []) (ct := rxC110) hPX hF rfl hA hH0 hmc hms hd hdl (by decide +kernel) rfl rfl (by decide +kernel) (by decide +kernel) hQ110 (by decide +kernel) rfl (Or.inr ⟨_, _, _, 1, rfl, rfl, by omega, rfl, rfl, rfl⟩) (rxs161_1 hP)
  | 2, hq =>
    cases hq
    exact absurd (show false = true from hus) Bool.false_ne_true
  | n + 3, hq => cases hq
theorem rxQ161 {PX : State → Prop} {Dg : va_G} {A : Nat → Prop} {ad xa : Nat → Nat} {l : Launch} {X : (Nat → Int → Int) → Prop} (hPX : rx_PXOK rxNW A PX) (hsl : ∀ s : State, PX s → ∀ o idx n : Nat, rxSl o idx = some n → ∃ tx : String, vk_R (rxNm o) idx tx (ad n) s)
    (hX : ∀ S S_p : Nat → Int → Int, X S → bx_same rxL (bx_mdl rxC161.2.2.1) S S_p → X S_p)
    (ih : ∀ (j2 : Nat) (ct2 : bx_Ct) (M2 : rx_Mt), ct2 ∈ rxCnE j2 → ct2.2.2.2.1 + 1 ≤ rxC161.2.2.2.1 → rxT.2.2.2.2.2 j2 = some M2 → bx_Con rxG rxNW rxAO PX Dg rxL X vwCl A ad l M2 ct2) (hQ110 : bx_ConP rxG rxNW rxAO PX Dg rxL X vwCl A ad l rxM110 rxC110 rxP110 rxPS110) : bx_ConP rxG rxNW rxAO PX Dg rxL X vwCl A ad l rxM161 rxC161 rxP161 rxPS161 :=
  rxQof (xa := xa) (Cn := rxCnE) (f := 30000) (j := 161) (tab := rxY161) (us := rxU161) hPX hsl hX ih rfl rxYc161 rxI161 rxm161
    (fun S0 ws r I0 I ht0 ht as he he1 hX0 hI0 hP hs ha => by
      have e := he.symm.trans (show bx_ent0 rxNP rxC161.1 bx_I0 [] = some ([(0, 0), (0, 0), (0, 0), (0, 0), (0, 0), (0, 0), (0, 0), (0, 0)], [], [.inr (3, (0, 0))]) from rfl)
      cases e
      subst ha
      have h0 : r 0 = 0 := hs.1
      show rxI161_0 S0 _ S0
      refine ⟨rfl, ?_⟩
      simp only [List.map_cons, List.map_nil, bx_xv_ok h0]
      rfl)
    (fun S0 ws hP => rxu161 (xa := xa) hPX hX hQ110 hP) (fun S0 ws hP => rxgC161 hP) (fun S0 ws hP => rxgE161 hP)
