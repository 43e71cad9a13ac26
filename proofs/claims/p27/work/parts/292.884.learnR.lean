noncomputable def rxI160_0 (S0 : Nat → Int → Int) (ws : List Int) (S : Nat → Int → Int) (vs ps sl : Int) : Prop := S = S0 ∧ ws = [480, vs, ps, sl]
noncomputable def rxm160_0 (S0 : Nat → Int → Int) (ws : List Int) (S : Nat → Int → Int) (vs ps sl : Int) : Nat := 1000
noncomputable def rxI160_1 (S0 : Nat → Int → Int) (ws : List Int) (S : Nat → Int → Int) (vs ps sl pt hd y : Int) : Prop := S = bx_up S0 480 0 0 ∧ ws = [480, vs, ps, sl] ∧ (-1 ≤ sl ∧ 0 ≤ vs ∧ vs < S0 482 2 ∧ 0 ≤ ps ∧ ps < S0 482 1) ∧ (pt = S0 482 (262 + 3 * vs) ∧ hd = S0 482 (263 + 3 * vs) ∧ y = S0 482 7) ∧ (hd ≠ ps ∧ rqAl (S0 482) hd ∧ rqAl (S0 482) ps)
noncomputable def rxm160_1 (S0 : Nat → Int → Int) (ws : List Int) (S : Nat → Int → Int) (vs ps sl pt hd y : Int) : Nat := 900
noncomputable def rxI160_2 (S0 : Nat → Int → Int) (ws : List Int) (S : Nat → Int → Int) (vs ps sl pt hd y r : Int) : Prop := ws = [480, vs, ps, sl] ∧ (-1 ≤ sl ∧ 0 ≤ vs ∧ vs < S0 482 2 ∧ 0 ≤ ps ∧ ps < S0 482 1) ∧ (pt = S0 482 (262 + 3 * vs) ∧ hd = S0 482 (263 + 3 * vs) ∧ y = S0 482 7) ∧ (hd ≠ ps ∧ rqAl (S0 482) hd ∧ rqAl (S0 482) ps) ∧ (∃ x : Int, rqAs (S0 482) ps pt hd y 2 0 x ∧ r = if x = 1 then 1 else 0) ∧ (∀ j : Int, 0 ≤ j → j < 6180 → S 482 j = S0 482 j) ∧ rxX S
noncomputable def rxm160_2 (S0 : Nat → Int → Int) (ws : List Int) (S : Nat → Int → Int) (vs ps sl pt hd y r : Int) : Nat := 800
noncomputable def rxI160_3 (S0 : Nat → Int → Int) (ws : List Int) (S : Nat → Int → Int) (vs ps sl pt hd y tg : Int) : Prop := ws = [480, vs, ps, sl] ∧ (-1 ≤ sl ∧ 0 ≤ vs ∧ vs < S0 482 2 ∧ 0 ≤ ps ∧ ps < S0 482 1) ∧ (pt = S0 482 (262 + 3 * vs) ∧ hd = S0 482 (263 + 3 * vs) ∧ y = S0 482 7) ∧ (hd ≠ ps ∧ rqAl (S0 482) hd ∧ rqAl (S0 482) ps) ∧ (∃ x : Int, rqAs (S0 482) ps pt hd y 2 0 x ∧ x ≠ 1) ∧ tg = rqYt (S0 482) ps hd ∧ (∀ j : Int, 0 ≤ j → j < 6180 → S 482 j = S0 482 j) ∧ rxX S
noncomputable def rxm160_3 (S0 : Nat → Int → Int) (ws : List Int) (S : Nat → Int → Int) (vs ps sl pt hd y tg : Int) : Nat := 700
noncomputable def rxI160_4 (S0 : Nat → Int → Int) (ws : List Int) (S : Nat → Int → Int) (vs ps sl pt hd y tg r2 : Int) : Prop := ws = [480, vs, ps, sl] ∧ (-1 ≤ sl ∧ 0 ≤ vs ∧ vs < S0 482 2 ∧ 0 ≤ ps ∧ ps < S0 482 1) ∧ (pt = S0 482 (262 + 3 * vs) ∧ hd = S0 482 (263 + 3 * vs) ∧ y = S0 482 7) ∧ (hd ≠ ps ∧ rqAl (S0 482) hd ∧ rqAl (S0 482) ps) ∧ (∃ x : Int, rqAs (S0 482) ps pt hd y 2 0 x ∧ x ≠ 1) ∧ tg = rqYt (S0 482) ps hd ∧ (∃ x : Int, rqAs (S0 482) ps pt hd y 1 1 x ∧ r2 = rkNear x 99) ∧ (∀ j : Int, 0 ≤ j → j < 298 → S 482 j = S0 482 j)
noncomputable def rxm160_4 (S0 : Nat → Int → Int) (ws : List Int) (S : Nat → Int → Int) (vs ps sl pt hd y tg r2 : Int) : Nat := 600
noncomputable def rxI160_5 (S0 : Nat → Int → Int) (ws : List Int) (S : Nat → Int → Int) (vs ps sl pt hd y n b i n2 : Int) : Prop := ws = [480, vs, ps, sl] ∧ (-1 ≤ sl ∧ 0 ≤ vs ∧ vs < S0 482 2 ∧ 0 ≤ ps ∧ ps < S0 482 1) ∧ rqMl (S0 482) (S0 482 (262 + 3 * vs)) (S0 482 (263 + 3 * vs)) ps ∧ (pt = S0 482 (262 + 3 * vs) ∧ hd = S0 482 (263 + 3 * vs) ∧ y = S0 482 7) ∧ (n = S0 482 2 ∧ n2 = n) ∧ (∀ j : Int, 0 ≤ j → j < 298 → S 482 j = S0 482 j)
noncomputable def rxm160_5 (S0 : Nat → Int → Int) (ws : List Int) (S : Nat → Int → Int) (vs ps sl pt hd y n b i n2 : Int) : Nat := (100 - i).toNat + 50
noncomputable def rxI160_6 (S0 : Nat → Int → Int) (ws : List Int) (S : Nat → Int → Int) (vs ps sl pt hd y n b me st k n2 : Int) : Prop := ws = [480, vs, ps, sl] ∧ (-1 ≤ sl ∧ 0 ≤ vs ∧ vs < S0 482 2 ∧ 0 ≤ ps ∧ ps < S0 482 1) ∧ rqMl (S0 482) (S0 482 (262 + 3 * vs)) (S0 482 (263 + 3 * vs)) ps ∧ (pt = S0 482 (262 + 3 * vs) ∧ hd = S0 482 (263 + 3 * vs) ∧ y = S0 482 7) ∧ (n = S0 482 2 ∧ n2 = n) ∧ me ≤ k ∧ (∀ j : Int, 0 ≤ j → j < 298 → S 482 j = S0 482 j)
noncomputable def rxP160 (S0 : Nat → Int → Int) (ws : List Int) : Prop := rxX S0 ∧ rqLp (S0 482)
noncomputable def rxPS160 (S0 : Nat → Int → Int) (ws : List Int) (S : Nat → Int → Int) (w : Option Int) : Prop := ∃ vs ps sl : Int, ws = [480, vs, ps, sl] ∧ ((sl < -1 ∧ w = some (-1) ∧ (∀ j : Int, 0 ≤ j → j < 298 → S 482 j = S0 482 j)) ∨ ((-1 ≤ sl ∧ (vs < 0 ∨ S0 482 2 ≤ vs ∨ ps < 0 ∨ S0 482 1 ≤ ps)) ∧ w = some (-2) ∧ (∀ j : Int, 0 ≤ j → j < 298 → S 482 j = S0 482 j)) ∨ ((-1 ≤ sl ∧ 0 ≤ vs ∧ vs < S0 482 2 ∧ 0 ≤ ps ∧ ps < S0 482 1) ∧ rqMln (S0 482) (S0 482 (262 + 3 * vs)) (S0 482 (263 + 3 * vs)) ps ∧ w = some (-3) ∧ (∀ j : Int, 0 ≤ j → j < 298 → S 482 j = S0 482 j)) ∨ ((-1 ≤ sl ∧ 0 ≤ vs ∧ vs < S0 482 2 ∧ 0 ≤ ps ∧ ps < S0 482 1) ∧ rqMl (S0 482) (S0 482 (262 + 3 * vs)) (S0 482 (263 + 3 * vs)) ps ∧ S0 482 2 = 12 ∧ w = some (-5) ∧ (∀ j : Int, 0 ≤ j → j < 298 → S 482 j = S0 482 j)) ∨ ((-1 ≤ sl ∧ 0 ≤ vs ∧ vs < S0 482 2 ∧ 0 ≤ ps ∧ ps < S0 482 1) ∧ rqMl (S0 482) (S0 482 (262 + 3 * vs)) (S0 482 (263 + 3 * vs)) ps ∧ S0 482 2 < 12 ∧ w = some (S0 482 2) ∧ S 482 2 = S0 482 2 + 1 ∧ (∀ i : Int, 0 ≤ i → i < 12 → S 482 (262 + 3 * i) = if i = S0 482 2 then (S0 482 (262 + 3 * vs)) else S0 482 (262 + 3 * i)) ∧ (∀ i : Int, 0 ≤ i → i < 12 → S 482 (263 + 3 * i) = if i = S0 482 2 then ps else S0 482 (263 + 3 * i)) ∧ (∀ i : Int, 0 ≤ i → i < 12 → S 482 (264 + 3 * i) = if i = S0 482 2 then vs else S0 482 (264 + 3 * i))))
theorem rxk160_1 {S0 : Nat → Int → Int} {ws : List Int} {S : Nat → Int → Int} {vs ps sl pt hd y : Int} (hP : rxP160 S0 ws) (hin : bx_same rxL (bx_mdl rxC160.2.2.1) S0 S) (I0 : bx_Inv rxL S) (hinv : rxI160_1 S0 ws S vs ps sl pt hd y) (l8 : 0 ≤ vs) (u8 : vs ≤ 11) (l9 : 0 ≤ ps) (u9 : ps ≤ 7) (l10 : (-1) ≤ sl) (u10 : sl ≤ 2147483647) (l11 : 0 ≤ pt) (u11 : pt ≤ 5) (l12 : 0 ≤ hd) (u12 : hd ≤ 7) (l13 : 0 ≤ y) (u13 : y ≤ 300) : rxPBAX S [480, ps, pt, hd, y] ∧ ∀ (S_p : Nat → Int → Int) (r : Int), 0 ≤ r → r ≤ 1 → rxPSBAX S [480, ps, pt, hd, y] S_p (some r) → bx_Inv rxL S_p → bx_same rxL (bx_mdl rxCBAX.2.2.1) S S_p → rxI160_2 S0 ws S_p vs ps sl pt hd y r ∧ rxm160_2 S0 ws S_p vs ps sl pt hd y r < rxm160_1 S0 ws S vs ps sl pt hd y := by
  obtain ⟨hS, hw, hg, hl, ha⟩ := hinv
  have e482 : S 482 = S0 482 := by
    rw [hS]
    exact funext fun _ => bx_up_ne (by omega)
  have hx : rxX S := by
    rw [hS]
    exact rxX_up0 hP.1
  refine ⟨⟨hx, by rw [e482]; exact hP.2⟩, fun S_p r _ _ hq _ hsm => ⟨⟨hw, hg, hl, ha, ?_, fun j a b => (rx_sameR hsm (p := 482) (tc := 0) (n := 6180) (g := 63) rfl (by omega) (by decide +kernel) (by decide +kernel) a (by omega)).trans (congrFun e482 j), rxX_of (by decide +kernel) hx hsm⟩, by unfold rxm160_1 rxm160_2; omega⟩⟩
  obtain ⟨p2, pa2, t2, y2, x, hw3, h1, h2⟩ := hq
  have k0 : ps = p2 := Option.some.inj (congrArg (fun l : List Int => l[1]?) hw3)
  have k1 : pt = pa2 := Option.some.inj (congrArg (fun l : List Int => l[2]?) hw3)
  have k2 : hd = t2 := Option.some.inj (congrArg (fun l : List Int => l[3]?) hw3)
  have k3 : y = y2 := Option.some.inj (congrArg (fun l : List Int => l[4]?) hw3)
  subst k0
  subst k1
  subst k2
  subst k3
  rw [e482] at h1
  exact ⟨x, h1, Option.some.inj h2⟩
theorem rxk160_3 {S0 : Nat → Int → Int} {ws : List Int} {S : Nat → Int → Int} {vs ps sl pt hd y tg : Int} (hP : rxP160 S0 ws) (hin : bx_same rxL (bx_mdl rxC160.2.2.1) S0 S) (I0 : bx_Inv rxL S) (hinv : rxI160_3 S0 ws S vs ps sl pt hd y tg) (l8 : 0 ≤ vs) (u8 : vs ≤ 11) (l9 : 0 ≤ ps) (u9 : ps ≤ 7) (l10 : (-1) ≤ sl) (u10 : sl ≤ 2147483647) (l11 : 0 ≤ pt) (u11 : pt ≤ 5) (l12 : 0 ≤ hd) (u12 : hd ≤ 7) (l13 : 0 ≤ y) (u13 : y ≤ 300) (l14 : (-200) ≤ tg) (u14 : tg ≤ 300) : rxPHOX S [480, ps, pt, hd, y] ∧ ∀ (S_p : Nat → Int → Int) (r2 : Int), 0 ≤ r2 → r2 ≤ 99 → rxPSHOX S [480, ps, pt, hd, y] S_p (some r2) → bx_Inv rxL S_p → bx_same rxL (bx_mdl rxCHOX.2.2.1) S S_p → rxI160_4 S0 ws S_p vs ps sl pt hd y tg r2 ∧ rxm160_4 S0 ws S_p vs ps sl pt hd y tg r2 < rxm160_3 S0 ws S vs ps sl pt hd y tg := by
  obtain ⟨hw, hg, hl, ha, hb, ht, hf, hx⟩ := hinv
  have b4 : -1 ≤ S 482 4 ∧ S 482 4 ≤ 5 := I0 482 4 (by decide) (by decide)
  have q4 := hf 4 (by decide) (by decide)
  refine ⟨⟨hx, rqLp_cg (R := S0 482) hf ⟨by omega, by omega⟩ hP.2⟩, fun S_p r2 _ _ hq _ hsm => ⟨⟨hw, hg, hl, ha, hb, ht, ?_, fun j a b => (rx_sameR hsm (p := 482) (tc := 0) (n := 6180) (g := 63) rfl (by omega) (by decide +kernel) (by decide +kernel) a (by omega)).trans (hf j a (by omega))⟩, by unfold rxm160_3 rxm160_4; omega⟩⟩
  obtain ⟨p2, pa2, t2, y2, x, hw3, h1, h2⟩ := hq
  have k0 : ps = p2 := Option.some.inj (congrArg (fun l : List Int => l[1]?) hw3)
  have k1 : pt = pa2 := Option.some.inj (congrArg (fun l : List Int => l[2]?) hw3)
  have k2 : hd = t2 := Option.some.inj (congrArg (fun l : List Int => l[3]?) hw3)
  have k3 : y = y2 := Option.some.inj (congrArg (fun l : List Int => l[4]?) hw3)
  subst k0
  subst k1
  subst k2
  subst k3
  exact ⟨x, rqAs_cg (fun j a b => (hf j a b).symm) b4 (by omega) (by omega) h1, Option.some.inj h2⟩
theorem rxc160_0_0 {S0 : Nat → Int → Int} {ws : List Int} {S : Nat → Int → Int} {vs ps sl x11 x12 x13 x14 x15 x16 x17 x18 x19 x20 x21 x22 x23 x24 x25 : Int} (hP : rxP160 S0 ws) (hin : bx_same rxL (bx_mdl rxC160.2.2.1) S0 S) (I0 : bx_Inv rxL S) (hinv : rxI160_0 S0 ws S vs ps sl) (l8 : 0 ≤ vs) (u8 : vs ≤ 11) (l9 : 0 ≤ ps) (u9 : ps ≤ 7) (l10 : (-1) ≤ sl) (u10 : sl ≤ 2147483647) (l11 : 1 ≤ x11) (u11 : x11 ≤ 12) (l12 : 1 ≤ x12) (u12 : x12 ≤ 8) (l13 : 0 ≤ x13) (u13 : x13 ≤ 33) (l14 : 0 ≤ x14) (u14 : x14 ≤ 5) (l15 : 0 ≤ x15) (u15 : x15 ≤ 33) (l16 : 0 ≤ x16) (u16 : x16 ≤ 7) (l17 : 0 ≤ x17) (u17 : x17 ≤ 299) (l18 : 0 ≤ x18) (u18 : x18 ≤ 21) (l19 : 0 ≤ x19) (u19 : x19 ≤ 200) (l20 : 0 ≤ x20) (u20 : x20 ≤ 21) (l21 : 1 ≤ x21) (u21 : x21 ≤ 300) (l22 : 0 ≤ x22) (u22 : x22 ≤ 21) (l23 : 0 ≤ x23) (u23 : x23 ≤ 200) (l24 : 0 ≤ x24) (u24 : x24 ≤ 21) (l25 : 1 ≤ x25) (u25 : x25 ≤ 300) (f0 : x17 ≤ x25 + (-1)) (f1 : x23 ≤ x17) (f2 : x24 = 3 * (ps)) (f3 : x22 = 3 * (ps)) (f4 : x17 ≤ x21 + (-1)) (f5 : x19 ≤ x17) (f6 : x20 = 3 * (x16)) (f7 : x18 = 3 * (x16)) (f8 : x16 ≠ ps) (f9 : x15 = 3 * (vs)) (f10 : x13 = 3 * (vs)) (f11 : ps ≤ x12 + (-1)) (f12 : vs ≤ x11 + (-1)) (e8 : (bx_up S 480 0 0) 482 2 = x11) (e7 : (bx_up S 480 0 0) 482 1 = x12) (e6 : (bx_up S 480 0 0) 482 (x13 + 262) = x14) (e5 : (bx_up S 480 0 0) 482 (x15 + 263) = x16) (e4 : (bx_up S 480 0 0) 482 7 = x17) (e3 : (bx_up S 480 0 0) 482 (x18 + 238) = x19) (e2 : (bx_up S 480 0 0) 482 (x20 + 239) = x21) (e1 : (bx_up S 480 0 0) 482 (x22 + 238) = x23) (e0 : (bx_up S 480 0 0) 482 (x24 + 239) = x25) : (True) ∧ (True) ∧ rxI160_1 S0 ws (bx_up S 480 0 0) vs ps sl x14 x16 x17 ∧ rxm160_1 S0 ws (bx_up S 480 0 0) vs ps sl x14 x16 x17 < rxm160_0 S0 ws S vs ps sl := by
  obtain ⟨rfl, hw⟩ := hinv
  have ze8 : S 482 2 = x11 := (((bx_up_ne (by omega))).symm.trans e8)
  have ze7 : S 482 1 = x12 := (((bx_up_ne (by omega))).symm.trans e7)
  have ze6 : S 482 (x13 + 262) = x14 := (((bx_up_ne (by omega))).symm.trans e6)
  have ze5 : S 482 (x15 + 263) = x16 := (((bx_up_ne (by omega))).symm.trans e5)
  have ze4 : S 482 7 = x17 := (((bx_up_ne (by omega))).symm.trans e4)
  have ze3 : S 482 (x18 + 238) = x19 := (((bx_up_ne (by omega))).symm.trans e3)
  have ze2 : S 482 (x20 + 239) = x21 := (((bx_up_ne (by omega))).symm.trans e2)
  have ze1 : S 482 (x22 + 238) = x23 := (((bx_up_ne (by omega))).symm.trans e1)
  have ze0 : S 482 (x24 + 239) = x25 := (((bx_up_ne (by omega))).symm.trans e0)
  have ae6 : S 482 (262 + 3 * vs) = x14 := by
    rw [show (262 + 3 * vs : Int) = x13 + 262 by omega]
    exact ze6
  have ae5 : S 482 (263 + 3 * vs) = x16 := by
    rw [show (263 + 3 * vs : Int) = x15 + 263 by omega]
    exact ze5
  have ae3 : S 482 (238 + 3 * x16) = x19 := by
    rw [show (238 + 3 * x16 : Int) = x18 + 238 by omega]
    exact ze3
  have ae2 : S 482 (239 + 3 * x16) = x21 := by
    rw [show (239 + 3 * x16 : Int) = x20 + 239 by omega]
    exact ze2
  have ae1 : S 482 (238 + 3 * ps) = x23 := by
    rw [show (238 + 3 * ps : Int) = x22 + 238 by omega]
    exact ze1
  have ae0 : S 482 (239 + 3 * ps) = x25 := by
    rw [show (239 + 3 * ps : Int) = x24 + 239 by omega]
    exact ze0
  exact ⟨trivial, trivial, ⟨rfl, hw, by omega, ⟨by omega, by omega, by omega⟩, ⟨by omega, ⟨by omega, by omega⟩, ⟨by omega, by omega⟩⟩⟩, by unfold rxm160_0 rxm160_1; omega⟩
theorem rxd160_0_0 {S0 : Nat → Int → Int} {ws : List Int} {S : Nat → Int → Int} {vs ps sl x11 x12 : Int} (hP : rxP160 S0 ws) (hin : bx_same rxL (bx_mdl rxC160.2.2.1) S0 S) (hin2 : bx_same rxL (bx_mdl rxC160.2.2.1) S (bx_up (bx_up (bx_up S 480 0 0) 480 1 ((-1))) 481 1 x12)) (I0 : bx_Inv rxL S) (I1 : bx_Inv rxL (bx_up (bx_up (bx_up S 480 0 0) 480 1 ((-1))) 481 1 x12)) (hinv : rxI160_0 S0 ws S vs ps sl) (l8 : (-2147483648) ≤ vs) (u8 : vs ≤ 2147483647) (l9 : (-2147483648) ≤ ps) (u9 : ps ≤ 2147483647) (l10 : (-2147483648) ≤ sl) (u10 : sl ≤ (-2)) (l11 : (-2147483648) ≤ x11) (u11 : x11 ≤ 2147483647) (l12 : (-2147483648) ≤ x12) (u12 : x12 ≤ 2147483647) (e1 : (bx_up (bx_up S 480 0 0) 480 1 ((-1))) 481 1 = x11) : (True) ∧ rxPS160 S0 ws (bx_up (bx_up (bx_up S 480 0 0) 480 1 ((-1))) 481 1 x12) (some ((-1))) := by
  obtain ⟨rfl, hw⟩ := hinv
  have ze1 : S 481 1 = x11 := (((bx_up_ne (by omega)).trans ((bx_up_ne (by omega)))).symm.trans e1)
  exact ⟨trivial, vs, ps, sl, hw, Or.inl ⟨by omega, rfl, fun j j0 j1 => (bx_up_ne (by omega)).trans ((bx_up_ne (by omega)).trans (bx_up_ne (by omega)))⟩⟩
theorem rxd160_0_1 {S0 : Nat → Int → Int} {ws : List Int} {S : Nat → Int → Int} {vs ps sl x11 x12 x13 x14 x15 x16 x17 x18 x19 x20 x21 x22 x23 x24 x25 x26 x27 : Int} (hP : rxP160 S0 ws) (hin : bx_same rxL (bx_mdl rxC160.2.2.1) S0 S) (hin2 : bx_same rxL (bx_mdl rxC160.2.2.1) S (bx_up (bx_up (bx_up S 480 0 0) 480 1 ((-3))) 481 3 x27)) (I0 : bx_Inv rxL S) (I1 : bx_Inv rxL (bx_up (bx_up (bx_up S 480 0 0) 480 1 ((-3))) 481 3 x27)) (hinv : rxI160_0 S0 ws S vs ps sl) (l8 : 0 ≤ vs) (u8 : vs ≤ 11) (l9 : 0 ≤ ps) (u9 : ps ≤ 7) (l10 : (-1) ≤ sl) (u10 : sl ≤ 2147483647) (l11 : 1 ≤ x11) (u11 : x11 ≤ 12) (l12 : 1 ≤ x12) (u12 : x12 ≤ 8) (l13 : 0 ≤ x13) (u13 : x13 ≤ 33) (l14 : 0 ≤ x14) (u14 : x14 ≤ 5) (l15 : 0 ≤ x15) (u15 : x15 ≤ 33) (l16 : 0 ≤ x16) (u16 : x16 ≤ 7) (l17 : 0 ≤ x17) (u17 : x17 ≤ 299) (l18 : 0 ≤ x18) (u18 : x18 ≤ 21) (l19 : 0 ≤ x19) (u19 : x19 ≤ 200) (l20 : 0 ≤ x20) (u20 : x20 ≤ 21) (l21 : 1 ≤ x21) (u21 : x21 ≤ 300) (l22 : 0 ≤ x22) (u22 : x22 ≤ 21) (l23 : 0 ≤ x23) (u23 : x23 ≤ 200) (l24 : 0 ≤ x24) (u24 : x24 ≤ 21) (l25 : 0 ≤ x25) (u25 : x25 ≤ 299) (l26 : (-2147483648) ≤ x26) (u26 : x26 ≤ 2147483647) (l27 : (-2147483648) ≤ x27) (u27 : x27 ≤ 2147483647) (f0 : x25 + (-1) < x17) (f1 : x23 ≤ x17) (f2 : x24 = 3 * (ps)) (f3 : x22 = 3 * (ps)) (f4 : x17 ≤ x21 + (-1)) (f5 : x19 ≤ x17) (f6 : x20 = 3 * (x16)) (f7 : x18 = 3 * (x16)) (f8 : x16 ≠ ps) (f9 : x15 = 3 * (vs)) (f10 : x13 = 3 * (vs)) (f11 : ps ≤ x12 + (-1)) (f12 : vs ≤ x11 + (-1)) (e11 : (bx_up S 480 0 0) 482 2 = x11) (e10 : (bx_up S 480 0 0) 482 1 = x12) (e9 : (bx_up S 480 0 0) 482 (x13 + 262) = x14) (e8 : (bx_up S 480 0 0) 482 (x15 + 263) = x16) (e7 : (bx_up S 480 0 0) 482 7 = x17) (e6 : (bx_up S 480 0 0) 482 (x18 + 238) = x19) (e5 : (bx_up S 480 0 0) 482 (x20 + 239) = x21) (e4 : (bx_up S 480 0 0) 482 (x22 + 238) = x23) (e3 : (bx_up S 480 0 0) 482 (x24 + 239) = x25) (e1 : (bx_up (bx_up S 480 0 0) 480 1 ((-3))) 481 3 = x26) : (True) ∧ rxPS160 S0 ws (bx_up (bx_up (bx_up S 480 0 0) 480 1 ((-3))) 481 3 x27) (some ((-3))) := by
  obtain ⟨rfl, hw⟩ := hinv
  have ze11 : S 482 2 = x11 := (((bx_up_ne (by omega))).symm.trans e11)
  have ze10 : S 482 1 = x12 := (((bx_up_ne (by omega))).symm.trans e10)
  have ze9 : S 482 (x13 + 262) = x14 := (((bx_up_ne (by omega))).symm.trans e9)
  have ze8 : S 482 (x15 + 263) = x16 := (((bx_up_ne (by omega))).symm.trans e8)
  have ze7 : S 482 7 = x17 := (((bx_up_ne (by omega))).symm.trans e7)
  have ze6 : S 482 (x18 + 238) = x19 := (((bx_up_ne (by omega))).symm.trans e6)
  have ze5 : S 482 (x20 + 239) = x21 := (((bx_up_ne (by omega))).symm.trans e5)
  have ze4 : S 482 (x22 + 238) = x23 := (((bx_up_ne (by omega))).symm.trans e4)
  have ze3 : S 482 (x24 + 239) = x25 := (((bx_up_ne (by omega))).symm.trans e3)
  have ze1 : S 481 3 = x26 := (((bx_up_ne (by omega)).trans ((bx_up_ne (by omega)))).symm.trans e1)
  have ae9 : S 482 (262 + 3 * vs) = x14 := by
    rw [show (262 + 3 * vs : Int) = x13 + 262 by omega]
    exact ze9
  have ae8 : S 482 (263 + 3 * vs) = x16 := by
    rw [show (263 + 3 * vs : Int) = x15 + 263 by omega]
    exact ze8
  have ae6 : S 482 (238 + 3 * x16) = x19 := by
    rw [show (238 + 3 * x16 : Int) = x18 + 238 by omega]
    exact ze6
  have ae5 : S 482 (239 + 3 * x16) = x21 := by
    rw [show (239 + 3 * x16 : Int) = x20 + 239 by omega]
    exact ze5
  have ae4 : S 482 (238 + 3 * ps) = x23 := by
    rw [show (238 + 3 * ps : Int) = x22 + 238 by omega]
    exact ze4
  have ae3 : S 482 (239 + 3 * ps) = x25 := by
    rw [show (239 + 3 * ps : Int) = x24 + 239 by omega]
    exact ze3
  have hq : rqMln (S 482) (S 482 (262 + 3 * vs)) (S 482 (263 + 3 * vs)) ps := by
    rw [ae8]
    first
    | exact Or.inl (by omega)
    | exact Or.inr (Or.inl (fun c => by
      have c1 : S 482 (238 + 3 * x16) ≤ S 482 7 := c.1
      have c2 : S 482 7 < S 482 (239 + 3 * x16) := c.2
      omega))
    | exact Or.inr (Or.inr (Or.inl (fun c => by
      have c1 : S 482 (238 + 3 * ps) ≤ S 482 7 := c.1
      have c2 : S 482 7 < S 482 (239 + 3 * ps) := c.2
      omega)))
  exact ⟨trivial, vs, ps, sl, hw, Or.inr (Or.inr (Or.inl ⟨by omega, hq, rfl, fun j j0 j1 => (bx_up_ne (by omega)).trans ((bx_up_ne (by omega)).trans (bx_up_ne (by omega)))⟩))⟩
theorem rxd160_0_2 {S0 : Nat → Int → Int} {ws : List Int} {S : Nat → Int → Int} {vs ps sl x11 x12 x13 x14 x15 x16 x17 x18 x19 x20 x21 x22 x23 x24 x25 x26 x27 : Int} (hP : rxP160 S0 ws) (hin : bx_same rxL (bx_mdl rxC160.2.2.1) S0 S) (hin2 : bx_same rxL (bx_mdl rxC160.2.2.1) S (bx_up (bx_up (bx_up S 480 0 0) 480 1 ((-3))) 481 3 x27)) (I0 : bx_Inv rxL S) (I1 : bx_Inv rxL (bx_up (bx_up (bx_up S 480 0 0) 480 1 ((-3))) 481 3 x27)) (hinv : rxI160_0 S0 ws S vs ps sl) (l8 : 0 ≤ vs) (u8 : vs ≤ 11) (l9 : 0 ≤ ps) (u9 : ps ≤ 7) (l10 : (-1) ≤ sl) (u10 : sl ≤ 2147483647) (l11 : 1 ≤ x11) (u11 : x11 ≤ 12) (l12 : 1 ≤ x12) (u12 : x12 ≤ 8) (l13 : 0 ≤ x13) (u13 : x13 ≤ 33) (l14 : 0 ≤ x14) (u14 : x14 ≤ 5) (l15 : 0 ≤ x15) (u15 : x15 ≤ 33) (l16 : 0 ≤ x16) (u16 : x16 ≤ 7) (l17 : 0 ≤ x17) (u17 : x17 ≤ 199) (l18 : 0 ≤ x18) (u18 : x18 ≤ 21) (l19 : 0 ≤ x19) (u19 : x19 ≤ 199) (l20 : 0 ≤ x20) (u20 : x20 ≤ 21) (l21 : 1 ≤ x21) (u21 : x21 ≤ 300) (l22 : 0 ≤ x22) (u22 : x22 ≤ 21) (l23 : 1 ≤ x23) (u23 : x23 ≤ 200) (l24 : 0 ≤ x24) (u24 : x24 ≤ 21) (l25 : 0 ≤ x25) (u25 : x25 ≤ 300) (l26 : (-2147483648) ≤ x26) (u26 : x26 ≤ 2147483647) (l27 : (-2147483648) ≤ x27) (u27 : x27 ≤ 2147483647) (f0 : x17 < x23) (f1 : x24 = 3 * (ps)) (f2 : x22 = 3 * (ps)) (f3 : x17 ≤ x21 + (-1)) (f4 : x19 ≤ x17) (f5 : x20 = 3 * (x16)) (f6 : x18 = 3 * (x16)) (f7 : x16 ≠ ps) (f8 : x15 = 3 * (vs)) (f9 : x13 = 3 * (vs)) (f10 : ps ≤ x12 + (-1)) (f11 : vs ≤ x11 + (-1)) (e11 : (bx_up S 480 0 0) 482 2 = x11) (e10 : (bx_up S 480 0 0) 482 1 = x12) (e9 : (bx_up S 480 0 0) 482 (x13 + 262) = x14) (e8 : (bx_up S 480 0 0) 482 (x15 + 263) = x16) (e7 : (bx_up S 480 0 0) 482 7 = x17) (e6 : (bx_up S 480 0 0) 482 (x18 + 238) = x19) (e5 : (bx_up S 480 0 0) 482 (x20 + 239) = x21) (e4 : (bx_up S 480 0 0) 482 (x22 + 238) = x23) (e3 : (bx_up S 480 0 0) 482 (x24 + 239) = x25) (e1 : (bx_up (bx_up S 480 0 0) 480 1 ((-3))) 481 3 = x26) : (True) ∧ rxPS160 S0 ws (bx_up (bx_up (bx_up S 480 0 0) 480 1 ((-3))) 481 3 x27) (some ((-3))) := by
  obtain ⟨rfl, hw⟩ := hinv
  have ze11 : S 482 2 = x11 := (((bx_up_ne (by omega))).symm.trans e11)
  have ze10 : S 482 1 = x12 := (((bx_up_ne (by omega))).symm.trans e10)
  have ze9 : S 482 (x13 + 262) = x14 := (((bx_up_ne (by omega))).symm.trans e9)
  have ze8 : S 482 (x15 + 263) = x16 := (((bx_up_ne (by omega))).symm.trans e8)
  have ze7 : S 482 7 = x17 := (((bx_up_ne (by omega))).symm.trans e7)
  have ze6 : S 482 (x18 + 238) = x19 := (((bx_up_ne (by omega))).symm.trans e6)
  have ze5 : S 482 (x20 + 239) = x21 := (((bx_up_ne (by omega))).symm.trans e5)
  have ze4 : S 482 (x22 + 238) = x23 := (((bx_up_ne (by omega))).symm.trans e4)
  have ze3 : S 482 (x24 + 239) = x25 := (((bx_up_ne (by omega))).symm.trans e3)
  have ze1 : S 481 3 = x26 := (((bx_up_ne (by omega)).trans ((bx_up_ne (by omega)))).symm.trans e1)
  have ae9 : S 482 (262 + 3 * vs) = x14 := by
    rw [show (262 + 3 * vs : Int) = x13 + 262 by omega]
    exact ze9
  have ae8 : S 482 (263 + 3 * vs) = x16 := by
    rw [show (263 + 3 * vs : Int) = x15 + 263 by omega]
    exact ze8
  have ae6 : S 482 (238 + 3 * x16) = x19 := by
    rw [show (238 + 3 * x16 : Int) = x18 + 238 by omega]
    exact ze6
  have ae5 : S 482 (239 + 3 * x16) = x21 := by
    rw [show (239 + 3 * x16 : Int) = x20 + 239 by omega]
    exact ze5
  have ae4 : S 482 (238 + 3 * ps) = x23 := by
    rw [show (238 + 3 * ps : Int) = x22 + 238 by omega]
    exact ze4
  have ae3 : S 482 (239 + 3 * ps) = x25 := by
    rw [show (239 + 3 * ps : Int) = x24 + 239 by omega]
    exact ze3
  have hq : rqMln (S 482) (S 482 (262 + 3 * vs)) (S 482 (263 + 3 * vs)) ps := by
    rw [ae8]
    first
    | exact Or.inl (by omega)
    | exact Or.inr (Or.inl (fun c => by
      have c1 : S 482 (238 + 3 * x16) ≤ S 482 7 := c.1
      have c2 : S 482 7 < S 482 (239 + 3 * x16) := c.2
      omega))
    | exact Or.inr (Or.inr (Or.inl (fun c => by
      have c1 : S 482 (238 + 3 * ps) ≤ S 482 7 := c.1
      have c2 : S 482 7 < S 482 (239 + 3 * ps) := c.2
      omega)))
  exact ⟨trivial, vs, ps, sl, hw, Or.inr (Or.inr (Or.inl ⟨by omega, hq, rfl, fun j j0 j1 => (bx_up_ne (by omega)).trans ((bx_up_ne (by omega)).trans (bx_up_ne (by omega)))⟩))⟩
theorem rxd160_0_3 {S0 : Nat → Int → Int} {ws : List Int} {S : Nat → Int → Int} {vs ps sl x11 x12 x13 x14 x15 x16 x17 x18 x19 x20 x21 x22 x23 : Int} (hP : rxP160 S0 ws) (hin : bx_same rxL (bx_mdl rxC160.2.2.1) S0 S) (hin2 : bx_same rxL (bx_mdl rxC160.2.2.1) S (bx_up (bx_up (bx_up S 480 0 0) 480 1 ((-3))) 481 3 x23)) (I0 : bx_Inv rxL S) (I1 : bx_Inv rxL (bx_up (bx_up (bx_up S 480 0 0) 480 1 ((-3))) 481 3 x23)) (hinv : rxI160_0 S0 ws S vs ps sl) (l8 : 0 ≤ vs) (u8 : vs ≤ 11) (l9 : 0 ≤ ps) (u9 : ps ≤ 7) (l10 : (-1) ≤ sl) (u10 : sl ≤ 2147483647) (l11 : 1 ≤ x11) (u11 : x11 ≤ 12) (l12 : 1 ≤ x12) (u12 : x12 ≤ 8) (l13 : 0 ≤ x13) (u13 : x13 ≤ 33) (l14 : 0 ≤ x14) (u14 : x14 ≤ 5) (l15 : 0 ≤ x15) (u15 : x15 ≤ 33) (l16 : 0 ≤ x16) (u16 : x16 ≤ 7) (l17 : 0 ≤ x17) (u17 : x17 ≤ 300) (l18 : 0 ≤ x18) (u18 : x18 ≤ 21) (l19 : 0 ≤ x19) (u19 : x19 ≤ 200) (l20 : 0 ≤ x20) (u20 : x20 ≤ 21) (l21 : 0 ≤ x21) (u21 : x21 ≤ 300) (l22 : (-2147483648) ≤ x22) (u22 : x22 ≤ 2147483647) (l23 : (-2147483648) ≤ x23) (u23 : x23 ≤ 2147483647) (f0 : x21 + (-1) < x17) (f1 : x19 ≤ x17) (f2 : x20 = 3 * (x16)) (f3 : x18 = 3 * (x16)) (f4 : x16 ≠ ps) (f5 : x15 = 3 * (vs)) (f6 : x13 = 3 * (vs)) (f7 : ps ≤ x12 + (-1)) (f8 : vs ≤ x11 + (-1)) (e9 : (bx_up S 480 0 0) 482 2 = x11) (e8 : (bx_up S 480 0 0) 482 1 = x12) (e7 : (bx_up S 480 0 0) 482 (x13 + 262) = x14) (e6 : (bx_up S 480 0 0) 482 (x15 + 263) = x16) (e5 : (bx_up S 480 0 0) 482 7 = x17) (e4 : (bx_up S 480 0 0) 482 (x18 + 238) = x19) (e3 : (bx_up S 480 0 0) 482 (x20 + 239) = x21) (e1 : (bx_up (bx_up S 480 0 0) 480 1 ((-3))) 481 3 = x22) : (True) ∧ rxPS160 S0 ws (bx_up (bx_up (bx_up S 480 0 0) 480 1 ((-3))) 481 3 x23) (some ((-3))) := by
  obtain ⟨rfl, hw⟩ := hinv
  have ze9 : S 482 2 = x11 := (((bx_up_ne (by omega))).symm.trans e9)
  have ze8 : S 482 1 = x12 := (((bx_up_ne (by omega))).symm.trans e8)
  have ze7 : S 482 (x13 + 262) = x14 := (((bx_up_ne (by omega))).symm.trans e7)
  have ze6 : S 482 (x15 + 263) = x16 := (((bx_up_ne (by omega))).symm.trans e6)
  have ze5 : S 482 7 = x17 := (((bx_up_ne (by omega))).symm.trans e5)
  have ze4 : S 482 (x18 + 238) = x19 := (((bx_up_ne (by omega))).symm.trans e4)
  have ze3 : S 482 (x20 + 239) = x21 := (((bx_up_ne (by omega))).symm.trans e3)
  have ze1 : S 481 3 = x22 := (((bx_up_ne (by omega)).trans ((bx_up_ne (by omega)))).symm.trans e1)
  have ae7 : S 482 (262 + 3 * vs) = x14 := by
    rw [show (262 + 3 * vs : Int) = x13 + 262 by omega]
    exact ze7
  have ae6 : S 482 (263 + 3 * vs) = x16 := by
    rw [show (263 + 3 * vs : Int) = x15 + 263 by omega]
    exact ze6
  have ae4 : S 482 (238 + 3 * x16) = x19 := by
    rw [show (238 + 3 * x16 : Int) = x18 + 238 by omega]
    exact ze4
  have ae3 : S 482 (239 + 3 * x16) = x21 := by
    rw [show (239 + 3 * x16 : Int) = x20 + 239 by omega]
    exact ze3
  have hq : rqMln (S 482) (S 482 (262 + 3 * vs)) (S 482 (263 + 3 * vs)) ps := by
    rw [ae6]
    first
    | exact Or.inl (by omega)
    | exact Or.inr (Or.inl (fun c => by
      have c1 : S 482 (238 + 3 * x16) ≤ S 482 7 := c.1
      have c2 : S 482 7 < S 482 (239 + 3 * x16) := c.2
      omega))
    | exact Or.inr (Or.inr (Or.inl (fun c => by
      have c1 : S 482 (238 + 3 * ps) ≤ S 482 7 := c.1
      have c2 : S 482 7 < S 482 (239 + 3 * ps) := c.2
      omega)))
  exact ⟨trivial, vs, ps, sl, hw, Or.inr (Or.inr (Or.inl ⟨by omega, hq, rfl, fun j j0 j1 => (bx_up_ne (by omega)).trans ((bx_up_ne (by omega)).trans (bx_up_ne (by omega)))⟩))⟩
theorem rxd160_0_4 {S0 : Nat → Int → Int} {ws : List Int} {S : Nat → Int → Int} {vs ps sl x11 x12 x13 x14 x15 x16 x17 x18 x19 x20 x21 x22 x23 : Int} (hP : rxP160 S0 ws) (hin : bx_same rxL (bx_mdl rxC160.2.2.1) S0 S) (hin2 : bx_same rxL (bx_mdl rxC160.2.2.1) S (bx_up (bx_up (bx_up S 480 0 0) 480 1 ((-3))) 481 3 x23)) (I0 : bx_Inv rxL S) (I1 : bx_Inv rxL (bx_up (bx_up (bx_up S 480 0 0) 480 1 ((-3))) 481 3 x23)) (hinv : rxI160_0 S0 ws S vs ps sl) (l8 : 0 ≤ vs) (u8 : vs ≤ 11) (l9 : 0 ≤ ps) (u9 : ps ≤ 7) (l10 : (-1) ≤ sl) (u10 : sl ≤ 2147483647) (l11 : 1 ≤ x11) (u11 : x11 ≤ 12) (l12 : 1 ≤ x12) (u12 : x12 ≤ 8) (l13 : 0 ≤ x13) (u13 : x13 ≤ 33) (l14 : 0 ≤ x14) (u14 : x14 ≤ 5) (l15 : 0 ≤ x15) (u15 : x15 ≤ 33) (l16 : 0 ≤ x16) (u16 : x16 ≤ 7) (l17 : 0 ≤ x17) (u17 : x17 ≤ 199) (l18 : 0 ≤ x18) (u18 : x18 ≤ 21) (l19 : 1 ≤ x19) (u19 : x19 ≤ 200) (l20 : 0 ≤ x20) (u20 : x20 ≤ 21) (l21 : 0 ≤ x21) (u21 : x21 ≤ 300) (l22 : (-2147483648) ≤ x22) (u22 : x22 ≤ 2147483647) (l23 : (-2147483648) ≤ x23) (u23 : x23 ≤ 2147483647) (f0 : x17 < x19) (f1 : x20 = 3 * (x16)) (f2 : x18 = 3 * (x16)) (f3 : x16 ≠ ps) (f4 : x15 = 3 * (vs)) (f5 : x13 = 3 * (vs)) (f6 : ps ≤ x12 + (-1)) (f7 : vs ≤ x11 + (-1)) (e9 : (bx_up S 480 0 0) 482 2 = x11) (e8 : (bx_up S 480 0 0) 482 1 = x12) (e7 : (bx_up S 480 0 0) 482 (x13 + 262) = x14) (e6 : (bx_up S 480 0 0) 482 (x15 + 263) = x16) (e5 : (bx_up S 480 0 0) 482 7 = x17) (e4 : (bx_up S 480 0 0) 482 (x18 + 238) = x19) (e3 : (bx_up S 480 0 0) 482 (x20 + 239) = x21) (e1 : (bx_up (bx_up S 480 0 0) 480 1 ((-3))) 481 3 = x22) : (True) ∧ rxPS160 S0 ws (bx_up (bx_up (bx_up S 480 0 0) 480 1 ((-3))) 481 3 x23) (some ((-3))) := by
  obtain ⟨rfl, hw⟩ := hinv
  have ze9 : S 482 2 = x11 := (((bx_up_ne (by omega))).symm.trans e9)
  have ze8 : S 482 1 = x12 := (((bx_up_ne (by omega))).symm.trans e8)
  have ze7 : S 482 (x13 + 262) = x14 := (((bx_up_ne (by omega))).symm.trans e7)
  have ze6 : S 482 (x15 + 263) = x16 := (((bx_up_ne (by omega))).symm.trans e6)
  have ze5 : S 482 7 = x17 := (((bx_up_ne (by omega))).symm.trans e5)
  have ze4 : S 482 (x18 + 238) = x19 := (((bx_up_ne (by omega))).symm.trans e4)
  have ze3 : S 482 (x20 + 239) = x21 := (((bx_up_ne (by omega))).symm.trans e3)
  have ze1 : S 481 3 = x22 := (((bx_up_ne (by omega)).trans ((bx_up_ne (by omega)))).symm.trans e1)
  have ae7 : S 482 (262 + 3 * vs) = x14 := by
    rw [show (262 + 3 * vs : Int) = x13 + 262 by omega]
    exact ze7
  have ae6 : S 482 (263 + 3 * vs) = x16 := by
    rw [show (263 + 3 * vs : Int) = x15 + 263 by omega]
    exact ze6
  have ae4 : S 482 (238 + 3 * x16) = x19 := by
    rw [show (238 + 3 * x16 : Int) = x18 + 238 by omega]
    exact ze4
  have ae3 : S 482 (239 + 3 * x16) = x21 := by
    rw [show (239 + 3 * x16 : Int) = x20 + 239 by omega]
    exact ze3
  have hq : rqMln (S 482) (S 482 (262 + 3 * vs)) (S 482 (263 + 3 * vs)) ps := by
    rw [ae6]
    first
    | exact Or.inl (by omega)
    | exact Or.inr (Or.inl (fun c => by
      have c1 : S 482 (238 + 3 * x16) ≤ S 482 7 := c.1
      have c2 : S 482 7 < S 482 (239 + 3 * x16) := c.2
      omega))
    | exact Or.inr (Or.inr (Or.inl (fun c => by
      have c1 : S 482 (238 + 3 * ps) ≤ S 482 7 := c.1
      have c2 : S 482 7 < S 482 (239 + 3 * ps) := c.2
      omega)))
  exact ⟨trivial, vs, ps, sl, hw, Or.inr (Or.inr (Or.inl ⟨by omega, hq, rfl, fun j j0 j1 => (bx_up_ne (by omega)).trans ((bx_up_ne (by omega)).trans (bx_up_ne (by omega)))⟩))⟩
theorem rxd160_0_5 {S0 : Nat → Int → Int} {ws : List Int} {S : Nat → Int → Int} {vs ps sl x11 x12 x13 x14 x15 x16 x17 x18 x19 : Int} (hP : rxP160 S0 ws) (hin : bx_same rxL (bx_mdl rxC160.2.2.1) S0 S) (hin2 : bx_same rxL (bx_mdl rxC160.2.2.1) S (bx_up (bx_up (bx_up S 480 0 0) 480 1 ((-3))) 481 3 x19)) (I0 : bx_Inv rxL S) (I1 : bx_Inv rxL (bx_up (bx_up (bx_up S 480 0 0) 480 1 ((-3))) 481 3 x19)) (hinv : rxI160_0 S0 ws S vs ps sl) (l8 : 0 ≤ vs) (u8 : vs ≤ 11) (l9 : 0 ≤ ps) (u9 : ps ≤ 7) (l10 : (-1) ≤ sl) (u10 : sl ≤ 2147483647) (l11 : 1 ≤ x11) (u11 : x11 ≤ 12) (l12 : 1 ≤ x12) (u12 : x12 ≤ 8) (l13 : 0 ≤ x13) (u13 : x13 ≤ 33) (l14 : 0 ≤ x14) (u14 : x14 ≤ 5) (l15 : 0 ≤ x15) (u15 : x15 ≤ 33) (l16 : 0 ≤ x16) (u16 : x16 ≤ 7) (l17 : 0 ≤ x17) (u17 : x17 ≤ 300) (l18 : (-2147483648) ≤ x18) (u18 : x18 ≤ 2147483647) (l19 : (-2147483648) ≤ x19) (u19 : x19 ≤ 2147483647) (f0 : x16 = ps) (f1 : x15 = 3 * (vs)) (f2 : x13 = 3 * (vs)) (f3 : ps ≤ x12 + (-1)) (f4 : vs ≤ x11 + (-1)) (e7 : (bx_up S 480 0 0) 482 2 = x11) (e6 : (bx_up S 480 0 0) 482 1 = x12) (e5 : (bx_up S 480 0 0) 482 (x13 + 262) = x14) (e4 : (bx_up S 480 0 0) 482 (x15 + 263) = x16) (e3 : (bx_up S 480 0 0) 482 7 = x17) (e1 : (bx_up (bx_up S 480 0 0) 480 1 ((-3))) 481 3 = x18) : (True) ∧ rxPS160 S0 ws (bx_up (bx_up (bx_up S 480 0 0) 480 1 ((-3))) 481 3 x19) (some ((-3))) := by
  obtain ⟨rfl, hw⟩ := hinv
  have ze7 : S 482 2 = x11 := (((bx_up_ne (by omega))).symm.trans e7)
  have ze6 : S 482 1 = x12 := (((bx_up_ne (by omega))).symm.trans e6)
  have ze5 : S 482 (x13 + 262) = x14 := (((bx_up_ne (by omega))).symm.trans e5)
  have ze4 : S 482 (x15 + 263) = x16 := (((bx_up_ne (by omega))).symm.trans e4)
  have ze3 : S 482 7 = x17 := (((bx_up_ne (by omega))).symm.trans e3)
  have ze1 : S 481 3 = x18 := (((bx_up_ne (by omega)).trans ((bx_up_ne (by omega)))).symm.trans e1)
  have ae5 : S 482 (262 + 3 * vs) = x14 := by
    rw [show (262 + 3 * vs : Int) = x13 + 262 by omega]
    exact ze5
  have ae4 : S 482 (263 + 3 * vs) = x16 := by
    rw [show (263 + 3 * vs : Int) = x15 + 263 by omega]
    exact ze4
  have hq : rqMln (S 482) (S 482 (262 + 3 * vs)) (S 482 (263 + 3 * vs)) ps := by
    rw [ae4]
    first
    | exact Or.inl (by omega)
    | exact Or.inr (Or.inl (fun c => by
      have c1 : S 482 (238 + 3 * x16) ≤ S 482 7 := c.1
      have c2 : S 482 7 < S 482 (239 + 3 * x16) := c.2
      omega))
    | exact Or.inr (Or.inr (Or.inl (fun c => by
      have c1 : S 482 (238 + 3 * ps) ≤ S 482 7 := c.1
      have c2 : S 482 7 < S 482 (239 + 3 * ps) := c.2
      omega)))
  exact ⟨trivial, vs, ps, sl, hw, Or.inr (Or.inr (Or.inl ⟨by omega, hq, rfl, fun j j0 j1 => (bx_up_ne (by omega)).trans ((bx_up_ne (by omega)).trans (bx_up_ne (by omega)))⟩))⟩
theorem rxd160_0_6 {S0 : Nat → Int → Int} {ws : List Int} {S : Nat → Int → Int} {vs ps sl x11 x12 x13 x14 : Int} (hP : rxP160 S0 ws) (hin : bx_same rxL (bx_mdl rxC160.2.2.1) S0 S) (hin2 : bx_same rxL (bx_mdl rxC160.2.2.1) S (bx_up (bx_up (bx_up S 480 0 0) 480 1 ((-2))) 481 2 x14)) (I0 : bx_Inv rxL S) (I1 : bx_Inv rxL (bx_up (bx_up (bx_up S 480 0 0) 480 1 ((-2))) 481 2 x14)) (hinv : rxI160_0 S0 ws S vs ps sl) (l8 : 0 ≤ vs) (u8 : vs ≤ 11) (l9 : 0 ≤ ps) (u9 : ps ≤ 2147483647) (l10 : (-1) ≤ sl) (u10 : sl ≤ 2147483647) (l11 : 1 ≤ x11) (u11 : x11 ≤ 12) (l12 : 0 ≤ x12) (u12 : x12 ≤ 8) (l13 : (-2147483648) ≤ x13) (u13 : x13 ≤ 2147483647) (l14 : (-2147483648) ≤ x14) (u14 : x14 ≤ 2147483647) (f0 : x12 + (-1) < ps) (f1 : vs ≤ x11 + (-1)) (e4 : (bx_up S 480 0 0) 482 2 = x11) (e3 : (bx_up S 480 0 0) 482 1 = x12) (e1 : (bx_up (bx_up S 480 0 0) 480 1 ((-2))) 481 2 = x13) : (True) ∧ rxPS160 S0 ws (bx_up (bx_up (bx_up S 480 0 0) 480 1 ((-2))) 481 2 x14) (some ((-2))) := by
  obtain ⟨rfl, hw⟩ := hinv
  have ze4 : S 482 2 = x11 := (((bx_up_ne (by omega))).symm.trans e4)
  have ze3 : S 482 1 = x12 := (((bx_up_ne (by omega))).symm.trans e3)
  have ze1 : S 481 2 = x13 := (((bx_up_ne (by omega)).trans ((bx_up_ne (by omega)))).symm.trans e1)
  exact ⟨trivial, vs, ps, sl, hw, Or.inr (Or.inl ⟨by omega, rfl, fun j j0 j1 => (bx_up_ne (by omega)).trans ((bx_up_ne (by omega)).trans (bx_up_ne (by omega)))⟩)⟩
theorem rxd160_0_7 {S0 : Nat → Int → Int} {ws : List Int} {S : Nat → Int → Int} {vs ps sl x11 x12 x13 x14 : Int} (hP : rxP160 S0 ws) (hin : bx_same rxL (bx_mdl rxC160.2.2.1) S0 S) (hin2 : bx_same rxL (bx_mdl rxC160.2.2.1) S (bx_up (bx_up (bx_up S 480 0 0) 480 1 ((-2))) 481 2 x14)) (I0 : bx_Inv rxL S) (I1 : bx_Inv rxL (bx_up (bx_up (bx_up S 480 0 0) 480 1 ((-2))) 481 2 x14)) (hinv : rxI160_0 S0 ws S vs ps sl) (l8 : 0 ≤ vs) (u8 : vs ≤ 11) (l9 : (-2147483648) ≤ ps) (u9 : ps ≤ (-1)) (l10 : (-1) ≤ sl) (u10 : sl ≤ 2147483647) (l11 : 1 ≤ x11) (u11 : x11 ≤ 12) (l12 : 0 ≤ x12) (u12 : x12 ≤ 8) (l13 : (-2147483648) ≤ x13) (u13 : x13 ≤ 2147483647) (l14 : (-2147483648) ≤ x14) (u14 : x14 ≤ 2147483647) (f0 : vs ≤ x11 + (-1)) (e4 : (bx_up S 480 0 0) 482 2 = x11) (e3 : (bx_up S 480 0 0) 482 1 = x12) (e1 : (bx_up (bx_up S 480 0 0) 480 1 ((-2))) 481 2 = x13) : (True) ∧ rxPS160 S0 ws (bx_up (bx_up (bx_up S 480 0 0) 480 1 ((-2))) 481 2 x14) (some ((-2))) := by
  obtain ⟨rfl, hw⟩ := hinv
  have ze4 : S 482 2 = x11 := (((bx_up_ne (by omega))).symm.trans e4)
  have ze3 : S 482 1 = x12 := (((bx_up_ne (by omega))).symm.trans e3)
  have ze1 : S 481 2 = x13 := (((bx_up_ne (by omega)).trans ((bx_up_ne (by omega)))).symm.trans e1)
  exact ⟨trivial, vs, ps, sl, hw, Or.inr (Or.inl ⟨by omega, rfl, fun j j0 j1 => (bx_up_ne (by omega)).trans ((bx_up_ne (by omega)).trans (bx_up_ne (by omega)))⟩)⟩
theorem rxd160_0_8 {S0 : Nat → Int → Int} {ws : List Int} {S : Nat → Int → Int} {vs ps sl x11 x12 x13 : Int} (hP : rxP160 S0 ws) (hin : bx_same rxL (bx_mdl rxC160.2.2.1) S0 S) (hin2 : bx_same rxL (bx_mdl rxC160.2.2.1) S (bx_up (bx_up (bx_up S 480 0 0) 480 1 ((-2))) 481 2 x13)) (I0 : bx_Inv rxL S) (I1 : bx_Inv rxL (bx_up (bx_up (bx_up S 480 0 0) 480 1 ((-2))) 481 2 x13)) (hinv : rxI160_0 S0 ws S vs ps sl) (l8 : 0 ≤ vs) (u8 : vs ≤ 2147483647) (l9 : (-2147483648) ≤ ps) (u9 : ps ≤ 2147483647) (l10 : (-1) ≤ sl) (u10 : sl ≤ 2147483647) (l11 : 0 ≤ x11) (u11 : x11 ≤ 12) (l12 : (-2147483648) ≤ x12) (u12 : x12 ≤ 2147483647) (l13 : (-2147483648) ≤ x13) (u13 : x13 ≤ 2147483647) (f0 : x11 + (-1) < vs) (e3 : (bx_up S 480 0 0) 482 2 = x11) (e1 : (bx_up (bx_up S 480 0 0) 480 1 ((-2))) 481 2 = x12) : (True) ∧ rxPS160 S0 ws (bx_up (bx_up (bx_up S 480 0 0) 480 1 ((-2))) 481 2 x13) (some ((-2))) := by
  obtain ⟨rfl, hw⟩ := hinv
  have ze3 : S 482 2 = x11 := (((bx_up_ne (by omega))).symm.trans e3)
  have ze1 : S 481 2 = x12 := (((bx_up_ne (by omega)).trans ((bx_up_ne (by omega)))).symm.trans e1)
  exact ⟨trivial, vs, ps, sl, hw, Or.inr (Or.inl ⟨by omega, rfl, fun j j0 j1 => (bx_up_ne (by omega)).trans ((bx_up_ne (by omega)).trans (bx_up_ne (by omega)))⟩)⟩
theorem rxd160_0_9 {S0 : Nat → Int → Int} {ws : List Int} {S : Nat → Int → Int} {vs ps sl x11 x12 x13 : Int} (hP : rxP160 S0 ws) (hin : bx_same rxL (bx_mdl rxC160.2.2.1) S0 S) (hin2 : bx_same rxL (bx_mdl rxC160.2.2.1) S (bx_up (bx_up (bx_up S 480 0 0) 480 1 ((-2))) 481 2 x13)) (I0 : bx_Inv rxL S) (I1 : bx_Inv rxL (bx_up (bx_up (bx_up S 480 0 0) 480 1 ((-2))) 481 2 x13)) (hinv : rxI160_0 S0 ws S vs ps sl) (l8 : (-2147483648) ≤ vs) (u8 : vs ≤ (-1)) (l9 : (-2147483648) ≤ ps) (u9 : ps ≤ 2147483647) (l10 : (-1) ≤ sl) (u10 : sl ≤ 2147483647) (l11 : 0 ≤ x11) (u11 : x11 ≤ 12) (l12 : (-2147483648) ≤ x12) (u12 : x12 ≤ 2147483647) (l13 : (-2147483648) ≤ x13) (u13 : x13 ≤ 2147483647) (e3 : (bx_up S 480 0 0) 482 2 = x11) (e1 : (bx_up (bx_up S 480 0 0) 480 1 ((-2))) 481 2 = x12) : (True) ∧ rxPS160 S0 ws (bx_up (bx_up (bx_up S 480 0 0) 480 1 ((-2))) 481 2 x13) (some ((-2))) := by
  obtain ⟨rfl, hw⟩ := hinv
  have ze3 : S 482 2 = x11 := (((bx_up_ne (by omega))).symm.trans e3)
  have ze1 : S 481 2 = x12 := (((bx_up_ne (by omega)).trans ((bx_up_ne (by omega)))).symm.trans e1)
  exact ⟨trivial, vs, ps, sl, hw, Or.inr (Or.inl ⟨by omega, rfl, fun j j0 j1 => (bx_up_ne (by omega)).trans ((bx_up_ne (by omega)).trans (bx_up_ne (by omega)))⟩)⟩
theorem rxc160_2_0 {S0 : Nat → Int → Int} {ws : List Int} {S : Nat → Int → Int} {vs ps sl pt hd y r x15 x16 x17 x18 x19 x20 x21 x22 x23 x24 x25 x26 x27 : Int} (hP : rxP160 S0 ws) (hin : bx_same rxL (bx_mdl rxC160.2.2.1) S0 S) (I0 : bx_Inv rxL S) (hinv : rxI160_2 S0 ws S vs ps sl pt hd y r) (l8 : 0 ≤ vs) (u8 : vs ≤ 11) (l9 : 0 ≤ ps) (u9 : ps ≤ 7) (l10 : (-1) ≤ sl) (u10 : sl ≤ 2147483647) (l11 : 0 ≤ pt) (u11 : pt ≤ 5) (l12 : 0 ≤ hd) (u12 : hd ≤ 7) (l13 : 0 ≤ y) (u13 : y ≤ 300) (l14 : 0 ≤ r) (u14 : r ≤ 0) (l15 : 0 ≤ x15) (u15 : x15 ≤ 21) (l16 : 0 ≤ x16) (u16 : x16 ≤ 200) (l17 : 0 ≤ x17) (u17 : x17 ≤ 21) (l18 : 0 ≤ x18) (u18 : x18 ≤ 200) (l19 : 0 ≤ x19) (u19 : x19 ≤ 21) (l20 : 0 ≤ x20) (u20 : x20 ≤ 200) (l21 : 0 ≤ x21) (u21 : x21 ≤ 21) (l22 : 0 ≤ x22) (u22 : x22 ≤ 300) (l23 : 0 ≤ x23) (u23 : x23 ≤ 21) (l24 : 0 ≤ x24) (u24 : x24 ≤ 300) (l25 : 0 ≤ x25) (u25 : x25 ≤ 21) (l26 : 0 ≤ x26) (u26 : x26 ≤ 300) (l27 : (-200) ≤ x27) (u27 : x27 ≤ 300) (f0 : x26 = x27 + x20) (f1 : x25 = 3 * (hd)) (f2 : x24 ≤ x22) (f3 : x23 = 3 * (hd)) (f4 : x21 = 3 * (ps)) (f5 : x19 = 3 * (hd)) (f6 : x16 ≤ x18) (f7 : x17 = 3 * (hd)) (f8 : x15 = 3 * (ps)) (e5 : S 482 (x15 + 238) = x16) (e4 : S 482 (x17 + 238) = x18) (e3 : S 482 (x19 + 238) = x20) (e2 : S 482 (x21 + 239) = x22) (e1 : S 482 (x23 + 239) = x24) (e0 : S 482 (x25 + 239) = x26) : (True) ∧ (True) ∧ rxI160_3 S0 ws S vs ps sl pt hd y x27 ∧ rxm160_3 S0 ws S vs ps sl pt hd y x27 < rxm160_2 S0 ws S vs ps sl pt hd y r := by
  obtain ⟨hw, hg, hl, ha, ⟨x, h1, h2⟩, hf, hx⟩ := hinv
  have hx1 : x ≠ 1 := fun c => by
    rw [if_pos c] at h2
    omega
  have ae5 : S 482 (238 + 3 * ps) = x16 := by
    rw [show (238 + 3 * ps : Int) = x15 + 238 by omega]
    exact e5
  have ae4 : S 482 (238 + 3 * hd) = x18 := by
    rw [show (238 + 3 * hd : Int) = x17 + 238 by omega]
    exact e4
  have ae3 : S 482 (238 + 3 * hd) = x20 := by
    rw [show (238 + 3 * hd : Int) = x19 + 238 by omega]
    exact e3
  have ae2 : S 482 (239 + 3 * ps) = x22 := by
    rw [show (239 + 3 * ps : Int) = x21 + 239 by omega]
    exact e2
  have ae1 : S 482 (239 + 3 * hd) = x24 := by
    rw [show (239 + 3 * hd : Int) = x23 + 239 by omega]
    exact e1
  have ae0 : S 482 (239 + 3 * hd) = x26 := by
    rw [show (239 + 3 * hd : Int) = x25 + 239 by omega]
    exact e0
  have q0 := hf (239 + 3 * ps) (by omega) (by omega)
  have q1 := hf (239 + 3 * hd) (by omega) (by omega)
  have q2 := hf (238 + 3 * ps) (by omega) (by omega)
  have q3 := hf (238 + 3 * hd) (by omega) (by omega)
  have ht : x27 = rqYt (S0 482) ps hd := by
    unfold rqYt
    first | omega | (simp only [Int.min_def, Int.max_def]; split <;> split <;> omega)
  exact ⟨trivial, trivial, ⟨hw, hg, hl, ha, ⟨x, h1, hx1⟩, ht, hf, hx⟩, by unfold rxm160_2 rxm160_3; omega⟩
theorem rxc160_2_1 {S0 : Nat → Int → Int} {ws : List Int} {S : Nat → Int → Int} {vs ps sl pt hd y r x15 x16 x17 x18 x19 x20 x21 x22 x23 x24 x25 x26 x27 : Int} (hP : rxP160 S0 ws) (hin : bx_same rxL (bx_mdl rxC160.2.2.1) S0 S) (I0 : bx_Inv rxL S) (hinv : rxI160_2 S0 ws S vs ps sl pt hd y r) (l8 : 0 ≤ vs) (u8 : vs ≤ 11) (l9 : 0 ≤ ps) (u9 : ps ≤ 7) (l10 : (-1) ≤ sl) (u10 : sl ≤ 2147483647) (l11 : 0 ≤ pt) (u11 : pt ≤ 5) (l12 : 0 ≤ hd) (u12 : hd ≤ 7) (l13 : 0 ≤ y) (u13 : y ≤ 300) (l14 : 0 ≤ r) (u14 : r ≤ 0) (l15 : 0 ≤ x15) (u15 : x15 ≤ 21) (l16 : 0 ≤ x16) (u16 : x16 ≤ 200) (l17 : 0 ≤ x17) (u17 : x17 ≤ 21) (l18 : 0 ≤ x18) (u18 : x18 ≤ 200) (l19 : 0 ≤ x19) (u19 : x19 ≤ 21) (l20 : 0 ≤ x20) (u20 : x20 ≤ 200) (l21 : 0 ≤ x21) (u21 : x21 ≤ 21) (l22 : 0 ≤ x22) (u22 : x22 ≤ 299) (l23 : 0 ≤ x23) (u23 : x23 ≤ 21) (l24 : 1 ≤ x24) (u24 : x24 ≤ 300) (l25 : 0 ≤ x25) (u25 : x25 ≤ 21) (l26 : 0 ≤ x26) (u26 : x26 ≤ 300) (l27 : (-200) ≤ x27) (u27 : x27 ≤ 300) (f0 : x26 = x27 + x20) (f1 : x25 = 3 * (ps)) (f2 : x22 < x24) (f3 : x23 = 3 * (hd)) (f4 : x21 = 3 * (ps)) (f5 : x19 = 3 * (hd)) (f6 : x16 ≤ x18) (f7 : x17 = 3 * (hd)) (f8 : x15 = 3 * (ps)) (e5 : S 482 (x15 + 238) = x16) (e4 : S 482 (x17 + 238) = x18) (e3 : S 482 (x19 + 238) = x20) (e2 : S 482 (x21 + 239) = x22) (e1 : S 482 (x23 + 239) = x24) (e0 : S 482 (x25 + 239) = x26) : (True) ∧ (True) ∧ rxI160_3 S0 ws S vs ps sl pt hd y x27 ∧ rxm160_3 S0 ws S vs ps sl pt hd y x27 < rxm160_2 S0 ws S vs ps sl pt hd y r := by
  obtain ⟨hw, hg, hl, ha, ⟨x, h1, h2⟩, hf, hx⟩ := hinv
  have hx1 : x ≠ 1 := fun c => by
    rw [if_pos c] at h2
    omega
  have ae5 : S 482 (238 + 3 * ps) = x16 := by
    rw [show (238 + 3 * ps : Int) = x15 + 238 by omega]
    exact e5
  have ae4 : S 482 (238 + 3 * hd) = x18 := by
    rw [show (238 + 3 * hd : Int) = x17 + 238 by omega]
    exact e4
  have ae3 : S 482 (238 + 3 * hd) = x20 := by
    rw [show (238 + 3 * hd : Int) = x19 + 238 by omega]
    exact e3
  have ae2 : S 482 (239 + 3 * ps) = x22 := by
    rw [show (239 + 3 * ps : Int) = x21 + 239 by omega]
    exact e2
  have ae1 : S 482 (239 + 3 * hd) = x24 := by
    rw [show (239 + 3 * hd : Int) = x23 + 239 by omega]
    exact e1
  have ae0 : S 482 (239 + 3 * ps) = x26 := by
    rw [show (239 + 3 * ps : Int) = x25 + 239 by omega]
    exact e0
  have q0 := hf (239 + 3 * ps) (by omega) (by omega)
  have q1 := hf (239 + 3 * hd) (by omega) (by omega)
  have q2 := hf (238 + 3 * ps) (by omega) (by omega)
  have q3 := hf (238 + 3 * hd) (by omega) (by omega)
  have ht : x27 = rqYt (S0 482) ps hd := by
    unfold rqYt
    first | omega | (simp only [Int.min_def, Int.max_def]; split <;> split <;> omega)
  exact ⟨trivial, trivial, ⟨hw, hg, hl, ha, ⟨x, h1, hx1⟩, ht, hf, hx⟩, by unfold rxm160_2 rxm160_3; omega⟩
theorem rxc160_2_2 {S0 : Nat → Int → Int} {ws : List Int} {S : Nat → Int → Int} {vs ps sl pt hd y r x15 x16 x17 x18 x19 x20 x21 x22 x23 x24 x25 x26 x27 : Int} (hP : rxP160 S0 ws) (hin : bx_same rxL (bx_mdl rxC160.2.2.1) S0 S) (I0 : bx_Inv rxL S) (hinv : rxI160_2 S0 ws S vs ps sl pt hd y r) (l8 : 0 ≤ vs) (u8 : vs ≤ 11) (l9 : 0 ≤ ps) (u9 : ps ≤ 7) (l10 : (-1) ≤ sl) (u10 : sl ≤ 2147483647) (l11 : 0 ≤ pt) (u11 : pt ≤ 5) (l12 : 0 ≤ hd) (u12 : hd ≤ 7) (l13 : 0 ≤ y) (u13 : y ≤ 300) (l14 : 0 ≤ r) (u14 : r ≤ 0) (l15 : 0 ≤ x15) (u15 : x15 ≤ 21) (l16 : 1 ≤ x16) (u16 : x16 ≤ 200) (l17 : 0 ≤ x17) (u17 : x17 ≤ 21) (l18 : 0 ≤ x18) (u18 : x18 ≤ 199) (l19 : 0 ≤ x19) (u19 : x19 ≤ 21) (l20 : 0 ≤ x20) (u20 : x20 ≤ 200) (l21 : 0 ≤ x21) (u21 : x21 ≤ 21) (l22 : 0 ≤ x22) (u22 : x22 ≤ 300) (l23 : 0 ≤ x23) (u23 : x23 ≤ 21) (l24 : 0 ≤ x24) (u24 : x24 ≤ 300) (l25 : 0 ≤ x25) (u25 : x25 ≤ 21) (l26 : 0 ≤ x26) (u26 : x26 ≤ 300) (l27 : (-200) ≤ x27) (u27 : x27 ≤ 300) (f0 : x26 = x27 + x20) (f1 : x25 = 3 * (hd)) (f2 : x24 ≤ x22) (f3 : x23 = 3 * (hd)) (f4 : x21 = 3 * (ps)) (f5 : x19 = 3 * (ps)) (f6 : x18 < x16) (f7 : x17 = 3 * (hd)) (f8 : x15 = 3 * (ps)) (e5 : S 482 (x15 + 238) = x16) (e4 : S 482 (x17 + 238) = x18) (e3 : S 482 (x19 + 238) = x20) (e2 : S 482 (x21 + 239) = x22) (e1 : S 482 (x23 + 239) = x24) (e0 : S 482 (x25 + 239) = x26) : (True) ∧ (True) ∧ rxI160_3 S0 ws S vs ps sl pt hd y x27 ∧ rxm160_3 S0 ws S vs ps sl pt hd y x27 < rxm160_2 S0 ws S vs ps sl pt hd y r := by
  obtain ⟨hw, hg, hl, ha, ⟨x, h1, h2⟩, hf, hx⟩ := hinv
  have hx1 : x ≠ 1 := fun c => by
    rw [if_pos c] at h2
    omega
  have ae5 : S 482 (238 + 3 * ps) = x16 := by
    rw [show (238 + 3 * ps : Int) = x15 + 238 by omega]
    exact e5
  have ae4 : S 482 (238 + 3 * hd) = x18 := by
    rw [show (238 + 3 * hd : Int) = x17 + 238 by omega]
    exact e4
  have ae3 : S 482 (238 + 3 * ps) = x20 := by
    rw [show (238 + 3 * ps : Int) = x19 + 238 by omega]
    exact e3
  have ae2 : S 482 (239 + 3 * ps) = x22 := by
    rw [show (239 + 3 * ps : Int) = x21 + 239 by omega]
    exact e2
  have ae1 : S 482 (239 + 3 * hd) = x24 := by
    rw [show (239 + 3 * hd : Int) = x23 + 239 by omega]
    exact e1
  have ae0 : S 482 (239 + 3 * hd) = x26 := by
    rw [show (239 + 3 * hd : Int) = x25 + 239 by omega]
    exact e0
  have q0 := hf (239 + 3 * ps) (by omega) (by omega)
  have q1 := hf (239 + 3 * hd) (by omega) (by omega)
  have q2 := hf (238 + 3 * ps) (by omega) (by omega)
  have q3 := hf (238 + 3 * hd) (by omega) (by omega)
  have ht : x27 = rqYt (S0 482) ps hd := by
    unfold rqYt
    first | omega | (simp only [Int.min_def, Int.max_def]; split <;> split <;> omega)
  exact ⟨trivial, trivial, ⟨hw, hg, hl, ha, ⟨x, h1, hx1⟩, ht, hf, hx⟩, by unfold rxm160_2 rxm160_3; omega⟩
theorem rxc160_2_3 {S0 : Nat → Int → Int} {ws : List Int} {S : Nat → Int → Int} {vs ps sl pt hd y r x15 x16 x17 x18 x19 x20 x21 x22 x23 x24 x25 x26 x27 : Int} (hP : rxP160 S0 ws) (hin : bx_same rxL (bx_mdl rxC160.2.2.1) S0 S) (I0 : bx_Inv rxL S) (hinv : rxI160_2 S0 ws S vs ps sl pt hd y r) (l8 : 0 ≤ vs) (u8 : vs ≤ 11) (l9 : 0 ≤ ps) (u9 : ps ≤ 7) (l10 : (-1) ≤ sl) (u10 : sl ≤ 2147483647) (l11 : 0 ≤ pt) (u11 : pt ≤ 5) (l12 : 0 ≤ hd) (u12 : hd ≤ 7) (l13 : 0 ≤ y) (u13 : y ≤ 300) (l14 : 0 ≤ r) (u14 : r ≤ 0) (l15 : 0 ≤ x15) (u15 : x15 ≤ 21) (l16 : 1 ≤ x16) (u16 : x16 ≤ 200) (l17 : 0 ≤ x17) (u17 : x17 ≤ 21) (l18 : 0 ≤ x18) (u18 : x18 ≤ 199) (l19 : 0 ≤ x19) (u19 : x19 ≤ 21) (l20 : 0 ≤ x20) (u20 : x20 ≤ 200) (l21 : 0 ≤ x21) (u21 : x21 ≤ 21) (l22 : 0 ≤ x22) (u22 : x22 ≤ 299) (l23 : 0 ≤ x23) (u23 : x23 ≤ 21) (l24 : 1 ≤ x24) (u24 : x24 ≤ 300) (l25 : 0 ≤ x25) (u25 : x25 ≤ 21) (l26 : 0 ≤ x26) (u26 : x26 ≤ 300) (l27 : (-200) ≤ x27) (u27 : x27 ≤ 300) (f0 : x26 = x27 + x20) (f1 : x25 = 3 * (ps)) (f2 : x22 < x24) (f3 : x23 = 3 * (hd)) (f4 : x21 = 3 * (ps)) (f5 : x19 = 3 * (ps)) (f6 : x18 < x16) (f7 : x17 = 3 * (hd)) (f8 : x15 = 3 * (ps)) (e5 : S 482 (x15 + 238) = x16) (e4 : S 482 (x17 + 238) = x18) (e3 : S 482 (x19 + 238) = x20) (e2 : S 482 (x21 + 239) = x22) (e1 : S 482 (x23 + 239) = x24) (e0 : S 482 (x25 + 239) = x26) : (True) ∧ (True) ∧ rxI160_3 S0 ws S vs ps sl pt hd y x27 ∧ rxm160_3 S0 ws S vs ps sl pt hd y x27 < rxm160_2 S0 ws S vs ps sl pt hd y r := by
  obtain ⟨hw, hg, hl, ha, ⟨x, h1, h2⟩, hf, hx⟩ := hinv
  have hx1 : x ≠ 1 := fun c => by
    rw [if_pos c] at h2
    omega
  have ae5 : S 482 (238 + 3 * ps) = x16 := by
    rw [show (238 + 3 * ps : Int) = x15 + 238 by omega]
    exact e5
  have ae4 : S 482 (238 + 3 * hd) = x18 := by
    rw [show (238 + 3 * hd : Int) = x17 + 238 by omega]
    exact e4
  have ae3 : S 482 (238 + 3 * ps) = x20 := by
    rw [show (238 + 3 * ps : Int) = x19 + 238 by omega]
    exact e3
  have ae2 : S 482 (239 + 3 * ps) = x22 := by
    rw [show (239 + 3 * ps : Int) = x21 + 239 by omega]
    exact e2
  have ae1 : S 482 (239 + 3 * hd) = x24 := by
    rw [show (239 + 3 * hd : Int) = x23 + 239 by omega]
    exact e1
  have ae0 : S 482 (239 + 3 * ps) = x26 := by
    rw [show (239 + 3 * ps : Int) = x25 + 239 by omega]
    exact e0
  have q0 := hf (239 + 3 * ps) (by omega) (by omega)
  have q1 := hf (239 + 3 * hd) (by omega) (by omega)
  have q2 := hf (238 + 3 * ps) (by omega) (by omega)
  have q3 := hf (238 + 3 * hd) (by omega) (by omega)
  have ht : x27 = rqYt (S0 482) ps hd := by
    unfold rqYt
    first | omega | (simp only [Int.min_def, Int.max_def]; split <;> split <;> omega)
  exact ⟨trivial, trivial, ⟨hw, hg, hl, ha, ⟨x, h1, hx1⟩, ht, hf, hx⟩, by unfold rxm160_2 rxm160_3; omega⟩
theorem rxd160_2_0 {S0 : Nat → Int → Int} {ws : List Int} {S : Nat → Int → Int} {vs ps sl pt hd y r x15 x16 : Int} (hP : rxP160 S0 ws) (hin : bx_same rxL (bx_mdl rxC160.2.2.1) S0 S) (hin2 : bx_same rxL (bx_mdl rxC160.2.2.1) S (bx_up (bx_up S 480 1 ((-3))) 481 3 x16)) (I0 : bx_Inv rxL S) (I1 : bx_Inv rxL (bx_up (bx_up S 480 1 ((-3))) 481 3 x16)) (hinv : rxI160_2 S0 ws S vs ps sl pt hd y r) (l8 : 0 ≤ vs) (u8 : vs ≤ 11) (l9 : 0 ≤ ps) (u9 : ps ≤ 7) (l10 : (-1) ≤ sl) (u10 : sl ≤ 2147483647) (l11 : 0 ≤ pt) (u11 : pt ≤ 5) (l12 : 0 ≤ hd) (u12 : hd ≤ 7) (l13 : 0 ≤ y) (u13 : y ≤ 300) (l14 : 1 ≤ r) (u14 : r ≤ 1) (l15 : (-2147483648) ≤ x15) (u15 : x15 ≤ 2147483647) (l16 : (-2147483648) ≤ x16) (u16 : x16 ≤ 2147483647) (f0 : r ≠ 0) (e1 : (bx_up S 480 1 ((-3))) 481 3 = x15) : (True) ∧ rxPS160 S0 ws (bx_up (bx_up S 480 1 ((-3))) 481 3 x16) (some ((-3))) := by
  obtain ⟨hw, hg, hl, ha, ⟨x, h1, h2⟩, hf, hx⟩ := hinv
  have hx1 : x = 1 := by
    by_cases c : x = 1
    · exact c
    · rw [if_neg c] at h2
      omega
  have hq : rqMln (S0 482) (S0 482 (262 + 3 * vs)) (S0 482 (263 + 3 * vs)) ps := by
    obtain ⟨hpt, hhd, hy⟩ := hl
    rw [← hpt, ← hhd]
    exact Or.inr (Or.inr (Or.inr (Or.inl ⟨x, by rw [← hy]; exact h1, hx1⟩)))
  exact ⟨trivial, vs, ps, sl, hw, Or.inr (Or.inr (Or.inl ⟨hg, hq, rfl, fun j j0 j1 => (bx_up_ne (by omega)).trans ((bx_up_ne (by omega)).trans (hf j j0 (by omega)))⟩))⟩
theorem rxc160_4_0 {S0 : Nat → Int → Int} {ws : List Int} {S : Nat → Int → Int} {vs ps sl pt hd y tg r2 x16 x17 : Int} (hP : rxP160 S0 ws) (hin : bx_same rxL (bx_mdl rxC160.2.2.1) S0 S) (I0 : bx_Inv rxL S) (hinv : rxI160_4 S0 ws S vs ps sl pt hd y tg r2) (l8 : 0 ≤ vs) (u8 : vs ≤ 11) (l9 : 0 ≤ ps) (u9 : ps ≤ 7) (l10 : (-1) ≤ sl) (u10 : sl ≤ 2147483647) (l11 : 0 ≤ pt) (u11 : pt ≤ 5) (l12 : 0 ≤ hd) (u12 : hd ≤ 7) (l13 : 0 ≤ y) (u13 : y ≤ 300) (l14 : 0 ≤ tg) (u14 : tg ≤ 300) (l15 : 0 ≤ r2) (u15 : r2 ≤ 99) (l16 : 0 ≤ x16) (u16 : x16 ≤ 11) (l17 : 0 ≤ x17) (u17 : x17 ≤ 396) (f0 : x17 = 36 * (x16)) (f1 : x16 ≠ 12) (f2 : r2 ≤ tg) (e0 : S 482 2 = x16) : (True) ∧ (True) ∧ rxI160_5 S0 ws S vs ps sl pt hd y x16 (x17 + 298) 0 x16 ∧ rxm160_5 S0 ws S vs ps sl pt hd y x16 (x17 + 298) 0 x16 < rxm160_4 S0 ws S vs ps sl pt hd y tg r2 := by
  obtain ⟨hw, hg, hl, ha, ⟨x, h1, hx1⟩, ht, ⟨x2, h3, h4⟩, hf⟩ := hinv
  have e2_ : S 482 2 = S0 482 2 := hf 2 (by decide) (by decide)
  have hm : rqMl (S0 482) (S0 482 (262 + 3 * vs)) (S0 482 (263 + 3 * vs)) ps := by
    obtain ⟨hpt, hhd, hy⟩ := hl
    rw [← hpt, ← hhd]
    exact ⟨ha.1, ha.2.1, ha.2.2, ⟨x, by rw [← hy]; exact h1, hx1⟩, x2, by rw [← hy]; exact h3, by omega⟩
  exact ⟨trivial, trivial, ⟨hw, hg, hm, hl, ⟨by omega, by omega⟩, hf⟩, by unfold rxm160_4 rxm160_5; omega⟩
theorem rxd160_4_0 {S0 : Nat → Int → Int} {ws : List Int} {S : Nat → Int → Int} {vs ps sl pt hd y tg r2 x16 x17 : Int} (hP : rxP160 S0 ws) (hin : bx_same rxL (bx_mdl rxC160.2.2.1) S0 S) (hin2 : bx_same rxL (bx_mdl rxC160.2.2.1) S (bx_up (bx_up S 480 1 ((-3))) 481 3 x17)) (I0 : bx_Inv rxL S) (I1 : bx_Inv rxL (bx_up (bx_up S 480 1 ((-3))) 481 3 x17)) (hinv : rxI160_4 S0 ws S vs ps sl pt hd y tg r2) (l8 : 0 ≤ vs) (u8 : vs ≤ 11) (l9 : 0 ≤ ps) (u9 : ps ≤ 7) (l10 : (-1) ≤ sl) (u10 : sl ≤ 2147483647) (l11 : 0 ≤ pt) (u11 : pt ≤ 5) (l12 : 0 ≤ hd) (u12 : hd ≤ 7) (l13 : 0 ≤ y) (u13 : y ≤ 300) (l14 : (-200) ≤ tg) (u14 : tg ≤ 98) (l15 : 0 ≤ r2) (u15 : r2 ≤ 99) (l16 : (-2147483648) ≤ x16) (u16 : x16 ≤ 2147483647) (l17 : (-2147483648) ≤ x17) (u17 : x17 ≤ 2147483647) (f0 : tg < r2) (e1 : (bx_up S 480 1 ((-3))) 481 3 = x16) : (True) ∧ rxPS160 S0 ws (bx_up (bx_up S 480 1 ((-3))) 481 3 x17) (some ((-3))) := by
  obtain ⟨hw, hg, hl, ha, ⟨x, h1, hx1⟩, ht, ⟨x2, h3, h4⟩, hf⟩ := hinv
  have e2_ : S 482 2 = S0 482 2 := hf 2 (by decide) (by decide)
  have hq : rqMln (S0 482) (S0 482 (262 + 3 * vs)) (S0 482 (263 + 3 * vs)) ps := by
    obtain ⟨hpt, hhd, hy⟩ := hl
    rw [← hpt, ← hhd]
    exact Or.inr (Or.inr (Or.inr (Or.inr ⟨x2, by rw [← hy]; exact h3, by omega⟩)))
  exact ⟨trivial, vs, ps, sl, hw, Or.inr (Or.inr (Or.inl ⟨hg, hq, rfl, fun j j0 j1 => (bx_up_ne (by omega)).trans ((bx_up_ne (by omega)).trans (hf j j0 j1))⟩))⟩
theorem rxd160_4_1 {S0 : Nat → Int → Int} {ws : List Int} {S : Nat → Int → Int} {vs ps sl pt hd y tg r2 x16 x17 x18 : Int} (hP : rxP160 S0 ws) (hin : bx_same rxL (bx_mdl rxC160.2.2.1) S0 S) (hin2 : bx_same rxL (bx_mdl rxC160.2.2.1) S (bx_up (bx_up S 480 1 ((-5))) 481 5 x18)) (I0 : bx_Inv rxL S) (I1 : bx_Inv rxL (bx_up (bx_up S 480 1 ((-5))) 481 5 x18)) (hinv : rxI160_4 S0 ws S vs ps sl pt hd y tg r2) (l8 : 0 ≤ vs) (u8 : vs ≤ 11) (l9 : 0 ≤ ps) (u9 : ps ≤ 7) (l10 : (-1) ≤ sl) (u10 : sl ≤ 2147483647) (l11 : 0 ≤ pt) (u11 : pt ≤ 5) (l12 : 0 ≤ hd) (u12 : hd ≤ 7) (l13 : 0 ≤ y) (u13 : y ≤ 300) (l14 : 0 ≤ tg) (u14 : tg ≤ 300) (l15 : 0 ≤ r2) (u15 : r2 ≤ 99) (l16 : 12 ≤ x16) (u16 : x16 ≤ 12) (l17 : (-2147483648) ≤ x17) (u17 : x17 ≤ 2147483647) (l18 : (-2147483648) ≤ x18) (u18 : x18 ≤ 2147483647) (f0 : r2 ≤ tg) (e3 : S 482 2 = x16) (e1 : (bx_up S 480 1 ((-5))) 481 5 = x17) : (True) ∧ rxPS160 S0 ws (bx_up (bx_up S 480 1 ((-5))) 481 5 x18) (some ((-5))) := by
  obtain ⟨hw, hg, hl, ha, ⟨x, h1, hx1⟩, ht, ⟨x2, h3, h4⟩, hf⟩ := hinv
  have e2_ : S 482 2 = S0 482 2 := hf 2 (by decide) (by decide)
  have hm : rqMl (S0 482) (S0 482 (262 + 3 * vs)) (S0 482 (263 + 3 * vs)) ps := by
    obtain ⟨hpt, hhd, hy⟩ := hl
    rw [← hpt, ← hhd]
    exact ⟨ha.1, ha.2.1, ha.2.2, ⟨x, by rw [← hy]; exact h1, hx1⟩, x2, by rw [← hy]; exact h3, by omega⟩
  exact ⟨trivial, vs, ps, sl, hw, Or.inr (Or.inr (Or.inr (Or.inl ⟨hg, hm, by omega, rfl, fun j j0 j1 => (bx_up_ne (by omega)).trans ((bx_up_ne (by omega)).trans (hf j j0 j1))⟩)))⟩
theorem rxd160_6_0 {S0 : Nat → Int → Int} {ws : List Int} {S : Nat → Int → Int} {vs ps sl pt hd y n b me st k n2 x20 x21 x22 x23 : Int} (hP : rxP160 S0 ws) (hin : bx_same rxL (bx_mdl rxC160.2.2.1) S0 S) (hin2 : bx_same rxL (bx_mdl rxC160.2.2.1) S (bx_up (bx_up (bx_up (bx_up (bx_up S 482 (x21 + 262) pt) 482 (x22 + 263) ps) 482 (x23 + 264) vs) 482 2 (n2 + 1)) 480 1 0)) (I0 : bx_Inv rxL S) (I1 : bx_Inv rxL (bx_up (bx_up (bx_up (bx_up (bx_up S 482 (x21 + 262) pt) 482 (x22 + 263) ps) 482 (x23 + 264) vs) 482 2 (n2 + 1)) 480 1 0)) (hinv : rxI160_6 S0 ws S vs ps sl pt hd y n b me st k n2) (l8 : 0 ≤ vs) (u8 : vs ≤ 11) (l9 : 0 ≤ ps) (u9 : ps ≤ 7) (l10 : (-1) ≤ sl) (u10 : sl ≤ 2147483647) (l11 : 0 ≤ pt) (u11 : pt ≤ 5) (l12 : 0 ≤ hd) (u12 : hd ≤ 7) (l13 : 0 ≤ y) (u13 : y ≤ 300) (l14 : 0 ≤ n) (u14 : n ≤ 11) (l15 : 298 ≤ b) (u15 : b ≤ 694) (l16 : 0 ≤ me) (u16 : me ≤ 12) (l17 : (-1) ≤ st) (u17 : st ≤ (-1)) (l18 : 0 ≤ k) (u18 : k ≤ 11) (l19 : 0 ≤ n2) (u19 : n2 ≤ 11) (l20 : 1 ≤ x20) (u20 : x20 ≤ 12) (l21 : 0 ≤ x21) (u21 : x21 ≤ 33) (l22 : 0 ≤ x22) (u22 : x22 ≤ 33) (l23 : 0 ≤ x23) (u23 : x23 ≤ 33) (f0 : x23 = 3 * (n2)) (f1 : x22 = 3 * (n2)) (f2 : x21 = 3 * (n2)) (f3 : k < x20) (e5 : S 482 5 = x20) : (True) ∧ rxPS160 S0 ws (bx_up (bx_up (bx_up (bx_up (bx_up S 482 (x21 + 262) pt) 482 (x22 + 263) ps) 482 (x23 + 264) vs) 482 2 (n2 + 1)) 480 1 0) (some n2) := by
  obtain ⟨hw, hg, hm, hl, hn, hk, hf⟩ := hinv
  obtain ⟨hpt, -, -⟩ := hl
  have hn_ : n2 = S0 482 2 := by omega
  have z3 := fun (i : Int) (i0 : 0 ≤ i) => rk_v3 (S := S) (a := (x21 + 262)) (b := (x22 + 263)) (c := (x23 + 264)) (n := n2) (m := (n2 + 1)) (pa := pt) (ps := ps) (te := vs) (by omega) (by omega) (by omega) i i0
  exact ⟨trivial, vs, ps, sl, hw, Or.inr (Or.inr (Or.inr (Or.inr (⟨hg, hm, by omega, congrArg some (by omega), (bx_up_ne (by omega)).trans (bx_up_at.trans (by omega)), (fun i i0 i1 => by
    have y := (z3 i i0).1
    rw [y, hf (262 + 3 * i) (by omega) (by omega), hn_, hpt]), (fun i i0 i1 => by
    have y := (z3 i i0).2.1
    rw [y, hf (263 + 3 * i) (by omega) (by omega), hn_]), (fun i i0 i1 => by
    have y := (z3 i i0).2.2
    rw [y, hf (264 + 3 * i) (by omega) (by omega), hn_])⟩))))⟩
theorem rxd160_6_1 {S0 : Nat → Int → Int} {ws : List Int} {S : Nat → Int → Int} {vs ps sl pt hd y n b me st k n2 x20 x21 x22 x23 : Int} (hP : rxP160 S0 ws) (hin : bx_same rxL (bx_mdl rxC160.2.2.1) S0 S) (hin2 : bx_same rxL (bx_mdl rxC160.2.2.1) S (bx_up (bx_up (bx_up (bx_up (bx_up S 482 (x21 + 262) pt) 482 (x22 + 263) ps) 482 (x23 + 264) vs) 482 2 (n2 + 1)) 480 1 0)) (I0 : bx_Inv rxL S) (I1 : bx_Inv rxL (bx_up (bx_up (bx_up (bx_up (bx_up S 482 (x21 + 262) pt) 482 (x22 + 263) ps) 482 (x23 + 264) vs) 482 2 (n2 + 1)) 480 1 0)) (hinv : rxI160_6 S0 ws S vs ps sl pt hd y n b me st k n2) (l8 : 0 ≤ vs) (u8 : vs ≤ 11) (l9 : 0 ≤ ps) (u9 : ps ≤ 7) (l10 : (-1) ≤ sl) (u10 : sl ≤ 2147483647) (l11 : 0 ≤ pt) (u11 : pt ≤ 5) (l12 : 0 ≤ hd) (u12 : hd ≤ 7) (l13 : 0 ≤ y) (u13 : y ≤ 300) (l14 : 0 ≤ n) (u14 : n ≤ 11) (l15 : 298 ≤ b) (u15 : b ≤ 694) (l16 : 0 ≤ me) (u16 : me ≤ 12) (l17 : (-1) ≤ st) (u17 : st ≤ 5) (l18 : 0 ≤ k) (u18 : k ≤ 12) (l19 : 0 ≤ n2) (u19 : n2 ≤ 11) (l20 : 0 ≤ x20) (u20 : x20 ≤ 12) (l21 : 0 ≤ x21) (u21 : x21 ≤ 33) (l22 : 0 ≤ x22) (u22 : x22 ≤ 33) (l23 : 0 ≤ x23) (u23 : x23 ≤ 33) (f0 : x23 = 3 * (n2)) (f1 : x22 = 3 * (n2)) (f2 : x21 = 3 * (n2)) (f3 : x20 ≤ k) (e5 : S 482 5 = x20) : (True) ∧ rxPS160 S0 ws (bx_up (bx_up (bx_up (bx_up (bx_up S 482 (x21 + 262) pt) 482 (x22 + 263) ps) 482 (x23 + 264) vs) 482 2 (n2 + 1)) 480 1 0) (some n2) := by
  obtain ⟨hw, hg, hm, hl, hn, hk, hf⟩ := hinv
  obtain ⟨hpt, -, -⟩ := hl
  have hn_ : n2 = S0 482 2 := by omega
  have z3 := fun (i : Int) (i0 : 0 ≤ i) => rk_v3 (S := S) (a := (x21 + 262)) (b := (x22 + 263)) (c := (x23 + 264)) (n := n2) (m := (n2 + 1)) (pa := pt) (ps := ps) (te := vs) (by omega) (by omega) (by omega) i i0
  exact ⟨trivial, vs, ps, sl, hw, Or.inr (Or.inr (Or.inr (Or.inr (⟨hg, hm, by omega, congrArg some (by omega), (bx_up_ne (by omega)).trans (bx_up_at.trans (by omega)), (fun i i0 i1 => by
    have y := (z3 i i0).1
    rw [y, hf (262 + 3 * i) (by omega) (by omega), hn_, hpt]), (fun i i0 i1 => by
    have y := (z3 i i0).2.1
    rw [y, hf (263 + 3 * i) (by omega) (by omega), hn_]), (fun i i0 i1 => by
    have y := (z3 i i0).2.2
    rw [y, hf (264 + 3 * i) (by omega) (by omega), hn_])⟩))))⟩
noncomputable def rxI162_0 (S0 : Nat → Int → Int) (ws : List Int) (S : Nat → Int → Int) : Prop := S = S0 ∧ ws = [480]
noncomputable def rxm162_0 (S0 : Nat → Int → Int) (ws : List Int) (S : Nat → Int → Int) : Nat := 100
noncomputable def rxz162_0 : rx_Z := ([(0, 0), (0, 0), (0, 0), (0, 0), (0, 0), (0, 0), (0, 0), (0, 0)], [], [], 0, 0, 0, [(0, .inr (3, (0, 480)))], [])
noncomputable def rxe162_0_0 : rx_End × List (Nat × Int × Int) := (([(0, 0), (0, 0), (0, 0), (0, 0), (0, 0), (0, 0), (0, 0), (0, 0), (0, 0), ((-2147483648), 2147483647), ((-2147483648), 2147483647)], [], [(((0, 0), 1851192626986356798026460450737346142932482408387548938498539523000000), .inr (0, (10, 0))), (((0, 481), 3), .inr (0, (10, 0))), (((0, 0), 1851192626986356798026460450737346142932482408387548938498539520000000), .inr (0, (9, 0))), (((0, 480), 2), .inr (3, (0, 481))), (((0, 0), 1851192626986356797625047037163794926384839479479878431390302211000000), .inr (0, (0, (-3)))), (((0, 480), 1), .inr (0, (0, (-3)))), (((0, 0), 1851192626986356797825753743950570534658660943933713684945305600000000), .inr (0, (8, 0))), (((0, 482), 2), .inr (0, (8, 0))), (((0, 480), 3), .inr (3, (0, 482))), (((0, 0), 1851192626986356797424340330377019318111018015026043177836478467000000), .inr (0, (0, 0))), (((0, 480), 0), .inr (0, (0, 0)))], some (.inr (0, (0, (-3))))), [])
noncomputable def rxe162_0_1 : rx_End × List (Nat × Int × Int) := (([(0, 0), (0, 0), (0, 0), (0, 0), (0, 0), (0, 0), (0, 0), (0, 0), (1, 12), (0, 33), (0, 7)], [(7, (9, 0), (8, (-1))), (3, (8, 0), (0, 0))], [(((0, 0), 1851192626986356797625047037163794926384839479479878431390302211000000), .inr (0, (0, 0))), (((0, 480), 1), .inr (0, (0, 0))), (((0, 0), 1851192626986356850210231778170724890141603699727916835718430720000000), .inr (0, (10, 0))), (((0, 0), 1851192626986356797825753743950570534658660943933713684945305603000000), .inr (0, (8, (-1)))), (((0, 482), 2), .inr (0, (8, (-1)))), (((0, 0), 1851192626986356797825753743950570534658660943933713684945305600000000), .inr (0, (8, 0))), (((0, 480), 3), .inr (3, (0, 482))), (((0, 0), 1851192626986356797424340330377019318111018015026043177836478467000000), .inr (0, (0, 0))), (((0, 480), 0), .inr (0, (0, 0)))], some (.inr (0, (10, 0)))), [])
noncomputable def rxY162 : List bx_HE := [(rxz162_0, [], [rxe162_0_0, rxe162_0_1])]
noncomputable def rxU162 (q : bx_HE) : Bool := false
noncomputable def rxYB162 : bx_B := (rxV, rxNP, rxDmf, bx_mdH rxC162.2.2.1)
set_option maxRecDepth 100000 in
theorem rxYc162 : bx_chkH rxYB162 rxM162 rxC162 rxY162 (rxU162, fun cut z => rx_ex2 (rxCT rxYB162 rxCnE) cut 30000 rxC162.2.2.2.1 162 z) = true := by decide +kernel
noncomputable def rxI162 (S0 : Nat → Int → Int) (ws : List Int) (i : Nat) : bx_SP := fun S r => match i with | 0 => rxI162_0 S0 ws S | _ => False
noncomputable def rxm162 (S0 : Nat → Int → Int) (ws : List Int) (i : Nat) (S : Nat → Int → Int) (r : Nat → Int) : Nat := match i with | 0 => rxm162_0 S0 ws S | _ => 0
noncomputable def rxP162 (S0 : Nat → Int → Int) (ws : List Int) : Prop := True
noncomputable def rxPS162 (S0 : Nat → Int → Int) (ws : List Int) (S : Nat → Int → Int) (w : Option Int) : Prop := ws = [480] ∧ ((S0 482 2 ≤ 0 ∧ w = some (-3) ∧ (∀ j : Int, S 482 j = S0 482 j)) ∨ (0 < S0 482 2 ∧ w = some (S0 482 (263 + 3 * (S0 482 2 - 1))) ∧ S 482 2 = S0 482 2 - 1))
theorem rxd162_0_0 {S0 : Nat → Int → Int} {ws : List Int} {S : Nat → Int → Int} {x8 x9 x10 : Int} (hP : rxP162 S0 ws) (hin : bx_same rxL (bx_mdl rxC162.2.2.1) S0 S) (hin2 : bx_same rxL (bx_mdl rxC162.2.2.1) S (bx_up (bx_up (bx_up S 480 0 0) 480 1 ((-3))) 481 3 x10)) (I0 : bx_Inv rxL S) (I1 : bx_Inv rxL (bx_up (bx_up (bx_up S 480 0 0) 480 1 ((-3))) 481 3 x10)) (hinv : rxI162_0 S0 ws S) (l8 : 0 ≤ x8) (u8 : x8 ≤ 0) (l9 : (-2147483648) ≤ x9) (u9 : x9 ≤ 2147483647) (l10 : (-2147483648) ≤ x10) (u10 : x10 ≤ 2147483647) (e3 : (bx_up S 480 0 0) 482 2 = x8) (e1 : (bx_up (bx_up S 480 0 0) 480 1 ((-3))) 481 3 = x9) : (True) ∧ rxPS162 S0 ws (bx_up (bx_up (bx_up S 480 0 0) 480 1 ((-3))) 481 3 x10) (some ((-3))) := by
  obtain ⟨rfl, hw⟩ := hinv
  have ze3 : S 482 2 = x8 := (((bx_up_ne (by omega))).symm.trans e3)
  have ze1 : S 481 3 = x9 := (((bx_up_ne (by omega)).trans ((bx_up_ne (by omega)))).symm.trans e1)
  exact ⟨trivial, hw, Or.inl ⟨by omega, rfl, fun j => (bx_up_ne (by omega)).trans ((bx_up_ne (by omega)).trans (bx_up_ne (by omega)))⟩⟩
theorem rxf162_0_0 {X : (Nat → Int → Int) → Prop} {S0 : Nat → Int → Int} {ws : List Int} (hP : rxP162 S0 ws) : bx_obE rxL X S0 rxC162.2.2.1 (rxI162 S0 ws) (rxPS162 S0 ws) 0 rxz162_0 rxe162_0_0 := by
  intro S S_p r r_p hinv hX hin hsm_ hseg
  obtain ⟨I0, I1, h0_, hr_, b_, f_, d_⟩ := bx_cl (evs := [(1, (0, 481), (0, 3), .inr (0, (10, 0))), (0, (0, 481), (0, 3), .inr (0, (9, 0))), (1, (0, 480), (0, 1), .inr (0, (0, (-3)))), (0, (0, 482), (0, 2), .inr (0, (8, 0))), (1, (0, 480), (0, 0), .inr (0, (0, 0)))]) (fvs := []) hseg (by decide +kernel) (by decide +kernel)
  have hinv : rxI162_0 S0 ws S := hinv
  obtain ⟨⟨l8, u8⟩, ⟨l9, u9⟩, ⟨l10, u10⟩, -⟩ := b_
  obtain ⟨T0, ⟨e1, ⟨T2, ⟨e3, ⟨T4, w_, w4⟩⟩, w2⟩⟩, w0⟩ := d_
  subst w0
  subst w2
  subst w4
  subst w_
  have g := rxd162_0_0 hP hin hsm_ I0 I1 hinv l8 u8 l9 u9 l10 u10 e3 e1
  refine ⟨bx_narP_ok (l := []) g.1, ?_⟩
  show rxPS162 S0 ws (bx_up (bx_up (bx_up T4 480 (0) (0)) 480 (1) ((-3))) 481 (3) (r_p 10)) (some (bx_num r_p (.inr (0, (0, (-3))))))
  rw [bx_xv_ok h0_]
  exact g.2
theorem rxd162_0_1 {S0 : Nat → Int → Int} {ws : List Int} {S : Nat → Int → Int} {x8 x9 x10 : Int} (hP : rxP162 S0 ws) (hin : bx_same rxL (bx_mdl rxC162.2.2.1) S0 S) (hin2 : bx_same rxL (bx_mdl rxC162.2.2.1) S (bx_up (bx_up (bx_up S 480 0 0) 482 2 (x8 + (-1))) 480 1 0)) (I0 : bx_Inv rxL S) (I1 : bx_Inv rxL (bx_up (bx_up (bx_up S 480 0 0) 482 2 (x8 + (-1))) 480 1 0)) (hinv : rxI162_0 S0 ws S) (l8 : 1 ≤ x8) (u8 : x8 ≤ 12) (l9 : 0 ≤ x9) (u9 : x9 ≤ 33) (l10 : 0 ≤ x10) (u10 : x10 ≤ 7) (f0 : x9 = 3 * (x8 + (-1))) (f1 : x8 ≠ 0) (e3 : (bx_up S 480 0 0) 482 2 = x8) (e1 : (bx_up (bx_up S 480 0 0) 482 2 (x8 + (-1))) 482 (x9 + 263) = x10) : (True) ∧ rxPS162 S0 ws (bx_up (bx_up (bx_up S 480 0 0) 482 2 (x8 + (-1))) 480 1 0) (some x10) := by
  obtain ⟨rfl, hw⟩ := hinv
  have ze3 : S 482 2 = x8 := (((bx_up_ne (by omega))).symm.trans e3)
  have ze1 : S 482 (x9 + 263) = x10 := (((bx_up_ne (by omega)).trans ((bx_up_ne (by omega)))).symm.trans e1)
  have y : S 482 (263 + 3 * (S 482 2 - 1)) = x10 := by
    rw [show (263 + 3 * (S 482 2 - 1) : Int) = x9 + 263 by omega]
    exact ze1
  exact ⟨trivial, hw, Or.inr ⟨by omega, congrArg some y.symm, ((bx_up_ne (by omega)).trans (bx_up_at)).trans (by omega)⟩⟩
theorem rxf162_0_1 {X : (Nat → Int → Int) → Prop} {S0 : Nat → Int → Int} {ws : List Int} (hP : rxP162 S0 ws) : bx_obE rxL X S0 rxC162.2.2.1 (rxI162 S0 ws) (rxPS162 S0 ws) 0 rxz162_0 rxe162_0_1 := by
  intro S S_p r r_p hinv hX hin hsm_ hseg
  obtain ⟨I0, I1, h0_, hr_, b_, f_, d_⟩ := bx_cl (evs := [(1, (0, 480), (0, 1), .inr (0, (0, 0))), (0, (0, 482), (9, 263), .inr (0, (10, 0))), (1, (0, 482), (0, 2), .inr (0, (8, (-1)))), (0, (0, 482), (0, 2), .inr (0, (8, 0))), (1, (0, 480), (0, 0), .inr (0, (0, 0)))]) (fvs := [(4, (9, 0), (8, (-1)), (0, 3)), (3, (8, 0), (0, 0), (0, 0))]) hseg (by decide +kernel) (by decide +kernel)
  have hinv : rxI162_0 S0 ws S := hinv
  obtain ⟨⟨l8, u8⟩, ⟨l9, u9⟩, ⟨l10, u10⟩, -⟩ := b_
  obtain ⟨f0, f1, -⟩ := f_
  obtain ⟨T0, ⟨e1, ⟨T2, ⟨e3, ⟨T4, w_, w4⟩⟩, w2⟩⟩, w0⟩ := d_
  subst w0
  subst w2
  subst w4
  subst w_
  have g := rxd162_0_1 hP hin hsm_ I0 I1 hinv l8 u8 l9 u9 l10 u10 f0 f1 e3 e1
  refine ⟨bx_narP_ok (l := []) g.1, ?_⟩
  show rxPS162 S0 ws (bx_up (bx_up (bx_up T4 480 (0) (0)) 482 (2) (r_p 8 + (-1))) 480 (1) (0)) (some (bx_num r_p (.inr (0, (10, 0)))))
  rw [bx_xv_ok h0_]
  exact g.2
theorem rxgC162 {X : (Nat → Int → Int) → Prop} {S0 : Nat → Int → Int} {ws : List Int} (hP : rxP162 S0 ws) : bx_allI (fun i q => rxU162 q = true ∨ bx_allP (fun o => bx_obC rxL X S0 rxC162.2.2.1 (rxI162 S0 ws) (rxm162 S0 ws) i q.1 o) q.2.1) 0 rxY162 := ⟨Or.inr trivial, trivial⟩
theorem rxgE162 {X : (Nat → Int → Int) → Prop} {S0 : Nat → Int → Int} {ws : List Int} (hP : rxP162 S0 ws) : bx_allI (fun i q => rxU162 q = true ∨ bx_allP (fun E => bx_obE rxL X S0 rxC162.2.2.1 (rxI162 S0 ws) (rxPS162 S0 ws) i q.1 E) q.2.2) 0 rxY162 := ⟨Or.inr ⟨rxf162_0_0 hP, rxf162_0_1 hP, trivial⟩, trivial⟩
theorem rxQ162 {PX : State → Prop} {Dg : va_G} {A : Nat → Prop} {ad xa : Nat → Nat} {l : Launch} {X : (Nat → Int → Int) → Prop} (hPX : rx_PXOK rxNW A PX) (hsl : ∀ s : State, PX s → ∀ o idx n : Nat, rxSl o idx = some n → ∃ tx : String, vk_R (rxNm o) idx tx (ad n) s)
    (hX : ∀ S S_p : Nat → Int → Int, X S → bx_same rxL (bx_mdl rxC162.2.2.1) S S_p → X S_p)
    (ih : ∀ (j2 : Nat) (ct2 : bx_Ct) (M2 : rx_Mt), ct2 ∈ rxCnE j2 → ct2.2.2.2.1 + 1 ≤ rxC162.2.2.2.1 → rxT.2.2.2.2.2 j2 = some M2 → bx_Con rxG rxNW rxAO PX Dg rxL X vwCl A ad l M2 ct2) : bx_ConP rxG rxNW rxAO PX Dg rxL X vwCl A ad l rxM162 rxC162 rxP162 rxPS162 :=
  rxQof (xa := xa) (Cn := rxCnE) (f := 30000) (j := 162) (tab := rxY162) (us := rxU162) hPX hsl hX ih rfl rxYc162 rxI162 rxm162
    (fun S0 ws r I0 I ht0 ht as he he1 hX0 hI0 hP hs ha => by
      have e := he.symm.trans (show bx_ent0 rxNP rxC162.1 bx_I0 [] = some ([(0, 0), (0, 0), (0, 0), (0, 0), (0, 0), (0, 0), (0, 0), (0, 0)], [], [.inr (3, (0, 480))]) from rfl)
      cases e
      subst ha
      have h0 : r 0 = 0 := hs.1
      show rxI162_0 S0 _ S0
      refine ⟨rfl, ?_⟩
      simp only [List.map_cons, List.map_nil, bx_xv_ok h0]
      rfl)
    (fun S0 ws hP => fun i q hq hus => absurd (show false = true from hus) Bool.false_ne_true) (fun S0 ws hP => rxgC162 hP) (fun S0 ws hP => rxgE162 hP)
