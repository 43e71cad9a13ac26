noncomputable def rqAl (R : Int → Int) (p : Int) : Prop := R (238 + 3 * p) ≤ R 7 ∧ R 7 < R (239 + 3 * p)
noncomputable def rqYt (R : Int → Int) (a b : Int) : Int := min (R (239 + 3 * a)) (R (239 + 3 * b)) - max (R (238 + 3 * a)) (R (238 + 3 * b))
noncomputable def rqMb (R : Int → Int) (pa ps : Int) : Prop := rqAl R ps ∧ ∃ x : Int, rqAs R ps pa (-1) (R 7) 2 0 x ∧ x ≠ 1
noncomputable def rqMbn (R : Int → Int) (pa ps : Int) : Prop := ¬ rqAl R ps ∨ ∃ x : Int, rqAs R ps pa (-1) (R 7) 2 0 x ∧ x = 1
noncomputable def rqMl (R : Int → Int) (pa hd ps : Int) : Prop := hd ≠ ps ∧ rqAl R hd ∧ rqAl R ps ∧ (∃ x : Int, rqAs R ps pa hd (R 7) 2 0 x ∧ x ≠ 1) ∧ ∃ x : Int, rqAs R ps pa hd (R 7) 1 1 x ∧ rkNear x 99 ≤ rqYt R ps hd
noncomputable def rqMln (R : Int → Int) (pa hd ps : Int) : Prop := hd = ps ∨ ¬ rqAl R hd ∨ ¬ rqAl R ps ∨ (∃ x : Int, rqAs R ps pa hd (R 7) 2 0 x ∧ x = 1) ∨ ∃ x : Int, rqAs R ps pa hd (R 7) 1 1 x ∧ rqYt R ps hd < rkNear x 99
theorem rqAs_cg {R R_p : Int → Int} {p pa t y h0 b x : Int} (e : ∀ j : Int, 0 ≤ j → j < 6180 → R_p j = R j) (hf : -1 ≤ R 4 ∧ R 4 ≤ 5) (p0 : 0 ≤ p) (p1 : p ≤ 7) (h : rqAs R p pa t y h0 b x) : rqAs R_p p pa t y h0 b x := by
  have e4 := e 4 (by omega) (by omega)
  rcases h with ⟨a, h⟩ | ⟨a, h⟩
  · exact Or.inl ⟨e4.trans a, h⟩
  · refine Or.inr ⟨fun c => a (e4.symm.trans c), fun L h1 h2 => ?_⟩
    rw [e (240 + 3 * p) (by omega) (by omega), e (238 + 3 * p) (by omega) (by omega), e (239 + 3 * p) (by omega) (by omega), e 8 (by omega) (by omega)]
    rw [e4] at h1
    exact h L (rkTr_cg h1 fun j a1 b1 => (e j (by omega) (by omega)).symm) h2
theorem rqLp_cg {R R_p : Int → Int} (e : ∀ j : Int, 0 ≤ j → j < 6180 → R_p j = R j) (hf : -1 ≤ R 4 ∧ R 4 ≤ 5) (h : rqLp R) : rqLp R_p := by
  have e4 := e 4 (by omega) (by omega)
  by_cases c : R 4 = -1
  · exact Or.inl (e4.trans c)
  · rcases h with a | ⟨L, h1, h2⟩
    · exact absurd a c
    · refine Or.inr ⟨L, ?_, h2⟩
      rw [e4]
      exact rkTr_cg h1 fun j a1 b1 => e j (by omega) (by omega)
theorem rk_v3 {S : Nat → Int → Int} {a b c n m pa ps te : Int} (ha : a = 262 + 3 * n) (hb : b = 263 + 3 * n) (hc : c = 264 + 3 * n) (i : Int) (i0 : 0 ≤ i) :
    bx_up (bx_up (bx_up (bx_up (bx_up S 482 a pa) 482 b ps) 482 c te) 482 2 m) 480 1 0 482 (262 + 3 * i) = (if i = n then pa else S 482 (262 + 3 * i)) ∧
    bx_up (bx_up (bx_up (bx_up (bx_up S 482 a pa) 482 b ps) 482 c te) 482 2 m) 480 1 0 482 (263 + 3 * i) = (if i = n then ps else S 482 (263 + 3 * i)) ∧
    bx_up (bx_up (bx_up (bx_up (bx_up S 482 a pa) 482 b ps) 482 c te) 482 2 m) 480 1 0 482 (264 + 3 * i) = (if i = n then te else S 482 (264 + 3 * i)) := by
  subst ha
  subst hb
  subst hc
  by_cases z : i = n
  · subst z
    rw [if_pos rfl, if_pos rfl, if_pos rfl]
    exact ⟨(bx_up_ne (by omega)).trans ((bx_up_ne (by omega)).trans ((bx_up_ne (by omega)).trans ((bx_up_ne (by omega)).trans bx_up_at))), (bx_up_ne (by omega)).trans ((bx_up_ne (by omega)).trans ((bx_up_ne (by omega)).trans bx_up_at)), (bx_up_ne (by omega)).trans ((bx_up_ne (by omega)).trans bx_up_at)⟩
  · rw [if_neg z, if_neg z, if_neg z]
    exact ⟨(bx_up_ne (by omega)).trans ((bx_up_ne (by omega)).trans ((bx_up_ne (by omega)).trans ((bx_up_ne (by omega)).trans (bx_up_ne (by omega))))), (bx_up_ne (by omega)).trans ((bx_up_ne (by omega)).trans ((bx_up_ne (by omega)).trans ((bx_up_ne (by omega)).trans (bx_up_ne (by omega))))), (bx_up_ne (by omega)).trans ((bx_up_ne (by omega)).trans ((bx_up_ne (by omega)).trans ((bx_up_ne (by omega)).trans (bx_up_ne (by omega)))))⟩
noncomputable def rxI158_0 (S0 : Nat → Int → Int) (ws : List Int) (S : Nat → Int → Int) (pa ps : Int) : Prop := S = S0 ∧ ws = [480, pa, ps]
noncomputable def rxm158_0 (S0 : Nat → Int → Int) (ws : List Int) (S : Nat → Int → Int) (pa ps : Int) : Nat := 1000
noncomputable def rxI158_1 (S0 : Nat → Int → Int) (ws : List Int) (S : Nat → Int → Int) (pa ps y : Int) : Prop := S = bx_up S0 480 0 0 ∧ ws = [480, pa, ps] ∧ (0 ≤ pa ∧ pa < S0 482 0 ∧ 0 ≤ ps ∧ ps < S0 482 1) ∧ rqAl (S0 482) ps ∧ y = S0 482 7
noncomputable def rxm158_1 (S0 : Nat → Int → Int) (ws : List Int) (S : Nat → Int → Int) (pa ps y : Int) : Nat := 900
noncomputable def rxI158_2 (S0 : Nat → Int → Int) (ws : List Int) (S : Nat → Int → Int) (pa ps y r : Int) : Prop := ws = [480, pa, ps] ∧ (0 ≤ pa ∧ pa < S0 482 0 ∧ 0 ≤ ps ∧ ps < S0 482 1) ∧ rqAl (S0 482) ps ∧ (∃ x : Int, rqAs (S0 482) ps pa (-1) (S0 482 7) 2 0 x ∧ r = if x = 1 then 1 else 0) ∧ (∀ j : Int, 0 ≤ j → j < 298 → S 482 j = S0 482 j)
noncomputable def rxm158_2 (S0 : Nat → Int → Int) (ws : List Int) (S : Nat → Int → Int) (pa ps y r : Int) : Nat := 800
noncomputable def rxI158_3 (S0 : Nat → Int → Int) (ws : List Int) (S : Nat → Int → Int) (pa ps v i n2 : Int) : Prop := ws = [480, pa, ps] ∧ (0 ≤ pa ∧ pa < S0 482 0 ∧ 0 ≤ ps ∧ ps < S0 482 1) ∧ rqMb (S0 482) pa ps ∧ (v = S0 482 2 ∧ n2 = v) ∧ (∀ j : Int, 0 ≤ j → j < 298 → S 482 j = S0 482 j)
noncomputable def rxm158_3 (S0 : Nat → Int → Int) (ws : List Int) (S : Nat → Int → Int) (pa ps v i n2 : Int) : Nat := (100 - i).toNat
noncomputable def rxP158 (S0 : Nat → Int → Int) (ws : List Int) : Prop := rxX S0 ∧ rqLp (S0 482)
noncomputable def rxPS158 (S0 : Nat → Int → Int) (ws : List Int) (S : Nat → Int → Int) (w : Option Int) : Prop := ∃ pa ps : Int, ws = [480, pa, ps] ∧ (((pa < 0 ∨ S0 482 0 ≤ pa ∨ ps < 0 ∨ S0 482 1 ≤ ps) ∧ w = some (-2) ∧ (∀ j : Int, 0 ≤ j → j < 298 → S 482 j = S0 482 j)) ∨ ((0 ≤ pa ∧ pa < S0 482 0 ∧ 0 ≤ ps ∧ ps < S0 482 1) ∧ rqMbn (S0 482) pa ps ∧ w = some (-3) ∧ (∀ j : Int, 0 ≤ j → j < 298 → S 482 j = S0 482 j)) ∨ ((0 ≤ pa ∧ pa < S0 482 0 ∧ 0 ≤ ps ∧ ps < S0 482 1) ∧ rqMb (S0 482) pa ps ∧ S0 482 2 = 12 ∧ w = some (-5) ∧ (∀ j : Int, 0 ≤ j → j < 298 → S 482 j = S0 482 j)) ∨ ((0 ≤ pa ∧ pa < S0 482 0 ∧ 0 ≤ ps ∧ ps < S0 482 1) ∧ rqMb (S0 482) pa ps ∧ S0 482 2 < 12 ∧ w = some (S0 482 2) ∧ S 482 2 = S0 482 2 + 1 ∧ (∀ i : Int, 0 ≤ i → i < 12 → S 482 (262 + 3 * i) = if i = S0 482 2 then pa else S0 482 (262 + 3 * i)) ∧ (∀ i : Int, 0 ≤ i → i < 12 → S 482 (263 + 3 * i) = if i = S0 482 2 then ps else S0 482 (263 + 3 * i)) ∧ (∀ i : Int, 0 ≤ i → i < 12 → S 482 (264 + 3 * i) = if i = S0 482 2 then (-1) else S0 482 (264 + 3 * i))))
theorem rxk158_1 {S0 : Nat → Int → Int} {ws : List Int} {S : Nat → Int → Int} {pa ps y : Int} (hP : rxP158 S0 ws) (hin : bx_same rxL (bx_mdl rxC158.2.2.1) S0 S) (I0 : bx_Inv rxL S) (hinv : rxI158_1 S0 ws S pa ps y) (l8 : 0 ≤ pa) (u8 : pa ≤ 5) (l9 : 0 ≤ ps) (u9 : ps ≤ 7) (l10 : 0 ≤ y) (u10 : y ≤ 300) : rxPBAX S [480, ps, pa, (-1), y] ∧ ∀ (S_p : Nat → Int → Int) (r : Int), 0 ≤ r → r ≤ 1 → rxPSBAX S [480, ps, pa, (-1), y] S_p (some r) → bx_Inv rxL S_p → bx_same rxL (bx_mdl rxCBAX.2.2.1) S S_p → rxI158_2 S0 ws S_p pa ps y r ∧ rxm158_2 S0 ws S_p pa ps y r < rxm158_1 S0 ws S pa ps y := by
  obtain ⟨hS, hw, hg, ha, hy⟩ := hinv
  have e482 : S 482 = S0 482 := by
    rw [hS]
    exact funext fun _ => bx_up_ne (by omega)
  have hx : rxX S := by
    rw [hS]
    exact rxX_up0 hP.1
  refine ⟨⟨hx, by rw [e482]; exact hP.2⟩, fun S_p r _ _ hq _ hsm => ⟨⟨hw, hg, ha, ?_, fun j a b => (rx_sameR hsm (p := 482) (tc := 0) (n := 6180) (g := 63) rfl (by omega) (by decide +kernel) (by decide +kernel) a (by omega)).trans (congrFun e482 j)⟩, by unfold rxm158_1 rxm158_2; omega⟩⟩
  obtain ⟨p2, pa2, t2, y2, x, hw3, h1, h2⟩ := hq
  have k0 : ps = p2 := Option.some.inj (congrArg (fun l : List Int => l[1]?) hw3)
  have k1 : pa = pa2 := Option.some.inj (congrArg (fun l : List Int => l[2]?) hw3)
  have k2 : (-1 : Int) = t2 := Option.some.inj (congrArg (fun l : List Int => l[3]?) hw3)
  have k3 : y = y2 := Option.some.inj (congrArg (fun l : List Int => l[4]?) hw3)
  subst k0
  subst k1
  subst k2
  subst k3
  rw [e482, hy] at h1
  exact ⟨x, h1, Option.some.inj h2⟩
theorem rxc158_0_0 {S0 : Nat → Int → Int} {ws : List Int} {S : Nat → Int → Int} {pa ps x10 x11 x12 x13 x14 x15 x16 : Int} (hP : rxP158 S0 ws) (hin : bx_same rxL (bx_mdl rxC158.2.2.1) S0 S) (I0 : bx_Inv rxL S) (hinv : rxI158_0 S0 ws S pa ps) (l8 : 0 ≤ pa) (u8 : pa ≤ 5) (l9 : 0 ≤ ps) (u9 : ps ≤ 7) (l10 : 1 ≤ x10) (u10 : x10 ≤ 6) (l11 : 1 ≤ x11) (u11 : x11 ≤ 8) (l12 : 0 ≤ x12) (u12 : x12 ≤ 299) (l13 : 0 ≤ x13) (u13 : x13 ≤ 21) (l14 : 0 ≤ x14) (u14 : x14 ≤ 200) (l15 : 0 ≤ x15) (u15 : x15 ≤ 21) (l16 : 1 ≤ x16) (u16 : x16 ≤ 300) (f0 : x12 ≤ x16 + (-1)) (f1 : x14 ≤ x12) (f2 : x15 = 3 * (ps)) (f3 : x13 = 3 * (ps)) (f4 : ps ≤ x11 + (-1)) (f5 : pa ≤ x10 + (-1)) (e4 : (bx_up S 480 0 0) 482 0 = x10) (e3 : (bx_up S 480 0 0) 482 1 = x11) (e2 : (bx_up S 480 0 0) 482 7 = x12) (e1 : (bx_up S 480 0 0) 482 (x13 + 238) = x14) (e0 : (bx_up S 480 0 0) 482 (x15 + 239) = x16) : (True) ∧ (True) ∧ rxI158_1 S0 ws (bx_up S 480 0 0) pa ps x12 ∧ rxm158_1 S0 ws (bx_up S 480 0 0) pa ps x12 < rxm158_0 S0 ws S pa ps := by
  obtain ⟨rfl, hw⟩ := hinv
  have ze4 : S 482 0 = x10 := (((bx_up_ne (by omega))).symm.trans e4)
  have ze3 : S 482 1 = x11 := (((bx_up_ne (by omega))).symm.trans e3)
  have ze2 : S 482 7 = x12 := (((bx_up_ne (by omega))).symm.trans e2)
  have ze1 : S 482 (x13 + 238) = x14 := (((bx_up_ne (by omega))).symm.trans e1)
  have ze0 : S 482 (x15 + 239) = x16 := (((bx_up_ne (by omega))).symm.trans e0)
  have ae1 : S 482 (238 + 3 * ps) = x14 := by
    rw [show (238 + 3 * ps : Int) = x13 + 238 by omega]
    exact ze1
  have ae0 : S 482 (239 + 3 * ps) = x16 := by
    rw [show (239 + 3 * ps : Int) = x15 + 239 by omega]
    exact ze0
  exact ⟨trivial, trivial, ⟨rfl, hw, by omega, ⟨by omega, by omega⟩, ze2.symm⟩, by unfold rxm158_0 rxm158_1; omega⟩
theorem rxd158_0_0 {S0 : Nat → Int → Int} {ws : List Int} {S : Nat → Int → Int} {pa ps x10 x11 x12 x13 x14 x15 x16 x17 x18 : Int} (hP : rxP158 S0 ws) (hin : bx_same rxL (bx_mdl rxC158.2.2.1) S0 S) (hin2 : bx_same rxL (bx_mdl rxC158.2.2.1) S (bx_up (bx_up (bx_up S 480 0 0) 480 1 ((-3))) 481 3 x18)) (I0 : bx_Inv rxL S) (I1 : bx_Inv rxL (bx_up (bx_up (bx_up S 480 0 0) 480 1 ((-3))) 481 3 x18)) (hinv : rxI158_0 S0 ws S pa ps) (l8 : 0 ≤ pa) (u8 : pa ≤ 5) (l9 : 0 ≤ ps) (u9 : ps ≤ 7) (l10 : 1 ≤ x10) (u10 : x10 ≤ 6) (l11 : 1 ≤ x11) (u11 : x11 ≤ 8) (l12 : 0 ≤ x12) (u12 : x12 ≤ 300) (l13 : 0 ≤ x13) (u13 : x13 ≤ 21) (l14 : 0 ≤ x14) (u14 : x14 ≤ 200) (l15 : 0 ≤ x15) (u15 : x15 ≤ 21) (l16 : 0 ≤ x16) (u16 : x16 ≤ 300) (l17 : (-2147483648) ≤ x17) (u17 : x17 ≤ 2147483647) (l18 : (-2147483648) ≤ x18) (u18 : x18 ≤ 2147483647) (f0 : x16 + (-1) < x12) (f1 : x14 ≤ x12) (f2 : x15 = 3 * (ps)) (f3 : x13 = 3 * (ps)) (f4 : ps ≤ x11 + (-1)) (f5 : pa ≤ x10 + (-1)) (e7 : (bx_up S 480 0 0) 482 0 = x10) (e6 : (bx_up S 480 0 0) 482 1 = x11) (e5 : (bx_up S 480 0 0) 482 7 = x12) (e4 : (bx_up S 480 0 0) 482 (x13 + 238) = x14) (e3 : (bx_up S 480 0 0) 482 (x15 + 239) = x16) (e1 : (bx_up (bx_up S 480 0 0) 480 1 ((-3))) 481 3 = x17) : (True) ∧ rxPS158 S0 ws (bx_up (bx_up (bx_up S 480 0 0) 480 1 ((-3))) 481 3 x18) (some ((-3))) := by
  obtain ⟨rfl, hw⟩ := hinv
  have ze7 : S 482 0 = x10 := (((bx_up_ne (by omega))).symm.trans e7)
  have ze6 : S 482 1 = x11 := (((bx_up_ne (by omega))).symm.trans e6)
  have ze5 : S 482 7 = x12 := (((bx_up_ne (by omega))).symm.trans e5)
  have ze4 : S 482 (x13 + 238) = x14 := (((bx_up_ne (by omega))).symm.trans e4)
  have ze3 : S 482 (x15 + 239) = x16 := (((bx_up_ne (by omega))).symm.trans e3)
  have ze1 : S 481 3 = x17 := (((bx_up_ne (by omega)).trans ((bx_up_ne (by omega)))).symm.trans e1)
  have ae4 : S 482 (238 + 3 * ps) = x14 := by
    rw [show (238 + 3 * ps : Int) = x13 + 238 by omega]
    exact ze4
  have ae3 : S 482 (239 + 3 * ps) = x16 := by
    rw [show (239 + 3 * ps : Int) = x15 + 239 by omega]
    exact ze3
  exact ⟨trivial, pa, ps, hw, Or.inr (Or.inl ⟨by omega, Or.inl (fun c => by
    have c1 : S 482 (238 + 3 * ps) ≤ S 482 7 := c.1
    have c2 : S 482 7 < S 482 (239 + 3 * ps) := c.2
    omega), rfl, fun j j0 j1 => (bx_up_ne (by omega)).trans ((bx_up_ne (by omega)).trans (bx_up_ne (by omega)))⟩)⟩
theorem rxd158_0_1 {S0 : Nat → Int → Int} {ws : List Int} {S : Nat → Int → Int} {pa ps x10 x11 x12 x13 x14 x15 x16 x17 x18 : Int} (hP : rxP158 S0 ws) (hin : bx_same rxL (bx_mdl rxC158.2.2.1) S0 S) (hin2 : bx_same rxL (bx_mdl rxC158.2.2.1) S (bx_up (bx_up (bx_up S 480 0 0) 480 1 ((-3))) 481 3 x18)) (I0 : bx_Inv rxL S) (I1 : bx_Inv rxL (bx_up (bx_up (bx_up S 480 0 0) 480 1 ((-3))) 481 3 x18)) (hinv : rxI158_0 S0 ws S pa ps) (l8 : 0 ≤ pa) (u8 : pa ≤ 5) (l9 : 0 ≤ ps) (u9 : ps ≤ 7) (l10 : 1 ≤ x10) (u10 : x10 ≤ 6) (l11 : 1 ≤ x11) (u11 : x11 ≤ 8) (l12 : 0 ≤ x12) (u12 : x12 ≤ 199) (l13 : 0 ≤ x13) (u13 : x13 ≤ 21) (l14 : 1 ≤ x14) (u14 : x14 ≤ 200) (l15 : 0 ≤ x15) (u15 : x15 ≤ 21) (l16 : 0 ≤ x16) (u16 : x16 ≤ 300) (l17 : (-2147483648) ≤ x17) (u17 : x17 ≤ 2147483647) (l18 : (-2147483648) ≤ x18) (u18 : x18 ≤ 2147483647) (f0 : x12 < x14) (f1 : x15 = 3 * (ps)) (f2 : x13 = 3 * (ps)) (f3 : ps ≤ x11 + (-1)) (f4 : pa ≤ x10 + (-1)) (e7 : (bx_up S 480 0 0) 482 0 = x10) (e6 : (bx_up S 480 0 0) 482 1 = x11) (e5 : (bx_up S 480 0 0) 482 7 = x12) (e4 : (bx_up S 480 0 0) 482 (x13 + 238) = x14) (e3 : (bx_up S 480 0 0) 482 (x15 + 239) = x16) (e1 : (bx_up (bx_up S 480 0 0) 480 1 ((-3))) 481 3 = x17) : (True) ∧ rxPS158 S0 ws (bx_up (bx_up (bx_up S 480 0 0) 480 1 ((-3))) 481 3 x18) (some ((-3))) := by
  obtain ⟨rfl, hw⟩ := hinv
  have ze7 : S 482 0 = x10 := (((bx_up_ne (by omega))).symm.trans e7)
  have ze6 : S 482 1 = x11 := (((bx_up_ne (by omega))).symm.trans e6)
  have ze5 : S 482 7 = x12 := (((bx_up_ne (by omega))).symm.trans e5)
  have ze4 : S 482 (x13 + 238) = x14 := (((bx_up_ne (by omega))).symm.trans e4)
  have ze3 : S 482 (x15 + 239) = x16 := (((bx_up_ne (by omega))).symm.trans e3)
  have ze1 : S 481 3 = x17 := (((bx_up_ne (by omega)).trans ((bx_up_ne (by omega)))).symm.trans e1)
  have ae4 : S 482 (238 + 3 * ps) = x14 := by
    rw [show (238 + 3 * ps : Int) = x13 + 238 by omega]
    exact ze4
  have ae3 : S 482 (239 + 3 * ps) = x16 := by
    rw [show (239 + 3 * ps : Int) = x15 + 239 by omega]
    exact ze3
  exact ⟨trivial, pa, ps, hw, Or.inr (Or.inl ⟨by omega, Or.inl (fun c => by
    have c1 : S 482 (238 + 3 * ps) ≤ S 482 7 := c.1
    have c2 : S 482 7 < S 482 (239 + 3 * ps) := c.2
    omega), rfl, fun j j0 j1 => (bx_up_ne (by omega)).trans ((bx_up_ne (by omega)).trans (bx_up_ne (by omega)))⟩)⟩
theorem rxd158_0_2 {S0 : Nat → Int → Int} {ws : List Int} {S : Nat → Int → Int} {pa ps x10 x11 x12 x13 : Int} (hP : rxP158 S0 ws) (hin : bx_same rxL (bx_mdl rxC158.2.2.1) S0 S) (hin2 : bx_same rxL (bx_mdl rxC158.2.2.1) S (bx_up (bx_up (bx_up S 480 0 0) 480 1 ((-2))) 481 2 x13)) (I0 : bx_Inv rxL S) (I1 : bx_Inv rxL (bx_up (bx_up (bx_up S 480 0 0) 480 1 ((-2))) 481 2 x13)) (hinv : rxI158_0 S0 ws S pa ps) (l8 : 0 ≤ pa) (u8 : pa ≤ 5) (l9 : 0 ≤ ps) (u9 : ps ≤ 2147483647) (l10 : 1 ≤ x10) (u10 : x10 ≤ 6) (l11 : 0 ≤ x11) (u11 : x11 ≤ 8) (l12 : (-2147483648) ≤ x12) (u12 : x12 ≤ 2147483647) (l13 : (-2147483648) ≤ x13) (u13 : x13 ≤ 2147483647) (f0 : x11 + (-1) < ps) (f1 : pa ≤ x10 + (-1)) (e4 : (bx_up S 480 0 0) 482 0 = x10) (e3 : (bx_up S 480 0 0) 482 1 = x11) (e1 : (bx_up (bx_up S 480 0 0) 480 1 ((-2))) 481 2 = x12) : (True) ∧ rxPS158 S0 ws (bx_up (bx_up (bx_up S 480 0 0) 480 1 ((-2))) 481 2 x13) (some ((-2))) := by
  obtain ⟨rfl, hw⟩ := hinv
  have ze4 : S 482 0 = x10 := (((bx_up_ne (by omega))).symm.trans e4)
  have ze3 : S 482 1 = x11 := (((bx_up_ne (by omega))).symm.trans e3)
  have ze1 : S 481 2 = x12 := (((bx_up_ne (by omega)).trans ((bx_up_ne (by omega)))).symm.trans e1)
  exact ⟨trivial, pa, ps, hw, Or.inl ⟨by omega, rfl, fun j j0 j1 => (bx_up_ne (by omega)).trans ((bx_up_ne (by omega)).trans (bx_up_ne (by omega)))⟩⟩
theorem rxd158_0_3 {S0 : Nat → Int → Int} {ws : List Int} {S : Nat → Int → Int} {pa ps x10 x11 x12 x13 : Int} (hP : rxP158 S0 ws) (hin : bx_same rxL (bx_mdl rxC158.2.2.1) S0 S) (hin2 : bx_same rxL (bx_mdl rxC158.2.2.1) S (bx_up (bx_up (bx_up S 480 0 0) 480 1 ((-2))) 481 2 x13)) (I0 : bx_Inv rxL S) (I1 : bx_Inv rxL (bx_up (bx_up (bx_up S 480 0 0) 480 1 ((-2))) 481 2 x13)) (hinv : rxI158_0 S0 ws S pa ps) (l8 : 0 ≤ pa) (u8 : pa ≤ 5) (l9 : (-2147483648) ≤ ps) (u9 : ps ≤ (-1)) (l10 : 1 ≤ x10) (u10 : x10 ≤ 6) (l11 : 0 ≤ x11) (u11 : x11 ≤ 8) (l12 : (-2147483648) ≤ x12) (u12 : x12 ≤ 2147483647) (l13 : (-2147483648) ≤ x13) (u13 : x13 ≤ 2147483647) (f0 : pa ≤ x10 + (-1)) (e4 : (bx_up S 480 0 0) 482 0 = x10) (e3 : (bx_up S 480 0 0) 482 1 = x11) (e1 : (bx_up (bx_up S 480 0 0) 480 1 ((-2))) 481 2 = x12) : (True) ∧ rxPS158 S0 ws (bx_up (bx_up (bx_up S 480 0 0) 480 1 ((-2))) 481 2 x13) (some ((-2))) := by
  obtain ⟨rfl, hw⟩ := hinv
  have ze4 : S 482 0 = x10 := (((bx_up_ne (by omega))).symm.trans e4)
  have ze3 : S 482 1 = x11 := (((bx_up_ne (by omega))).symm.trans e3)
  have ze1 : S 481 2 = x12 := (((bx_up_ne (by omega)).trans ((bx_up_ne (by omega)))).symm.trans e1)
  exact ⟨trivial, pa, ps, hw, Or.inl ⟨by omega, rfl, fun j j0 j1 => (bx_up_ne (by omega)).trans ((bx_up_ne (by omega)).trans (bx_up_ne (by omega)))⟩⟩
theorem rxd158_0_4 {S0 : Nat → Int → Int} {ws : List Int} {S : Nat → Int → Int} {pa ps x10 x11 x12 : Int} (hP : rxP158 S0 ws) (hin : bx_same rxL (bx_mdl rxC158.2.2.1) S0 S) (hin2 : bx_same rxL (bx_mdl rxC158.2.2.1) S (bx_up (bx_up (bx_up S 480 0 0) 480 1 ((-2))) 481 2 x12)) (I0 : bx_Inv rxL S) (I1 : bx_Inv rxL (bx_up (bx_up (bx_up S 480 0 0) 480 1 ((-2))) 481 2 x12)) (hinv : rxI158_0 S0 ws S pa ps) (l8 : 0 ≤ pa) (u8 : pa ≤ 2147483647) (l9 : (-2147483648) ≤ ps) (u9 : ps ≤ 2147483647) (l10 : 0 ≤ x10) (u10 : x10 ≤ 6) (l11 : (-2147483648) ≤ x11) (u11 : x11 ≤ 2147483647) (l12 : (-2147483648) ≤ x12) (u12 : x12 ≤ 2147483647) (f0 : x10 + (-1) < pa) (e3 : (bx_up S 480 0 0) 482 0 = x10) (e1 : (bx_up (bx_up S 480 0 0) 480 1 ((-2))) 481 2 = x11) : (True) ∧ rxPS158 S0 ws (bx_up (bx_up (bx_up S 480 0 0) 480 1 ((-2))) 481 2 x12) (some ((-2))) := by
  obtain ⟨rfl, hw⟩ := hinv
  have ze3 : S 482 0 = x10 := (((bx_up_ne (by omega))).symm.trans e3)
  have ze1 : S 481 2 = x11 := (((bx_up_ne (by omega)).trans ((bx_up_ne (by omega)))).symm.trans e1)
  exact ⟨trivial, pa, ps, hw, Or.inl ⟨by omega, rfl, fun j j0 j1 => (bx_up_ne (by omega)).trans ((bx_up_ne (by omega)).trans (bx_up_ne (by omega)))⟩⟩
theorem rxd158_0_5 {S0 : Nat → Int → Int} {ws : List Int} {S : Nat → Int → Int} {pa ps x10 x11 x12 : Int} (hP : rxP158 S0 ws) (hin : bx_same rxL (bx_mdl rxC158.2.2.1) S0 S) (hin2 : bx_same rxL (bx_mdl rxC158.2.2.1) S (bx_up (bx_up (bx_up S 480 0 0) 480 1 ((-2))) 481 2 x12)) (I0 : bx_Inv rxL S) (I1 : bx_Inv rxL (bx_up (bx_up (bx_up S 480 0 0) 480 1 ((-2))) 481 2 x12)) (hinv : rxI158_0 S0 ws S pa ps) (l8 : (-2147483648) ≤ pa) (u8 : pa ≤ (-1)) (l9 : (-2147483648) ≤ ps) (u9 : ps ≤ 2147483647) (l10 : 0 ≤ x10) (u10 : x10 ≤ 6) (l11 : (-2147483648) ≤ x11) (u11 : x11 ≤ 2147483647) (l12 : (-2147483648) ≤ x12) (u12 : x12 ≤ 2147483647) (e3 : (bx_up S 480 0 0) 482 0 = x10) (e1 : (bx_up (bx_up S 480 0 0) 480 1 ((-2))) 481 2 = x11) : (True) ∧ rxPS158 S0 ws (bx_up (bx_up (bx_up S 480 0 0) 480 1 ((-2))) 481 2 x12) (some ((-2))) := by
  obtain ⟨rfl, hw⟩ := hinv
  have ze3 : S 482 0 = x10 := (((bx_up_ne (by omega))).symm.trans e3)
  have ze1 : S 481 2 = x11 := (((bx_up_ne (by omega)).trans ((bx_up_ne (by omega)))).symm.trans e1)
  exact ⟨trivial, pa, ps, hw, Or.inl ⟨by omega, rfl, fun j j0 j1 => (bx_up_ne (by omega)).trans ((bx_up_ne (by omega)).trans (bx_up_ne (by omega)))⟩⟩
theorem rxc158_2_0 {S0 : Nat → Int → Int} {ws : List Int} {S : Nat → Int → Int} {pa ps y r x12 : Int} (hP : rxP158 S0 ws) (hin : bx_same rxL (bx_mdl rxC158.2.2.1) S0 S) (I0 : bx_Inv rxL S) (hinv : rxI158_2 S0 ws S pa ps y r) (l8 : 0 ≤ pa) (u8 : pa ≤ 5) (l9 : 0 ≤ ps) (u9 : ps ≤ 7) (l10 : 0 ≤ y) (u10 : y ≤ 300) (l11 : 0 ≤ r) (u11 : r ≤ 0) (l12 : 0 ≤ x12) (u12 : x12 ≤ 11) (f0 : x12 ≠ 12) (e0 : S 482 2 = x12) : (True) ∧ (True) ∧ rxI158_3 S0 ws S pa ps x12 0 x12 ∧ rxm158_3 S0 ws S pa ps x12 0 x12 < rxm158_2 S0 ws S pa ps y r := by
  obtain ⟨hw, hg, ha, ⟨x, h1, h2⟩, hf⟩ := hinv
  have e2_ : S 482 2 = S0 482 2 := hf 2 (by decide) (by decide)
  have hx : x ≠ 1 := fun c => by
    rw [if_pos c] at h2
    omega
  exact ⟨trivial, trivial, ⟨hw, hg, ⟨ha, x, h1, hx⟩, ⟨by omega, by omega⟩, hf⟩, by unfold rxm158_2 rxm158_3; omega⟩
theorem rxd158_2_0 {S0 : Nat → Int → Int} {ws : List Int} {S : Nat → Int → Int} {pa ps y r x12 x13 : Int} (hP : rxP158 S0 ws) (hin : bx_same rxL (bx_mdl rxC158.2.2.1) S0 S) (hin2 : bx_same rxL (bx_mdl rxC158.2.2.1) S (bx_up (bx_up S 480 1 ((-3))) 481 3 x13)) (I0 : bx_Inv rxL S) (I1 : bx_Inv rxL (bx_up (bx_up S 480 1 ((-3))) 481 3 x13)) (hinv : rxI158_2 S0 ws S pa ps y r) (l8 : 0 ≤ pa) (u8 : pa ≤ 5) (l9 : 0 ≤ ps) (u9 : ps ≤ 7) (l10 : 0 ≤ y) (u10 : y ≤ 300) (l11 : 1 ≤ r) (u11 : r ≤ 1) (l12 : (-2147483648) ≤ x12) (u12 : x12 ≤ 2147483647) (l13 : (-2147483648) ≤ x13) (u13 : x13 ≤ 2147483647) (f0 : r ≠ 0) (e1 : (bx_up S 480 1 ((-3))) 481 3 = x12) : (True) ∧ rxPS158 S0 ws (bx_up (bx_up S 480 1 ((-3))) 481 3 x13) (some ((-3))) := by
  obtain ⟨hw, hg, ha, ⟨x, h1, h2⟩, hf⟩ := hinv
  have e2_ : S 482 2 = S0 482 2 := hf 2 (by decide) (by decide)
  have hx : x = 1 := by
    by_cases c : x = 1
    · exact c
    · rw [if_neg c] at h2
      omega
  exact ⟨trivial, pa, ps, hw, Or.inr (Or.inl ⟨hg, Or.inr ⟨x, h1, hx⟩, rfl, fun j j0 j1 => (bx_up_ne (by omega)).trans ((bx_up_ne (by omega)).trans (hf j j0 j1))⟩)⟩
theorem rxd158_2_1 {S0 : Nat → Int → Int} {ws : List Int} {S : Nat → Int → Int} {pa ps y r x12 x13 x14 : Int} (hP : rxP158 S0 ws) (hin : bx_same rxL (bx_mdl rxC158.2.2.1) S0 S) (hin2 : bx_same rxL (bx_mdl rxC158.2.2.1) S (bx_up (bx_up S 480 1 ((-5))) 481 5 x14)) (I0 : bx_Inv rxL S) (I1 : bx_Inv rxL (bx_up (bx_up S 480 1 ((-5))) 481 5 x14)) (hinv : rxI158_2 S0 ws S pa ps y r) (l8 : 0 ≤ pa) (u8 : pa ≤ 5) (l9 : 0 ≤ ps) (u9 : ps ≤ 7) (l10 : 0 ≤ y) (u10 : y ≤ 300) (l11 : 0 ≤ r) (u11 : r ≤ 0) (l12 : 12 ≤ x12) (u12 : x12 ≤ 12) (l13 : (-2147483648) ≤ x13) (u13 : x13 ≤ 2147483647) (l14 : (-2147483648) ≤ x14) (u14 : x14 ≤ 2147483647) (e3 : S 482 2 = x12) (e1 : (bx_up S 480 1 ((-5))) 481 5 = x13) : (True) ∧ rxPS158 S0 ws (bx_up (bx_up S 480 1 ((-5))) 481 5 x14) (some ((-5))) := by
  obtain ⟨hw, hg, ha, ⟨x, h1, h2⟩, hf⟩ := hinv
  have e2_ : S 482 2 = S0 482 2 := hf 2 (by decide) (by decide)
  have hx : x ≠ 1 := fun c => by
    rw [if_pos c] at h2
    omega
  exact ⟨trivial, pa, ps, hw, Or.inr (Or.inr (Or.inl ⟨hg, ⟨ha, x, h1, hx⟩, by omega, rfl, fun j j0 j1 => (bx_up_ne (by omega)).trans ((bx_up_ne (by omega)).trans (hf j j0 j1))⟩))⟩
theorem rxc158_3_0 {S0 : Nat → Int → Int} {ws : List Int} {S : Nat → Int → Int} {pa ps v i n2 x13 x14 x15 x16 x17 : Int} (hP : rxP158 S0 ws) (hin : bx_same rxL (bx_mdl rxC158.2.2.1) S0 S) (I0 : bx_Inv rxL S) (hinv : rxI158_3 S0 ws S pa ps v i n2) (l8 : 0 ≤ pa) (u8 : pa ≤ 5) (l9 : 0 ≤ ps) (u9 : ps ≤ 7) (l10 : 0 ≤ v) (u10 : v ≤ 11) (l11 : 0 ≤ i) (u11 : i ≤ 35) (l12 : 0 ≤ n2) (u12 : n2 ≤ 11) (l13 : 0 ≤ x13) (u13 : x13 ≤ 396) (l14 : 298 ≤ x14) (u14 : x14 ≤ 729) (l15 : 0 ≤ x15) (u15 : x15 ≤ 180) (l16 : 22 ≤ x16) (u16 : x16 ≤ 237) (l17 : (-1) ≤ x17) (u17 : x17 ≤ 59) (f0 : x16 = x15 + 22 + i) (f1 : x15 = 36 * (pa)) (f2 : x14 = x13 + 298 + i) (f3 : x13 = 36 * (v)) (e1 : S 482 x16 = x17) : (True) ∧ (True) ∧ rxI158_3 S0 ws (bx_up S 482 x14 x17) pa ps v (i + 1) n2 ∧ rxm158_3 S0 ws (bx_up S 482 x14 x17) pa ps v (i + 1) n2 < rxm158_3 S0 ws S pa ps v i n2 := by
  obtain ⟨hw, hg, hm, ⟨hv, hn⟩, hf⟩ := hinv
  exact ⟨trivial, trivial, ⟨hw, hg, hm, ⟨hv, hn⟩, fun j j0 j1 => (bx_up_ne (by omega)).trans (hf j j0 j1)⟩, by unfold rxm158_3; omega⟩
theorem rxd158_3_0 {S0 : Nat → Int → Int} {ws : List Int} {S : Nat → Int → Int} {pa ps v i n2 x13 x14 x15 : Int} (hP : rxP158 S0 ws) (hin : bx_same rxL (bx_mdl rxC158.2.2.1) S0 S) (hin2 : bx_same rxL (bx_mdl rxC158.2.2.1) S (bx_up (bx_up (bx_up (bx_up (bx_up S 482 (x13 + 262) pa) 482 (x14 + 263) ps) 482 (x15 + 264) ((-1))) 482 2 (n2 + 1)) 480 1 0)) (I0 : bx_Inv rxL S) (I1 : bx_Inv rxL (bx_up (bx_up (bx_up (bx_up (bx_up S 482 (x13 + 262) pa) 482 (x14 + 263) ps) 482 (x15 + 264) ((-1))) 482 2 (n2 + 1)) 480 1 0)) (hinv : rxI158_3 S0 ws S pa ps v i n2) (l8 : 0 ≤ pa) (u8 : pa ≤ 5) (l9 : 0 ≤ ps) (u9 : ps ≤ 7) (l10 : 0 ≤ v) (u10 : v ≤ 11) (l11 : 36 ≤ i) (u11 : i ≤ 36) (l12 : 0 ≤ n2) (u12 : n2 ≤ 11) (l13 : 0 ≤ x13) (u13 : x13 ≤ 33) (l14 : 0 ≤ x14) (u14 : x14 ≤ 33) (l15 : 0 ≤ x15) (u15 : x15 ≤ 33) (f0 : x15 = 3 * (n2)) (f1 : x14 = 3 * (n2)) (f2 : x13 = 3 * (n2)) : (True) ∧ rxPS158 S0 ws (bx_up (bx_up (bx_up (bx_up (bx_up S 482 (x13 + 262) pa) 482 (x14 + 263) ps) 482 (x15 + 264) ((-1))) 482 2 (n2 + 1)) 480 1 0) (some n2) := by
  obtain ⟨hw, hg, hm, ⟨hv, hn⟩, hf⟩ := hinv
  have hn_ : n2 = S0 482 2 := by omega
  have z3 := fun (i : Int) (i0 : 0 ≤ i) => rk_v3 (S := S) (a := (x13 + 262)) (b := (x14 + 263)) (c := (x15 + 264)) (n := n2) (m := (n2 + 1)) (pa := pa) (ps := ps) (te := -1) (by omega) (by omega) (by omega) i i0
  exact ⟨trivial, pa, ps, hw, Or.inr (Or.inr (Or.inr ⟨hg, hm, by omega, congrArg some (by omega), (bx_up_ne (by omega)).trans (bx_up_at.trans (by omega)), (fun i i0 i1 => by
    have y := (z3 i i0).1
    rw [y, hf (262 + 3 * i) (by omega) (by omega), hn_]), (fun i i0 i1 => by
    have y := (z3 i i0).2.1
    rw [y, hf (263 + 3 * i) (by omega) (by omega), hn_]), (fun i i0 i1 => by
    have y := (z3 i i0).2.2
    rw [y, hf (264 + 3 * i) (by omega) (by omega), hn_])⟩))⟩