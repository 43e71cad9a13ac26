noncomputable def rxI159_0 (S0 : Nat → Int → Int) (ws : List Int) (S : Nat → Int → Int) (vs ps sl : Int) : Prop := S = S0 ∧ ws = [0, vs, ps, sl]
noncomputable def rxm159_0 (S0 : Nat → Int → Int) (ws : List Int) (S : Nat → Int → Int) (vs ps sl : Int) : Nat := 100
noncomputable def rxI159_1 (S0 : Nat → Int → Int) (ws : List Int) (S : Nat → Int → Int) (vs ps sl : Int) : Prop := sl < -1 ∧ ws = [0, vs, ps, sl] ∧ bx_same rxL (bx_mdl [(11, 8), (1017, 0), (1018, 0), (1023, 0), (1037, 0)]) S0 S
noncomputable def rxm159_1 (S0 : Nat → Int → Int) (ws : List Int) (S : Nat → Int → Int) (vs ps sl : Int) : Nat := 50
noncomputable def rxI159_2 (S0 : Nat → Int → Int) (ws : List Int) (S : Nat → Int → Int) (vs ps sl res : Int) : Prop := res = (-1) ∧ sl < -1 ∧ ws = [0, vs, ps, sl] ∧ bx_same rxL (bx_mdl [(11, 8), (1017, 0), (1018, 0), (1023, 0), (1037, 0)]) S0 S
noncomputable def rxm159_2 (S0 : Nat → Int → Int) (ws : List Int) (S : Nat → Int → Int) (vs ps sl res : Int) : Nat := 20
noncomputable def rxI159_3 (S0 : Nat → Int → Int) (ws : List Int) (S : Nat → Int → Int) (vs ps sl : Int) : Prop := (-1 ≤ sl ∧ (vs < 0 ∨ S0 1 5 ≤ vs ∨ ps < 0 ∨ S0 5 0 ≤ ps)) ∧ ws = [0, vs, ps, sl] ∧ bx_same rxL (bx_mdl [(11, 8), (1017, 0), (1018, 0), (1023, 0), (1037, 0)]) S0 S
noncomputable def rxm159_3 (S0 : Nat → Int → Int) (ws : List Int) (S : Nat → Int → Int) (vs ps sl : Int) : Nat := 50
noncomputable def rxI159_4 (S0 : Nat → Int → Int) (ws : List Int) (S : Nat → Int → Int) (vs ps sl res : Int) : Prop := res = (-2) ∧ (-1 ≤ sl ∧ (vs < 0 ∨ S0 1 5 ≤ vs ∨ ps < 0 ∨ S0 5 0 ≤ ps)) ∧ ws = [0, vs, ps, sl] ∧ bx_same rxL (bx_mdl [(11, 8), (1017, 0), (1018, 0), (1023, 0), (1037, 0)]) S0 S
noncomputable def rxm159_4 (S0 : Nat → Int → Int) (ws : List Int) (S : Nat → Int → Int) (vs ps sl res : Int) : Nat := 20
noncomputable def rxI159_5 (S0 : Nat → Int → Int) (ws : List Int) (S : Nat → Int → Int) (vs ps sl : Int) : Prop := S = S0 ∧ (-1 ≤ sl ∧ 0 ≤ vs ∧ vs < S0 1 5 ∧ 0 ≤ ps ∧ ps < S0 5 0) ∧ ws = [0, vs, ps, sl]
noncomputable def rxm159_5 (S0 : Nat → Int → Int) (ws : List Int) (S : Nat → Int → Int) (vs ps sl : Int) : Nat := 90
noncomputable def rxI159_6 (S0 : Nat → Int → Int) (ws : List Int) (S : Nat → Int → Int) (vs ps sl r : Int) : Prop := ((r = 1 ∧ rkMl S0 vs ps) ∨ (r = 0 ∧ rkMln S0 vs ps)) ∧ (-1 ≤ sl ∧ 0 ≤ vs ∧ vs < S0 1 5 ∧ 0 ≤ ps ∧ ps < S0 5 0) ∧ ws = [0, vs, ps, sl] ∧ bx_same rxL (bx_mdl [(11, 8), (1017, 0), (1018, 0), (1023, 0), (1037, 0)]) S0 S
noncomputable def rxm159_6 (S0 : Nat → Int → Int) (ws : List Int) (S : Nat → Int → Int) (vs ps sl r : Int) : Nat := 80
noncomputable def rxI159_7 (S0 : Nat → Int → Int) (ws : List Int) (S : Nat → Int → Int) (vs ps sl : Int) : Prop := rkMln S0 vs ps ∧ (-1 ≤ sl ∧ 0 ≤ vs ∧ vs < S0 1 5 ∧ 0 ≤ ps ∧ ps < S0 5 0) ∧ ws = [0, vs, ps, sl] ∧ bx_same rxL (bx_mdl [(11, 8), (1017, 0), (1018, 0), (1023, 0), (1037, 0)]) S0 S
noncomputable def rxm159_7 (S0 : Nat → Int → Int) (ws : List Int) (S : Nat → Int → Int) (vs ps sl : Int) : Nat := 50
noncomputable def rxI159_8 (S0 : Nat → Int → Int) (ws : List Int) (S : Nat → Int → Int) (vs ps sl res : Int) : Prop := res = (-3) ∧ rkMln S0 vs ps ∧ (-1 ≤ sl ∧ 0 ≤ vs ∧ vs < S0 1 5 ∧ 0 ≤ ps ∧ ps < S0 5 0) ∧ ws = [0, vs, ps, sl] ∧ bx_same rxL (bx_mdl [(11, 8), (1017, 0), (1018, 0), (1023, 0), (1037, 0)]) S0 S
noncomputable def rxm159_8 (S0 : Nat → Int → Int) (ws : List Int) (S : Nat → Int → Int) (vs ps sl res : Int) : Nat := 20
noncomputable def rxI159_9 (S0 : Nat → Int → Int) (ws : List Int) (S : Nat → Int → Int) (vs ps sl : Int) : Prop := (rkMl S0 vs ps ∧ 12 ≤ S0 1 5) ∧ (-1 ≤ sl ∧ 0 ≤ vs ∧ vs < S0 1 5 ∧ 0 ≤ ps ∧ ps < S0 5 0) ∧ ws = [0, vs, ps, sl] ∧ bx_same rxL (bx_mdl [(11, 8), (1017, 0), (1018, 0), (1023, 0), (1037, 0)]) S0 S
noncomputable def rxm159_9 (S0 : Nat → Int → Int) (ws : List Int) (S : Nat → Int → Int) (vs ps sl : Int) : Nat := 50
noncomputable def rxI159_10 (S0 : Nat → Int → Int) (ws : List Int) (S : Nat → Int → Int) (vs ps sl res : Int) : Prop := res = (-5) ∧ (rkMl S0 vs ps ∧ 12 ≤ S0 1 5) ∧ (-1 ≤ sl ∧ 0 ≤ vs ∧ vs < S0 1 5 ∧ 0 ≤ ps ∧ ps < S0 5 0) ∧ ws = [0, vs, ps, sl] ∧ bx_same rxL (bx_mdl [(11, 8), (1017, 0), (1018, 0), (1023, 0), (1037, 0)]) S0 S
noncomputable def rxm159_10 (S0 : Nat → Int → Int) (ws : List Int) (S : Nat → Int → Int) (vs ps sl res : Int) : Nat := 20
noncomputable def rxI159_11 (S0 : Nat → Int → Int) (ws : List Int) (S : Nat → Int → Int) (vs ps sl pa : Int) : Prop := (rkMl S0 vs ps ∧ S0 1 5 < 12 ∧ pa = S0 9 vs) ∧ (-1 ≤ sl ∧ 0 ≤ vs ∧ vs < S0 1 5 ∧ 0 ≤ ps ∧ ps < S0 5 0) ∧ ws = [0, vs, ps, sl] ∧ bx_same rxL (bx_mdl [(11, 8), (1017, 0), (1018, 0), (1023, 0), (1037, 0)]) S0 S
noncomputable def rxm159_11 (S0 : Nat → Int → Int) (ws : List Int) (S : Nat → Int → Int) (vs ps sl pa : Int) : Nat := 50
noncomputable def rxP159 (S0 : Nat → Int → Int) (ws : List Int) : Prop := rkDp S0 ∧ ∀ i : Int, 0 ≤ i → i < S0 1 5 → S0 10 i < S0 5 0
noncomputable def rxPS159 (S0 : Nat → Int → Int) (ws : List Int) (S : Nat → Int → Int) (w : Option Int) : Prop := ∃ vs ps sl : Int, ws = [0, vs, ps, sl] ∧ ((sl < -1 ∧ w = some (-1) ∧ bx_same rxL (bx_mdl [(11, 8), (1017, 0), (1018, 0), (1023, 0), (1037, 0)]) S0 S) ∨ ((-1 ≤ sl ∧ (vs < 0 ∨ S0 1 5 ≤ vs ∨ ps < 0 ∨ S0 5 0 ≤ ps)) ∧ w = some (-2) ∧ bx_same rxL (bx_mdl [(11, 8), (1017, 0), (1018, 0), (1023, 0), (1037, 0)]) S0 S) ∨ ((-1 ≤ sl ∧ 0 ≤ vs ∧ vs < S0 1 5 ∧ 0 ≤ ps ∧ ps < S0 5 0) ∧ rkMln S0 vs ps ∧ w = some (-3) ∧ bx_same rxL (bx_mdl [(11, 8), (1017, 0), (1018, 0), (1023, 0), (1037, 0)]) S0 S) ∨ ((-1 ≤ sl ∧ 0 ≤ vs ∧ vs < S0 1 5 ∧ 0 ≤ ps ∧ ps < S0 5 0) ∧ rkMl S0 vs ps ∧ 12 ≤ S0 1 5 ∧ w = some (-5) ∧ bx_same rxL (bx_mdl [(11, 8), (1017, 0), (1018, 0), (1023, 0), (1037, 0)]) S0 S) ∨ ((-1 ≤ sl ∧ 0 ≤ vs ∧ vs < S0 1 5 ∧ 0 ≤ ps ∧ ps < S0 5 0) ∧ rkMl S0 vs ps ∧ S0 1 5 < 12 ∧ w = some (S0 1 5) ∧ S 1 5 = S0 1 5 + 1 ∧ (∀ i : Int, 0 ≤ i → i < 12 → S 9 i = if i = S0 1 5 then S0 9 vs else S0 9 i) ∧ (∀ i : Int, 0 ≤ i → i < 12 → S 10 i = if i = S0 1 5 then ps else S0 10 i) ∧ (∀ i : Int, 0 ≤ i → i < 12 → S 11 i = if i = S0 1 5 then vs else S0 11 i) ∧ S 138 5 = S0 138 5 ∧ S 274 5 = S0 274 5 ∧ (∀ i : Int, 0 ≤ i → i < 12 → S 146 i = S0 146 i) ∧ (∀ i : Int, 0 ≤ i → i < 12 → S 282 i = S0 282 i) ∧ (∀ i : Int, 0 ≤ i → i < 12 → S 147 i = S0 147 i) ∧ (∀ i : Int, 0 ≤ i → i < 12 → S 283 i = S0 283 i) ∧ (∀ i : Int, 0 ≤ i → i < 12 → S 148 i = S0 148 i) ∧ (∀ i : Int, 0 ≤ i → i < 12 → S 284 i = S0 284 i)))
theorem rxk159_1 {S0 : Nat → Int → Int} {ws : List Int} {S : Nat → Int → Int} {vs ps sl : Int} (hP : rxP159 S0 ws) (hin : bx_same rxL (bx_mdl rxC159.2.2.1) S0 S) (I0 : bx_Inv rxL S) (hinv : rxI159_1 S0 ws S vs ps sl) (l8 : (-2147483648) ≤ vs) (u8 : vs ≤ 2147483647) (l9 : (-2147483648) ≤ ps) (u9 : ps ≤ 2147483647) (l10 : (-2147483648) ≤ sl) (u10 : sl ≤ 2147483647) : rxP110 S [0, (-1)] ∧ ∀ (S_p : Nat → Int → Int) (res : Int), (-6) ≤ res → res ≤ (-1) → rxPS110 S [0, (-1)] S_p (some res) → bx_Inv rxL S_p → bx_same rxL (bx_mdl rxC110.2.2.1) S S_p → rxI159_2 S0 ws S_p vs ps sl res ∧ rxm159_2 S0 ws S_p vs ps sl res < rxm159_1 S0 ws S vs ps sl := by
  obtain ⟨h1, hw, hf⟩ := hinv
  refine ⟨trivial, fun S_p res _ _ hq _ hsm => ⟨⟨?_, h1, hw, rx_same_sub hf (by decide) hsm⟩, by unfold rxm159_1 rxm159_2; omega⟩⟩
  obtain ⟨c, hc, hr⟩ := hq
  simp only [List.cons.injEq, and_true, true_and] at hc
  simp only [Option.some.injEq] at hr
  omega
theorem rxk159_3 {S0 : Nat → Int → Int} {ws : List Int} {S : Nat → Int → Int} {vs ps sl : Int} (hP : rxP159 S0 ws) (hin : bx_same rxL (bx_mdl rxC159.2.2.1) S0 S) (I0 : bx_Inv rxL S) (hinv : rxI159_3 S0 ws S vs ps sl) (l8 : (-2147483648) ≤ vs) (u8 : vs ≤ 2147483647) (l9 : (-2147483648) ≤ ps) (u9 : ps ≤ 2147483647) (l10 : (-1) ≤ sl) (u10 : sl ≤ 2147483647) : rxP110 S [0, (-2)] ∧ ∀ (S_p : Nat → Int → Int) (res : Int), (-6) ≤ res → res ≤ (-1) → rxPS110 S [0, (-2)] S_p (some res) → bx_Inv rxL S_p → bx_same rxL (bx_mdl rxC110.2.2.1) S S_p → rxI159_4 S0 ws S_p vs ps sl res ∧ rxm159_4 S0 ws S_p vs ps sl res < rxm159_3 S0 ws S vs ps sl := by
  obtain ⟨h1, hw, hf⟩ := hinv
  refine ⟨trivial, fun S_p res _ _ hq _ hsm => ⟨⟨?_, h1, hw, rx_same_sub hf (by decide) hsm⟩, by unfold rxm159_3 rxm159_4; omega⟩⟩
  obtain ⟨c, hc, hr⟩ := hq
  simp only [List.cons.injEq, and_true, true_and] at hc
  simp only [Option.some.injEq] at hr
  omega
theorem rxk159_5 {S0 : Nat → Int → Int} {ws : List Int} {S : Nat → Int → Int} {vs ps sl : Int} (hP : rxP159 S0 ws) (hin : bx_same rxL (bx_mdl rxC159.2.2.1) S0 S) (I0 : bx_Inv rxL S) (hinv : rxI159_5 S0 ws S vs ps sl) (l8 : 0 ≤ vs) (u8 : vs ≤ 11) (l9 : 0 ≤ ps) (u9 : ps ≤ 7) (l10 : (-1) ≤ sl) (u10 : sl ≤ 2147483647) : rxPMLD S [1, vs, ps] ∧ ∀ (S_p : Nat → Int → Int) (r : Int), 0 ≤ r → r ≤ 1 → rxPSMLD S [1, vs, ps] S_p (some r) → bx_Inv rxL S_p → bx_same rxL (bx_mdl rxCMLD.2.2.1) S S_p → rxI159_6 S0 ws S_p vs ps sl r ∧ rxm159_6 S0 ws S_p vs ps sl r < rxm159_5 S0 ws S vs ps sl := by
  obtain ⟨hS, hg, hw⟩ := hinv
  subst hS
  have hh := hP.2 vs (by omega) (by omega)
  refine ⟨⟨vs, ps, rfl, by omega, by omega, hh, hP.1⟩, fun S_p r _ _ hq _ hsm => ⟨⟨?_, hg, hw, rx_same_sub (fun _ _ _ _ _ => rfl) (by decide) hsm⟩, by unfold rxm159_5 rxm159_6; omega⟩⟩
  obtain ⟨vs2, ps2, hw3, h⟩ := hq
  have k0 : vs = vs2 := Option.some.inj (congrArg (fun l : List Int => l[1]?) hw3)
  have k1 : ps = ps2 := Option.some.inj (congrArg (fun l : List Int => l[2]?) hw3)
  subst k0
  subst k1
  exact h.imp (fun q => ⟨Option.some.inj q.1, q.2⟩) (fun q => ⟨Option.some.inj q.1, q.2⟩)
theorem rxk159_7 {S0 : Nat → Int → Int} {ws : List Int} {S : Nat → Int → Int} {vs ps sl : Int} (hP : rxP159 S0 ws) (hin : bx_same rxL (bx_mdl rxC159.2.2.1) S0 S) (I0 : bx_Inv rxL S) (hinv : rxI159_7 S0 ws S vs ps sl) (l8 : 0 ≤ vs) (u8 : vs ≤ 11) (l9 : 0 ≤ ps) (u9 : ps ≤ 7) (l10 : (-1) ≤ sl) (u10 : sl ≤ 2147483647) : rxP110 S [0, (-3)] ∧ ∀ (S_p : Nat → Int → Int) (res : Int), (-6) ≤ res → res ≤ (-1) → rxPS110 S [0, (-3)] S_p (some res) → bx_Inv rxL S_p → bx_same rxL (bx_mdl rxC110.2.2.1) S S_p → rxI159_8 S0 ws S_p vs ps sl res ∧ rxm159_8 S0 ws S_p vs ps sl res < rxm159_7 S0 ws S vs ps sl := by
  obtain ⟨h1, hg, hw, hf⟩ := hinv
  refine ⟨trivial, fun S_p res _ _ hq _ hsm => ⟨⟨?_, h1, hg, hw, rx_same_sub hf (by decide) hsm⟩, by unfold rxm159_7 rxm159_8; omega⟩⟩
  obtain ⟨c, hc, hr⟩ := hq
  simp only [List.cons.injEq, and_true, true_and] at hc
  simp only [Option.some.injEq] at hr
  omega
theorem rxk159_9 {S0 : Nat → Int → Int} {ws : List Int} {S : Nat → Int → Int} {vs ps sl : Int} (hP : rxP159 S0 ws) (hin : bx_same rxL (bx_mdl rxC159.2.2.1) S0 S) (I0 : bx_Inv rxL S) (hinv : rxI159_9 S0 ws S vs ps sl) (l8 : 0 ≤ vs) (u8 : vs ≤ 11) (l9 : 0 ≤ ps) (u9 : ps ≤ 7) (l10 : (-1) ≤ sl) (u10 : sl ≤ 2147483647) : rxP110 S [0, (-5)] ∧ ∀ (S_p : Nat → Int → Int) (res : Int), (-6) ≤ res → res ≤ (-1) → rxPS110 S [0, (-5)] S_p (some res) → bx_Inv rxL S_p → bx_same rxL (bx_mdl rxC110.2.2.1) S S_p → rxI159_10 S0 ws S_p vs ps sl res ∧ rxm159_10 S0 ws S_p vs ps sl res < rxm159_9 S0 ws S vs ps sl := by
  obtain ⟨h1, hg, hw, hf⟩ := hinv
  refine ⟨trivial, fun S_p res _ _ hq _ hsm => ⟨⟨?_, h1, hg, hw, rx_same_sub hf (by decide) hsm⟩, by unfold rxm159_9 rxm159_10; omega⟩⟩
  obtain ⟨c, hc, hr⟩ := hq
  simp only [List.cons.injEq, and_true, true_and] at hc
  simp only [Option.some.injEq] at hr
  omega
theorem rxc159_0_0 {S0 : Nat → Int → Int} {ws : List Int} {S : Nat → Int → Int} {vs ps sl : Int} (hP : rxP159 S0 ws) (hin : bx_same rxL (bx_mdl rxC159.2.2.1) S0 S) (I0 : bx_Inv rxL S) (hinv : rxI159_0 S0 ws S vs ps sl) (l8 : (-2147483648) ≤ vs) (u8 : vs ≤ 2147483647) (l9 : (-2147483648) ≤ ps) (u9 : ps ≤ 2147483647) (l10 : (-2147483648) ≤ sl) (u10 : sl ≤ (-2)) : (True) ∧ (True) ∧ rxI159_1 S0 ws S vs ps sl ∧ rxm159_1 S0 ws S vs ps sl < rxm159_0 S0 ws S vs ps sl := by
  obtain ⟨rfl, hw⟩ := hinv
  exact ⟨trivial, trivial, ⟨by omega, hw, fun _ _ _ _ _ => rfl⟩, by unfold rxm159_0 rxm159_1; omega⟩
theorem rxc159_0_1 {S0 : Nat → Int → Int} {ws : List Int} {S : Nat → Int → Int} {vs ps sl : Int} (hP : rxP159 S0 ws) (hin : bx_same rxL (bx_mdl rxC159.2.2.1) S0 S) (I0 : bx_Inv rxL S) (hinv : rxI159_0 S0 ws S vs ps sl) (l8 : (-2147483648) ≤ vs) (u8 : vs ≤ (-1)) (l9 : (-2147483648) ≤ ps) (u9 : ps ≤ 2147483647) (l10 : (-1) ≤ sl) (u10 : sl ≤ 2147483647) : (True) ∧ (True) ∧ rxI159_3 S0 ws S vs ps sl ∧ rxm159_3 S0 ws S vs ps sl < rxm159_0 S0 ws S vs ps sl := by
  obtain ⟨rfl, hw⟩ := hinv
  exact ⟨trivial, trivial, ⟨⟨by omega, by omega⟩, hw, fun _ _ _ _ _ => rfl⟩, by unfold rxm159_0 rxm159_3; omega⟩
theorem rxc159_0_2 {S0 : Nat → Int → Int} {ws : List Int} {S : Nat → Int → Int} {vs ps sl x11 : Int} (hP : rxP159 S0 ws) (hin : bx_same rxL (bx_mdl rxC159.2.2.1) S0 S) (I0 : bx_Inv rxL S) (hinv : rxI159_0 S0 ws S vs ps sl) (l8 : 0 ≤ vs) (u8 : vs ≤ 2147483647) (l9 : (-2147483648) ≤ ps) (u9 : ps ≤ 2147483647) (l10 : (-1) ≤ sl) (u10 : sl ≤ 2147483647) (l11 : 0 ≤ x11) (u11 : x11 ≤ 12) (f0 : x11 ≤ vs) (e0 : S 1 5 = x11) : (True) ∧ (True) ∧ rxI159_3 S0 ws S vs ps sl ∧ rxm159_3 S0 ws S vs ps sl < rxm159_0 S0 ws S vs ps sl := by
  obtain ⟨rfl, hw⟩ := hinv
  exact ⟨trivial, trivial, ⟨⟨by omega, by omega⟩, hw, fun _ _ _ _ _ => rfl⟩, by unfold rxm159_0 rxm159_3; omega⟩
theorem rxc159_0_3 {S0 : Nat → Int → Int} {ws : List Int} {S : Nat → Int → Int} {vs ps sl x11 : Int} (hP : rxP159 S0 ws) (hin : bx_same rxL (bx_mdl rxC159.2.2.1) S0 S) (I0 : bx_Inv rxL S) (hinv : rxI159_0 S0 ws S vs ps sl) (l8 : 0 ≤ vs) (u8 : vs ≤ 11) (l9 : (-2147483648) ≤ ps) (u9 : ps ≤ (-1)) (l10 : (-1) ≤ sl) (u10 : sl ≤ 2147483647) (l11 : 1 ≤ x11) (u11 : x11 ≤ 12) (f0 : vs < x11) (e0 : S 1 5 = x11) : (True) ∧ (True) ∧ rxI159_3 S0 ws S vs ps sl ∧ rxm159_3 S0 ws S vs ps sl < rxm159_0 S0 ws S vs ps sl := by
  obtain ⟨rfl, hw⟩ := hinv
  exact ⟨trivial, trivial, ⟨⟨by omega, by omega⟩, hw, fun _ _ _ _ _ => rfl⟩, by unfold rxm159_0 rxm159_3; omega⟩
theorem rxc159_0_4 {S0 : Nat → Int → Int} {ws : List Int} {S : Nat → Int → Int} {vs ps sl x11 x12 : Int} (hP : rxP159 S0 ws) (hin : bx_same rxL (bx_mdl rxC159.2.2.1) S0 S) (I0 : bx_Inv rxL S) (hinv : rxI159_0 S0 ws S vs ps sl) (l8 : 0 ≤ vs) (u8 : vs ≤ 11) (l9 : 0 ≤ ps) (u9 : ps ≤ 2147483647) (l10 : (-1) ≤ sl) (u10 : sl ≤ 2147483647) (l11 : 1 ≤ x11) (u11 : x11 ≤ 12) (l12 : 0 ≤ x12) (u12 : x12 ≤ 8) (f0 : x12 ≤ ps) (f1 : vs < x11) (e1 : S 1 5 = x11) (e0 : S 5 0 = x12) : (True) ∧ (True) ∧ rxI159_3 S0 ws S vs ps sl ∧ rxm159_3 S0 ws S vs ps sl < rxm159_0 S0 ws S vs ps sl := by
  obtain ⟨rfl, hw⟩ := hinv
  exact ⟨trivial, trivial, ⟨⟨by omega, by omega⟩, hw, fun _ _ _ _ _ => rfl⟩, by unfold rxm159_0 rxm159_3; omega⟩
theorem rxc159_0_5 {S0 : Nat → Int → Int} {ws : List Int} {S : Nat → Int → Int} {vs ps sl x11 x12 : Int} (hP : rxP159 S0 ws) (hin : bx_same rxL (bx_mdl rxC159.2.2.1) S0 S) (I0 : bx_Inv rxL S) (hinv : rxI159_0 S0 ws S vs ps sl) (l8 : 0 ≤ vs) (u8 : vs ≤ 11) (l9 : 0 ≤ ps) (u9 : ps ≤ 7) (l10 : (-1) ≤ sl) (u10 : sl ≤ 2147483647) (l11 : 1 ≤ x11) (u11 : x11 ≤ 12) (l12 : 1 ≤ x12) (u12 : x12 ≤ 8) (f0 : ps < x12) (f1 : vs < x11) (e1 : S 1 5 = x11) (e0 : S 5 0 = x12) : (True) ∧ (True) ∧ rxI159_5 S0 ws S vs ps sl ∧ rxm159_5 S0 ws S vs ps sl < rxm159_0 S0 ws S vs ps sl := by
  obtain ⟨rfl, hw⟩ := hinv
  exact ⟨trivial, trivial, ⟨rfl, by omega, hw⟩, by unfold rxm159_0 rxm159_5; omega⟩
theorem rxd159_2_0 {S0 : Nat → Int → Int} {ws : List Int} {S : Nat → Int → Int} {vs ps sl res : Int} (hP : rxP159 S0 ws) (hin : bx_same rxL (bx_mdl rxC159.2.2.1) S0 S) (hin2 : bx_same rxL (bx_mdl rxC159.2.2.1) S S) (I0 : bx_Inv rxL S) (I1 : bx_Inv rxL S) (hinv : rxI159_2 S0 ws S vs ps sl res) (l8 : (-2147483648) ≤ vs) (u8 : vs ≤ 2147483647) (l9 : (-2147483648) ≤ ps) (u9 : ps ≤ 2147483647) (l10 : (-2147483648) ≤ sl) (u10 : sl ≤ 2147483647) (l11 : (-6) ≤ res) (u11 : res ≤ (-1)) : (True) ∧ rxPS159 S0 ws S (some res) := by
  obtain ⟨h1, hg, hw, hf⟩ := hinv
  exact ⟨trivial, vs, ps, sl, hw, Or.inl ⟨hg, congrArg some h1, hf⟩⟩
theorem rxd159_4_0 {S0 : Nat → Int → Int} {ws : List Int} {S : Nat → Int → Int} {vs ps sl res : Int} (hP : rxP159 S0 ws) (hin : bx_same rxL (bx_mdl rxC159.2.2.1) S0 S) (hin2 : bx_same rxL (bx_mdl rxC159.2.2.1) S S) (I0 : bx_Inv rxL S) (I1 : bx_Inv rxL S) (hinv : rxI159_4 S0 ws S vs ps sl res) (l8 : (-2147483648) ≤ vs) (u8 : vs ≤ 2147483647) (l9 : (-2147483648) ≤ ps) (u9 : ps ≤ 2147483647) (l10 : (-1) ≤ sl) (u10 : sl ≤ 2147483647) (l11 : (-6) ≤ res) (u11 : res ≤ (-1)) : (True) ∧ rxPS159 S0 ws S (some res) := by
  obtain ⟨h1, hg, hw, hf⟩ := hinv
  exact ⟨trivial, vs, ps, sl, hw, Or.inr (Or.inl ⟨hg, congrArg some h1, hf⟩)⟩
theorem rxc159_6_0 {S0 : Nat → Int → Int} {ws : List Int} {S : Nat → Int → Int} {vs ps sl r : Int} (hP : rxP159 S0 ws) (hin : bx_same rxL (bx_mdl rxC159.2.2.1) S0 S) (I0 : bx_Inv rxL S) (hinv : rxI159_6 S0 ws S vs ps sl r) (l8 : 0 ≤ vs) (u8 : vs ≤ 11) (l9 : 0 ≤ ps) (u9 : ps ≤ 7) (l10 : (-1) ≤ sl) (u10 : sl ≤ 2147483647) (l11 : 0 ≤ r) (u11 : r ≤ 0) : (True) ∧ (True) ∧ rxI159_7 S0 ws S vs ps sl ∧ rxm159_7 S0 ws S vs ps sl < rxm159_6 S0 ws S vs ps sl r := by
  obtain ⟨hr, hg, hw, hf⟩ := hinv
  refine ⟨trivial, trivial, ⟨?_, hg, hw, hf⟩, by unfold rxm159_6 rxm159_7; omega⟩
  rcases hr with ⟨h, -⟩ | ⟨-, h⟩
  · exfalso
    omega
  · exact h
theorem rxc159_6_1 {S0 : Nat → Int → Int} {ws : List Int} {S : Nat → Int → Int} {vs ps sl r x12 : Int} (hP : rxP159 S0 ws) (hin : bx_same rxL (bx_mdl rxC159.2.2.1) S0 S) (I0 : bx_Inv rxL S) (hinv : rxI159_6 S0 ws S vs ps sl r) (l8 : 0 ≤ vs) (u8 : vs ≤ 11) (l9 : 0 ≤ ps) (u9 : ps ≤ 7) (l10 : (-1) ≤ sl) (u10 : sl ≤ 2147483647) (l11 : 1 ≤ r) (u11 : r ≤ 1) (l12 : 12 ≤ x12) (u12 : x12 ≤ 12) (f0 : r ≠ 0) (e0 : S 1 5 = x12) : (True) ∧ (True) ∧ rxI159_9 S0 ws S vs ps sl ∧ rxm159_9 S0 ws S vs ps sl < rxm159_6 S0 ws S vs ps sl r := by
  obtain ⟨hr, hg, hw, hf⟩ := hinv
  have e5 : S 1 5 = S0 1 5 := hf 1 5 (by decide) (by decide) (by decide +kernel)
  refine ⟨trivial, trivial, ⟨⟨?_, by omega⟩, hg, hw, hf⟩, by unfold rxm159_6 rxm159_9; omega⟩
  rcases hr with ⟨-, h⟩ | ⟨h, -⟩
  · exact h
  · exfalso
    omega
theorem rxc159_6_2 {S0 : Nat → Int → Int} {ws : List Int} {S : Nat → Int → Int} {vs ps sl r x12 x13 : Int} (hP : rxP159 S0 ws) (hin : bx_same rxL (bx_mdl rxC159.2.2.1) S0 S) (I0 : bx_Inv rxL S) (hinv : rxI159_6 S0 ws S vs ps sl r) (l8 : 0 ≤ vs) (u8 : vs ≤ 11) (l9 : 0 ≤ ps) (u9 : ps ≤ 7) (l10 : (-1) ≤ sl) (u10 : sl ≤ 2147483647) (l11 : 1 ≤ r) (u11 : r ≤ 1) (l12 : 0 ≤ x12) (u12 : x12 ≤ 11) (l13 : 0 ≤ x13) (u13 : x13 ≤ 5) (f0 : r ≠ 0) (e1 : S 1 5 = x12) (e0 : S 9 vs = x13) : ((0 ≤ vs ∧ vs ≤ 10) ∧ True) ∧ (True) ∧ rxI159_11 S0 ws S vs ps sl x13 ∧ rxm159_11 S0 ws S vs ps sl x13 < rxm159_6 S0 ws S vs ps sl r := by
  obtain ⟨hr, hg, hw, hf⟩ := hinv
  have e5 : S 1 5 = S0 1 5 := hf 1 5 (by decide) (by decide) (by decide +kernel)
  have e9 : S 9 vs = S0 9 vs := rx_sameR2 hf (p := 9) (tc := 0) (n := 12) (g := 6) rfl (by omega) (by decide +kernel) (by decide +kernel) (by omega) (by omega)
  refine ⟨⟨⟨by omega, by omega⟩, trivial⟩, trivial, ⟨⟨?_, by omega, by omega⟩, hg, hw, hf⟩, by unfold rxm159_6 rxm159_11; omega⟩
  rcases hr with ⟨-, h⟩ | ⟨h, -⟩
  · exact h
  · exfalso
    omega
theorem rxd159_8_0 {S0 : Nat → Int → Int} {ws : List Int} {S : Nat → Int → Int} {vs ps sl res : Int} (hP : rxP159 S0 ws) (hin : bx_same rxL (bx_mdl rxC159.2.2.1) S0 S) (hin2 : bx_same rxL (bx_mdl rxC159.2.2.1) S S) (I0 : bx_Inv rxL S) (I1 : bx_Inv rxL S) (hinv : rxI159_8 S0 ws S vs ps sl res) (l8 : 0 ≤ vs) (u8 : vs ≤ 11) (l9 : 0 ≤ ps) (u9 : ps ≤ 7) (l10 : (-1) ≤ sl) (u10 : sl ≤ 2147483647) (l11 : (-6) ≤ res) (u11 : res ≤ (-1)) : (True) ∧ rxPS159 S0 ws S (some res) := by
  obtain ⟨h1, hm, hg, hw, hf⟩ := hinv
  exact ⟨trivial, vs, ps, sl, hw, Or.inr (Or.inr (Or.inl ⟨hg, hm, congrArg some h1, hf⟩))⟩
theorem rxd159_10_0 {S0 : Nat → Int → Int} {ws : List Int} {S : Nat → Int → Int} {vs ps sl res : Int} (hP : rxP159 S0 ws) (hin : bx_same rxL (bx_mdl rxC159.2.2.1) S0 S) (hin2 : bx_same rxL (bx_mdl rxC159.2.2.1) S S) (I0 : bx_Inv rxL S) (I1 : bx_Inv rxL S) (hinv : rxI159_10 S0 ws S vs ps sl res) (l8 : 0 ≤ vs) (u8 : vs ≤ 11) (l9 : 0 ≤ ps) (u9 : ps ≤ 7) (l10 : (-1) ≤ sl) (u10 : sl ≤ 2147483647) (l11 : (-6) ≤ res) (u11 : res ≤ (-1)) : (True) ∧ rxPS159 S0 ws S (some res) := by
  obtain ⟨h1, ⟨hm, h12⟩, hg, hw, hf⟩ := hinv
  exact ⟨trivial, vs, ps, sl, hw, Or.inr (Or.inr (Or.inr (Or.inl ⟨hg, hm, h12, congrArg some h1, hf⟩)))⟩
noncomputable def rxI161_0 (S0 : Nat → Int → Int) (ws : List Int) (S : Nat → Int → Int) : Prop := S = S0 ∧ ws = [0]
noncomputable def rxm161_0 (S0 : Nat → Int → Int) (ws : List Int) (S : Nat → Int → Int) : Nat := 100
noncomputable def rxz161_0 : rx_Z := ([(0, 0), (0, 0), (0, 0), (0, 0), (0, 0), (0, 0), (0, 0), (0, 0)], [], [], 0, 0, 0, [(0, .inr (3, (0, 0)))], [])
noncomputable def rxI161_1 (S0 : Nat → Int → Int) (ws : List Int) (S : Nat → Int → Int) : Prop := S = S0 ∧ S0 1 5 ≤ 0 ∧ ws = [0]
noncomputable def rxm161_1 (S0 : Nat → Int → Int) (ws : List Int) (S : Nat → Int → Int) : Nat := 50
noncomputable def rxz161_1 : rx_Z := ([(0, 0), (0, 0), (0, 0), (0, 0), (0, 0), (0, 0), (0, 0), (0, 0)], [], [], 0, 0, 13, [(0, .inr (3, (0, 0)))], [.inr (0, (0, (-3))), .inr (3, (0, 0))])
noncomputable def rxI161_2 (S0 : Nat → Int → Int) (ws : List Int) (S : Nat → Int → Int) (res : Int) : Prop := res = -3 ∧ S0 1 5 ≤ 0 ∧ ws = [0] ∧ bx_same rxL (bx_mdl rxC110.2.2.1) S0 S
noncomputable def rxm161_2 (S0 : Nat → Int → Int) (ws : List Int) (S : Nat → Int → Int) (res : Int) : Nat := 20
noncomputable def rxz161_2 : rx_Z := ([(0, 0), (0, 0), (0, 0), (0, 0), (0, 0), (0, 0), (0, 0), (0, 0), ((-6), (-1))], [], [], 0, 0, 16, [(0, .inr (3, (0, 0)))], [.inr (0, (8, 0))])
noncomputable def rxo161_0_0 : bx_HO := (([(0, 0), (0, 0), (0, 0), (0, 0), (0, 0), (0, 0), (0, 0), (0, 0), (0, 0)], [], [(((0, 0), 1851192626986356798427873864310897359480125337295219445323071488000000), .inr (0, (8, 0))), (((0, 1), 5), .inr (0, (8, 0))), (((0, 0), 0), .inr (3, (0, 1)))], 0, 0, 13, [(0, .inr (3, (0, 0)))], [.inr (0, (0, (-3))), .inr (3, (0, 0))]), [], [], [(0, 0), (0, 0), (0, 0), (0, 0), (0, 0), (0, 0), (0, 0), (0, 0)], 1)
noncomputable def rxe161_0_0 : rx_End × List (Nat × Int × Int) := (([(0, 0), (0, 0), (0, 0), (0, 0), (0, 0), (0, 0), (0, 0), (0, 0), (1, 12), (0, 7)], [], [(((0, 0), 1851192626986356799029993984671224184301589730656725205983952899000000), .inr (0, (0, 0))), (((0, 0), 8), .inr (0, (0, 0))), (((0, 0), 1851192626986356797223658123920662017406565913543943011316662272000000), .inr (0, (9, 0))), (((0, 1), 7), .inr (3, (0, 10))), (((0, 0), 1851192626986356798427873864310897359480125337295219445323071491000000), .inr (0, (8, (-1)))), (((0, 1), 5), .inr (0, (8, (-1)))), (((0, 0), 1851192626986356798427873864310897359480125337295219445323071488000000), .inr (0, (8, 0))), (((0, 0), 0), .inr (3, (0, 1)))], some (.inr (0, (9, 0)))), [])
noncomputable def rxe161_2_0 : rx_End × List (Nat × Int × Int) := (([(0, 0), (0, 0), (0, 0), (0, 0), (0, 0), (0, 0), (0, 0), (0, 0), ((-6), (-1))], [], [], some (.inr (0, (8, 0)))), [])
noncomputable def rxY161 : List bx_HE := [(rxz161_0, [rxo161_0_0], [rxe161_0_0]), (rxz161_1, [], []), (rxz161_2, [], [rxe161_2_0])]
noncomputable def rxU161 (q : bx_HE) : Bool := Nat.beq (rx_zpc q.1) 13
noncomputable def rxYB161 : bx_B := (rxV, rxNP, rxDmf, bx_mdH rxC161.2.2.1)
set_option maxRecDepth 100000 in
theorem rxYc161 : bx_chkH rxYB161 rxM161 rxC161 rxY161 (rxU161, fun cut z => rx_ex2 (rxCT rxYB161 rxCnE) cut 30000 rxC161.2.2.2.1 161 z) = true := by decide +kernel
noncomputable def rxI161 (S0 : Nat → Int → Int) (ws : List Int) (i : Nat) : bx_SP := fun S r => match i with | 0 => rxI161_0 S0 ws S | 1 => rxI161_1 S0 ws S | 2 => rxI161_2 S0 ws S (r 8) | _ => False
noncomputable def rxm161 (S0 : Nat → Int → Int) (ws : List Int) (i : Nat) (S : Nat → Int → Int) (r : Nat → Int) : Nat := match i with | 0 => rxm161_0 S0 ws S | 1 => rxm161_1 S0 ws S | 2 => rxm161_2 S0 ws S (r 8) | _ => 0
noncomputable def rxP161 (S0 : Nat → Int → Int) (ws : List Int) : Prop := True
noncomputable def rxPS161 (S0 : Nat → Int → Int) (ws : List Int) (S : Nat → Int → Int) (w : Option Int) : Prop := ws = [0] ∧ ((S0 1 5 ≤ 0 ∧ w = some (-3) ∧ bx_same rxL (bx_mdl rxC110.2.2.1) S0 S) ∨ (0 < S0 1 5 ∧ w = some (S0 10 (S0 1 5 - 1)) ∧ S 1 5 = S0 1 5 - 1 ∧ S 138 5 = S0 138 5 ∧ S 274 5 = S0 274 5))
theorem rxk161_1 {S0 : Nat → Int → Int} {ws : List Int} {S : Nat → Int → Int} (hP : rxP161 S0 ws) (hin : bx_same rxL (bx_mdl rxC161.2.2.1) S0 S) (I0 : bx_Inv rxL S) (hinv : rxI161_1 S0 ws S)  : rxP110 S [0, (-3)] ∧ ∀ (S_p : Nat → Int → Int) (res : Int), (-6) ≤ res → res ≤ (-1) → rxPS110 S [0, (-3)] S_p (some res) → bx_Inv rxL S_p → bx_same rxL (bx_mdl rxC110.2.2.1) S S_p → rxI161_2 S0 ws S_p res ∧ rxm161_2 S0 ws S_p res < rxm161_1 S0 ws S := by
  obtain ⟨rfl, h1, hw⟩ := hinv
  refine ⟨trivial, fun S_p res _ _ hq _ hsm => ⟨⟨?_, h1, hw, hsm⟩, by unfold rxm161_1 rxm161_2; omega⟩⟩
  obtain ⟨c, hc, hr⟩ := hq
  simp only [List.cons.injEq, and_true, true_and] at hc
  simp only [Option.some.injEq] at hr
  omega
theorem rxs161_1 {X : (Nat → Int → Int) → Prop} {S0 : Nat → Int → Int} {ws : List Int} (hP : rxP161 S0 ws) : rx_obK X S0 rxC161.2.2.1 rxC110.2.2.1 (rxI161 S0 ws) (rxm161 S0 ws) 1 2 rxz161_1 rxz161_2 [.inr (3, (0, 0)), .inr (0, (0, (-3)))] (some 8) rxP110 rxPS110 := by
  intro S r hinv hXS I0 hin hs_ hf_
  have b_ := bx_bds_sat hs_
  have f_ := bx_fcl_ok hs_.1 hf_
  have g := rxk161_1 hP hin I0 hinv 
  have ea : List.map (bx_num r) [.inr (3, (0, 0)), .inr (0, (0, (-3)))] = [0, -3] := by
    simp only [List.map_cons, List.map_nil, bx_xv_ok hs_.1]
    rfl
  rw [ea]
  refine ⟨g.1, fun S_p w r_p hPS hX_p I1 hsm hr hw hs_p => ?_⟩
  have hw := hw _ rfl
  subst hw
  have b_p := hs_p.2.2 8 _ _ rfl
  have g2 := g.2 S_p (r_p 8) b_p.1 b_p.2 hPS I1 hsm
  show rxI161_2 S0 ws S_p (r_p 8) ∧ rxm161_2 S0 ws S_p (r_p 8) < _
  exact g2
theorem rxc161_0_0 {S0 : Nat → Int → Int} {ws : List Int} {S : Nat → Int → Int} {x8 : Int} (hP : rxP161 S0 ws) (hin : bx_same rxL (bx_mdl rxC161.2.2.1) S0 S) (I0 : bx_Inv rxL S) (hinv : rxI161_0 S0 ws S) (l8 : 0 ≤ x8) (u8 : x8 ≤ 0) (e0 : S 1 5 = x8) : (True) ∧ (True) ∧ rxI161_1 S0 ws S ∧ rxm161_1 S0 ws S < rxm161_0 S0 ws S := by
  obtain ⟨rfl, hw⟩ := hinv
  exact ⟨trivial, trivial, ⟨rfl, by omega, hw⟩, by unfold rxm161_0 rxm161_1; omega⟩
theorem rxg161_0_0 {X : (Nat → Int → Int) → Prop} {S0 : Nat → Int → Int} {ws : List Int} (hP : rxP161 S0 ws) : bx_obC rxL X S0 rxC161.2.2.1 (rxI161 S0 ws) (rxm161 S0 ws) 0 rxz161_0 rxo161_0_0 := by
  intro S S_p r r_p hinv hX hin hsm_ hseg
  obtain ⟨I0, I1, h0_, hr_, b_, f_, d_⟩ := bx_cl (evs := [(0, (0, 1), (0, 5), .inr (0, (8, 0)))]) (fvs := []) hseg (by decide +kernel) (by decide +kernel)
  have hinv : rxI161_0 S0 ws S := hinv
  obtain ⟨⟨l8, u8⟩, -⟩ := b_
  obtain ⟨e0, w_⟩ := d_
  subst w_
  have g := rxc161_0_0 hP hin I0 hinv l8 u8 e0
  refine ⟨bx_narP_ok (l := []) g.1, bx_nfP_ok h0_ (fvs := []) (by decide +kernel) g.2.1, ?_, ?_⟩
  · show rxI161_1 S0 ws S_p
    exact g.2.2.1
  · show rxm161_1 S0 ws S_p < rxm161_0 S0 ws S_p
    exact g.2.2.2
theorem rxd161_0_0 {S0 : Nat → Int → Int} {ws : List Int} {S : Nat → Int → Int} {x8 x9 : Int} (hP : rxP161 S0 ws) (hin : bx_same rxL (bx_mdl rxC161.2.2.1) S0 S) (hin2 : bx_same rxL (bx_mdl rxC161.2.2.1) S (bx_up (bx_up S 1 5 (x8 + (-1))) 0 8 0)) (I0 : bx_Inv rxL S) (I1 : bx_Inv rxL (bx_up (bx_up S 1 5 (x8 + (-1))) 0 8 0)) (hinv : rxI161_0 S0 ws S) (l8 : 1 ≤ x8) (u8 : x8 ≤ 12) (l9 : 0 ≤ x9) (u9 : x9 ≤ 7) (e3 : S 1 5 = x8) (e1 : (bx_up S 1 5 (x8 + (-1))) 10 (x8 + (-1)) = x9) : (True) ∧ rxPS161 S0 ws (bx_up (bx_up S 1 5 (x8 + (-1))) 0 8 0) (some x9) := by
  obtain ⟨rfl, hw⟩ := hinv
  have z : S 10 (S 1 5 - 1) = x9 := by
    rw [show S 1 5 - 1 = (x8 + -1) by omega]
    exact (show _ = S 10 (x8 + -1) from bx_up_ne (by omega)).symm.trans e1
  exact ⟨trivial, hw, Or.inr ⟨by omega, congrArg some z.symm, ((bx_up_ne (by omega)).trans (bx_up_at)).trans (by omega), (bx_up_ne (by omega)).trans ((bx_up_ne (by omega))), (bx_up_ne (by omega)).trans ((bx_up_ne (by omega)))⟩⟩
theorem rxf161_0_0 {X : (Nat → Int → Int) → Prop} {S0 : Nat → Int → Int} {ws : List Int} (hP : rxP161 S0 ws) : bx_obE rxL X S0 rxC161.2.2.1 (rxI161 S0 ws) (rxPS161 S0 ws) 0 rxz161_0 rxe161_0_0 := by
  intro S S_p r r_p hinv hX hin hsm_ hseg
  obtain ⟨I0, I1, h0_, hr_, b_, f_, d_⟩ := bx_cl (evs := [(1, (0, 0), (0, 8), .inr (0, (0, 0))), (0, (0, 10), (8, (-1)), .inr (0, (9, 0))), (1, (0, 1), (0, 5), .inr (0, (8, (-1)))), (0, (0, 1), (0, 5), .inr (0, (8, 0)))]) (fvs := []) hseg (by decide +kernel) (by decide +kernel)
  have hinv : rxI161_0 S0 ws S := hinv
  obtain ⟨⟨l8, u8⟩, ⟨l9, u9⟩, -⟩ := b_
  obtain ⟨T0, ⟨e1, ⟨T2, ⟨e3, w_⟩, w2⟩⟩, w0⟩ := d_
  subst w0
  subst w2
  subst w_
  have g := rxd161_0_0 hP hin hsm_ I0 I1 hinv l8 u8 l9 u9 e3 e1
  refine ⟨bx_narP_ok (l := []) g.1, ?_⟩
  show rxPS161 S0 ws (bx_up (bx_up T2 1 (5) (r_p 8 + (-1))) 0 (8) (0)) (some (bx_num r_p (.inr (0, (9, 0)))))
  rw [bx_xv_ok h0_]
  exact g.2
theorem rxd161_2_0 {S0 : Nat → Int → Int} {ws : List Int} {S : Nat → Int → Int} {res : Int} (hP : rxP161 S0 ws) (hin : bx_same rxL (bx_mdl rxC161.2.2.1) S0 S) (hin2 : bx_same rxL (bx_mdl rxC161.2.2.1) S S) (I0 : bx_Inv rxL S) (I1 : bx_Inv rxL S) (hinv : rxI161_2 S0 ws S res) (l8 : (-6) ≤ res) (u8 : res ≤ (-1)) : (True) ∧ rxPS161 S0 ws S (some res) := by
  obtain ⟨h1, h2, hw, hs⟩ := hinv
  exact ⟨trivial, hw, Or.inl ⟨h2, congrArg some h1, hs⟩⟩
theorem rxf161_2_0 {X : (Nat → Int → Int) → Prop} {S0 : Nat → Int → Int} {ws : List Int} (hP : rxP161 S0 ws) : bx_obE rxL X S0 rxC161.2.2.1 (rxI161 S0 ws) (rxPS161 S0 ws) 2 rxz161_2 rxe161_2_0 := by
  intro S S_p r r_p hinv hX hin hsm_ hseg
  obtain ⟨I0, I1, h0_, hr_, b_, f_, d_⟩ := bx_cl (evs := []) (fvs := []) hseg (by decide +kernel) (by decide +kernel)
  have hinv : rxI161_2 S0 ws S (r 8) := hinv
  rw [← hr_ 8 (by decide)] at hinv
  obtain ⟨⟨l8, u8⟩, -⟩ := b_
  have w_ := d_
  subst w_
  have g := rxd161_2_0 hP hin hsm_ I0 I1 hinv l8 u8
  refine ⟨bx_narP_ok (l := []) g.1, ?_⟩
  show rxPS161 S0 ws S_p (some (bx_num r_p (.inr (0, (8, 0)))))
  rw [bx_xv_ok h0_]
  exact g.2
theorem rxgC161 {X : (Nat → Int → Int) → Prop} {S0 : Nat → Int → Int} {ws : List Int} (hP : rxP161 S0 ws) : bx_allI (fun i q => rxU161 q = true ∨ bx_allP (fun o => bx_obC rxL X S0 rxC161.2.2.1 (rxI161 S0 ws) (rxm161 S0 ws) i q.1 o) q.2.1) 0 rxY161 := ⟨Or.inr ⟨rxg161_0_0 hP, trivial⟩, Or.inl rfl, Or.inr trivial, trivial⟩
theorem rxgE161 {X : (Nat → Int → Int) → Prop} {S0 : Nat → Int → Int} {ws : List Int} (hP : rxP161 S0 ws) : bx_allI (fun i q => rxU161 q = true ∨ bx_allP (fun E => bx_obE rxL X S0 rxC161.2.2.1 (rxI161 S0 ws) (rxPS161 S0 ws) i q.1 E) q.2.2) 0 rxY161 := ⟨Or.inr ⟨rxf161_0_0 hP, trivial⟩, Or.inl rfl, Or.inr ⟨rxf161_2_0 hP, trivial⟩, trivial⟩
theorem rxu161 {PX : State → Prop} {Dg : va_G} {A : Nat → Prop} {ad xa : Nat → Nat} {l : Launch} {X : (Nat → Int → Int) → Prop} (hPX : rx_PXOK rxNW A PX) (hX : ∀ S S1 : Nat → Int → Int, X S → bx_same rxL (bx_mdl rxC161.2.2.1) S S1 → X S1) (hQ110 : bx_ConP rxG rxNW rxAO PX Dg rxL X vwCl A ad l rxM110 rxC110 rxP110 rxPS110) {S0 : Nat → Int → Int} {ws : List Int} (hP : rxP161 S0 ws) : ∀ (i : Nat) (q : bx_HE), rxY161[i]? = some q → rxU161 q = true → ∀ {p : Program} {e : Env} {R : Room} {s : State} {m : MethodId} {args : Array Value} {below : List Frame} {meth : Method} {c : Code} {Q : State → Prop} {H0 : Heap}, rx_Fr rxG rxNW rxAO PX p s m args meth c rxM161 → (∀ q, H0.size ≤ q → A q) → H0 = s.heap → rxM161.2.2.2.2.2.2.1 ≤ R.cells → rxM161.2.2.2.2.2.2.2 ≤ R.slots → rxC161.2.2.2.1 ≤ R.frames → rxC161.2.2.2.1 * 40 ≤ R.locals → bx_Step p l e R s m args below meth c Q Dg rxL X vwCl A xa H0 ad rxM161 rxY161 (rxI161 S0 ws) (rxm161 S0 ws) S0 rxC161.2.2.1 i q := by
  intro i q hq hus p e R s m args below meth c Q H0 hF hA hH0 hmc hms hd hdl
  match i, hq with
  | 0, hq =>
    cases hq
    exact absurd (show false = true from hus) Bool.false_ne_true
  | 1, hq =>
    cases hq
    exact rx_stepC (ins := .invokevirtual 110) (len := 3) (i_p := 2) (M_p := rxM110) (d := rxC161.2.2.2.1) (as := [.inr (3, (0, 0)), .inr (0, (0, (-3)))]) (t := []) (ct := rxC110) hPX hF rfl hA hH0 hmc hms hd hdl (by decide +kernel) rfl rfl (by decide +kernel) (by decide +kernel) hQ110 (by decide +kernel) rfl (Or.inr ⟨_, _, _, 1, rfl, rfl, by omega, rfl, rfl, rfl⟩) (rxs161_1 hP)
  | 2, hq =>
    cases hq
    exact absurd (show false = true from hus) Bool.false_ne_true
  | n + 3, hq => cases hq
theorem rxQ161 {PX : State → Prop} {Dg : va_G} {A : Nat → Prop} {ad xa : Nat → Nat} {l : Launch} {X : (Nat → Int → Int) → Prop} (hPX : rx_PXOK rxNW A PX) (hsl : ∀ s : State, PX s → ∀ o idx n : Nat, rxSl o idx = some n → ∃ tx : String, vk_R (rxNm o) idx tx (ad n) s)
    (hX : ∀ S S_p : Nat → Int → Int, X S → bx_same rxL (bx_mdl rxC161.2.2.1) S S_p → X S_p)
    (ih : ∀ (j2 : Nat) (ct2 : bx_Ct) (M2 : rx_Mt), ct2 ∈ rxCnE j2 → ct2.2.2.2.1 + 1 ≤ rxC161.2.2.2.1 → rxT.2.2.2.2.2 j2 = some M2 → bx_Con rxG rxNW rxAO PX Dg rxL X vwCl A ad l M2 ct2) (hQ110 : bx_ConP rxG rxNW rxAO PX Dg rxL X vwCl A ad l rxM110 rxC110 rxP110 rxPS110) : bx_ConP rxG rxNW rxAO PX Dg rxL X vwCl A ad l rxM161 rxC161 rxP161 rxPS161 :=
  rxQof (xa := xa) (Cn := rxCnE) (f := 30000) (j := 161) (tab := rxY161) (us := rxU161) hPX hsl hX ih rfl rxYc161 rxI161 rxm161
    (fun S0 ws r I0 I ht0 ht as he he1 hX0 hI0 hP hs ha => by
      have e := he.symm.trans (show bx_ent0 rxNP rxC161.1 bx_I0 [] = some ([(0, 0), (0, 0), (0, 0), (0, 0), (0, 0), (0, 0), (0, 0), (0, 0)], [], [.inr (3, (0, 0))]) from rfl)
      cases e
      subst ha
      have h0 : r 0 = 0 := hs.1
      show rxI161_0 S0 _ S0
      refine ⟨rfl, ?_⟩
      simp only [List.map_cons, List.map_nil, bx_xv_ok h0]
      rfl)
    (fun S0 ws hP => rxu161 (xa := xa) hPX hX hQ110 hP) (fun S0 ws hP => rxgC161 hP) (fun S0 ws hP => rxgE161 hP)
