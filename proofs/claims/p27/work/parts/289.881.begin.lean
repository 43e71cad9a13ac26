noncomputable def rxI253_0 (S0 : Nat → Int → Int) (ws : List Int) (S : Nat → Int → Int) (pa ps : Int) : Prop := S = S0 ∧ ws = [0, pa, ps]
noncomputable def rxm253_0 (S0 : Nat → Int → Int) (ws : List Int) (S : Nat → Int → Int) (pa ps : Int) : Nat := 100
noncomputable def rxI253_1 (S0 : Nat → Int → Int) (ws : List Int) (S : Nat → Int → Int) (pa ps : Int) : Prop := (pa < 0 ∨ S0 1 0 ≤ pa ∨ ps < 0 ∨ S0 5 0 ≤ ps) ∧ ws = [0, pa, ps] ∧ bx_same rxL (bx_mdl [(11, 8), (1017, 0), (1018, 0), (1023, 0), (1037, 0)]) S0 S
noncomputable def rxm253_1 (S0 : Nat → Int → Int) (ws : List Int) (S : Nat → Int → Int) (pa ps : Int) : Nat := 50
noncomputable def rxI253_2 (S0 : Nat → Int → Int) (ws : List Int) (S : Nat → Int → Int) (pa ps res : Int) : Prop := res = (-2) ∧ (pa < 0 ∨ S0 1 0 ≤ pa ∨ ps < 0 ∨ S0 5 0 ≤ ps) ∧ ws = [0, pa, ps] ∧ bx_same rxL (bx_mdl [(11, 8), (1017, 0), (1018, 0), (1023, 0), (1037, 0)]) S0 S
noncomputable def rxm253_2 (S0 : Nat → Int → Int) (ws : List Int) (S : Nat → Int → Int) (pa ps res : Int) : Nat := 20
noncomputable def rxI253_3 (S0 : Nat → Int → Int) (ws : List Int) (S : Nat → Int → Int) (pa ps : Int) : Prop := S = S0 ∧ (0 ≤ pa ∧ pa < S0 1 0 ∧ 0 ≤ ps ∧ ps < S0 5 0) ∧ ws = [0, pa, ps]
noncomputable def rxm253_3 (S0 : Nat → Int → Int) (ws : List Int) (S : Nat → Int → Int) (pa ps : Int) : Nat := 90
noncomputable def rxI253_4 (S0 : Nat → Int → Int) (ws : List Int) (S : Nat → Int → Int) (pa ps r : Int) : Prop := ((r = 1 ∧ rkMb S0 pa ps) ∨ (r = 0 ∧ rkMbn S0 pa ps)) ∧ (0 ≤ pa ∧ pa < S0 1 0 ∧ 0 ≤ ps ∧ ps < S0 5 0) ∧ ws = [0, pa, ps] ∧ bx_same rxL (bx_mdl [(11, 8), (1017, 0), (1018, 0), (1023, 0), (1037, 0)]) S0 S
noncomputable def rxm253_4 (S0 : Nat → Int → Int) (ws : List Int) (S : Nat → Int → Int) (pa ps r : Int) : Nat := 80
noncomputable def rxI253_5 (S0 : Nat → Int → Int) (ws : List Int) (S : Nat → Int → Int) (pa ps : Int) : Prop := rkMbn S0 pa ps ∧ (0 ≤ pa ∧ pa < S0 1 0 ∧ 0 ≤ ps ∧ ps < S0 5 0) ∧ ws = [0, pa, ps] ∧ bx_same rxL (bx_mdl [(11, 8), (1017, 0), (1018, 0), (1023, 0), (1037, 0)]) S0 S
noncomputable def rxm253_5 (S0 : Nat → Int → Int) (ws : List Int) (S : Nat → Int → Int) (pa ps : Int) : Nat := 50
noncomputable def rxI253_6 (S0 : Nat → Int → Int) (ws : List Int) (S : Nat → Int → Int) (pa ps res : Int) : Prop := res = (-3) ∧ rkMbn S0 pa ps ∧ (0 ≤ pa ∧ pa < S0 1 0 ∧ 0 ≤ ps ∧ ps < S0 5 0) ∧ ws = [0, pa, ps] ∧ bx_same rxL (bx_mdl [(11, 8), (1017, 0), (1018, 0), (1023, 0), (1037, 0)]) S0 S
noncomputable def rxm253_6 (S0 : Nat → Int → Int) (ws : List Int) (S : Nat → Int → Int) (pa ps res : Int) : Nat := 20
noncomputable def rxI253_7 (S0 : Nat → Int → Int) (ws : List Int) (S : Nat → Int → Int) (pa ps : Int) : Prop := (rkMb S0 pa ps ∧ 12 ≤ S0 1 5) ∧ (0 ≤ pa ∧ pa < S0 1 0 ∧ 0 ≤ ps ∧ ps < S0 5 0) ∧ ws = [0, pa, ps] ∧ bx_same rxL (bx_mdl [(11, 8), (1017, 0), (1018, 0), (1023, 0), (1037, 0)]) S0 S
noncomputable def rxm253_7 (S0 : Nat → Int → Int) (ws : List Int) (S : Nat → Int → Int) (pa ps : Int) : Nat := 50
noncomputable def rxI253_8 (S0 : Nat → Int → Int) (ws : List Int) (S : Nat → Int → Int) (pa ps res : Int) : Prop := res = (-5) ∧ (rkMb S0 pa ps ∧ 12 ≤ S0 1 5) ∧ (0 ≤ pa ∧ pa < S0 1 0 ∧ 0 ≤ ps ∧ ps < S0 5 0) ∧ ws = [0, pa, ps] ∧ bx_same rxL (bx_mdl [(11, 8), (1017, 0), (1018, 0), (1023, 0), (1037, 0)]) S0 S
noncomputable def rxm253_8 (S0 : Nat → Int → Int) (ws : List Int) (S : Nat → Int → Int) (pa ps res : Int) : Nat := 20
noncomputable def rxI253_9 (S0 : Nat → Int → Int) (ws : List Int) (S : Nat → Int → Int) (pa ps : Int) : Prop := (rkMb S0 pa ps ∧ S0 1 5 < 12) ∧ (0 ≤ pa ∧ pa < S0 1 0 ∧ 0 ≤ ps ∧ ps < S0 5 0) ∧ ws = [0, pa, ps] ∧ bx_same rxL (bx_mdl [(11, 8), (1017, 0), (1018, 0), (1023, 0), (1037, 0)]) S0 S
noncomputable def rxm253_9 (S0 : Nat → Int → Int) (ws : List Int) (S : Nat → Int → Int) (pa ps : Int) : Nat := 50
noncomputable def rxP253 (S0 : Nat → Int → Int) (ws : List Int) : Prop := rkDp S0
noncomputable def rxPS253 (S0 : Nat → Int → Int) (ws : List Int) (S : Nat → Int → Int) (w : Option Int) : Prop := ∃ pa ps : Int, ws = [0, pa, ps] ∧ (((pa < 0 ∨ S0 1 0 ≤ pa ∨ ps < 0 ∨ S0 5 0 ≤ ps) ∧ w = some (-2) ∧ bx_same rxL (bx_mdl [(11, 8), (1017, 0), (1018, 0), (1023, 0), (1037, 0)]) S0 S) ∨ ((0 ≤ pa ∧ pa < S0 1 0 ∧ 0 ≤ ps ∧ ps < S0 5 0) ∧ rkMbn S0 pa ps ∧ w = some (-3) ∧ bx_same rxL (bx_mdl [(11, 8), (1017, 0), (1018, 0), (1023, 0), (1037, 0)]) S0 S) ∨ ((0 ≤ pa ∧ pa < S0 1 0 ∧ 0 ≤ ps ∧ ps < S0 5 0) ∧ rkMb S0 pa ps ∧ 12 ≤ S0 1 5 ∧ w = some (-5) ∧ bx_same rxL (bx_mdl [(11, 8), (1017, 0), (1018, 0), (1023, 0), (1037, 0)]) S0 S) ∨ ((0 ≤ pa ∧ pa < S0 1 0 ∧ 0 ≤ ps ∧ ps < S0 5 0) ∧ rkMb S0 pa ps ∧ S0 1 5 < 12 ∧ w = some (S0 1 5) ∧ S 1 5 = S0 1 5 + 1 ∧ (∀ i : Int, 0 ≤ i → i < 12 → S 9 i = if i = S0 1 5 then pa else S0 9 i) ∧ (∀ i : Int, 0 ≤ i → i < 12 → S 10 i = if i = S0 1 5 then ps else S0 10 i) ∧ (∀ i : Int, 0 ≤ i → i < 12 → S 11 i = if i = S0 1 5 then (-1) else S0 11 i) ∧ S 138 5 = S0 138 5 ∧ S 274 5 = S0 274 5 ∧ (∀ i : Int, 0 ≤ i → i < 12 → S 146 i = S0 146 i) ∧ (∀ i : Int, 0 ≤ i → i < 12 → S 282 i = S0 282 i) ∧ (∀ i : Int, 0 ≤ i → i < 12 → S 147 i = S0 147 i) ∧ (∀ i : Int, 0 ≤ i → i < 12 → S 283 i = S0 283 i) ∧ (∀ i : Int, 0 ≤ i → i < 12 → S 148 i = S0 148 i) ∧ (∀ i : Int, 0 ≤ i → i < 12 → S 284 i = S0 284 i)))
theorem rxk253_1 {S0 : Nat → Int → Int} {ws : List Int} {S : Nat → Int → Int} {pa ps : Int} (hP : rxP253 S0 ws) (hin : bx_same rxL (bx_mdl rxC253.2.2.1) S0 S) (I0 : bx_Inv rxL S) (hinv : rxI253_1 S0 ws S pa ps) (l8 : (-2147483648) ≤ pa) (u8 : pa ≤ 2147483647) (l9 : (-2147483648) ≤ ps) (u9 : ps ≤ 2147483647) : rxP110 S [0, (-2)] ∧ ∀ (S_p : Nat → Int → Int) (res : Int), (-6) ≤ res → res ≤ (-1) → rxPS110 S [0, (-2)] S_p (some res) → bx_Inv rxL S_p → bx_same rxL (bx_mdl rxC110.2.2.1) S S_p → rxI253_2 S0 ws S_p pa ps res ∧ rxm253_2 S0 ws S_p pa ps res < rxm253_1 S0 ws S pa ps := by
  obtain ⟨h1, hw, hf⟩ := hinv
  refine ⟨trivial, fun S_p res _ _ hq _ hsm => ⟨⟨?_, h1, hw, rx_same_sub hf (by decide) hsm⟩, by unfold rxm253_1 rxm253_2; omega⟩⟩
  obtain ⟨c, hc, hr⟩ := hq
  simp only [List.cons.injEq, and_true, true_and] at hc
  simp only [Option.some.injEq] at hr
  omega
theorem rxk253_3 {S0 : Nat → Int → Int} {ws : List Int} {S : Nat → Int → Int} {pa ps : Int} (hP : rxP253 S0 ws) (hin : bx_same rxL (bx_mdl rxC253.2.2.1) S0 S) (I0 : bx_Inv rxL S) (hinv : rxI253_3 S0 ws S pa ps) (l8 : 0 ≤ pa) (u8 : pa ≤ 5) (l9 : 0 ≤ ps) (u9 : ps ≤ 7) : rxPMBD S [1, pa, ps] ∧ ∀ (S_p : Nat → Int → Int) (r : Int), 0 ≤ r → r ≤ 1 → rxPSMBD S [1, pa, ps] S_p (some r) → bx_Inv rxL S_p → bx_same rxL (bx_mdl rxCMBD.2.2.1) S S_p → rxI253_4 S0 ws S_p pa ps r ∧ rxm253_4 S0 ws S_p pa ps r < rxm253_3 S0 ws S pa ps := by
  obtain ⟨hS, hg, hw⟩ := hinv
  subst hS
  refine ⟨⟨pa, ps, rfl, by omega, hP⟩, fun S_p r _ _ hq _ hsm => ⟨⟨?_, hg, hw, rx_same_sub (fun _ _ _ _ _ => rfl) (by decide) hsm⟩, by unfold rxm253_3 rxm253_4; omega⟩⟩
  obtain ⟨pa2, ps2, hw3, h⟩ := hq
  have k0 : pa = pa2 := Option.some.inj (congrArg (fun l : List Int => l[1]?) hw3)
  have k1 : ps = ps2 := Option.some.inj (congrArg (fun l : List Int => l[2]?) hw3)
  subst k0
  subst k1
  exact h.imp (fun q => ⟨Option.some.inj q.1, q.2⟩) (fun q => ⟨Option.some.inj q.1, q.2⟩)
theorem rxk253_5 {S0 : Nat → Int → Int} {ws : List Int} {S : Nat → Int → Int} {pa ps : Int} (hP : rxP253 S0 ws) (hin : bx_same rxL (bx_mdl rxC253.2.2.1) S0 S) (I0 : bx_Inv rxL S) (hinv : rxI253_5 S0 ws S pa ps) (l8 : 0 ≤ pa) (u8 : pa ≤ 5) (l9 : 0 ≤ ps) (u9 : ps ≤ 7) : rxP110 S [0, (-3)] ∧ ∀ (S_p : Nat → Int → Int) (res : Int), (-6) ≤ res → res ≤ (-1) → rxPS110 S [0, (-3)] S_p (some res) → bx_Inv rxL S_p → bx_same rxL (bx_mdl rxC110.2.2.1) S S_p → rxI253_6 S0 ws S_p pa ps res ∧ rxm253_6 S0 ws S_p pa ps res < rxm253_5 S0 ws S pa ps := by
  obtain ⟨h1, hg, hw, hf⟩ := hinv
  refine ⟨trivial, fun S_p res _ _ hq _ hsm => ⟨⟨?_, h1, hg, hw, rx_same_sub hf (by decide) hsm⟩, by unfold rxm253_5 rxm253_6; omega⟩⟩
  obtain ⟨c, hc, hr⟩ := hq
  simp only [List.cons.injEq, and_true, true_and] at hc
  simp only [Option.some.injEq] at hr
  omega
theorem rxk253_7 {S0 : Nat → Int → Int} {ws : List Int} {S : Nat → Int → Int} {pa ps : Int} (hP : rxP253 S0 ws) (hin : bx_same rxL (bx_mdl rxC253.2.2.1) S0 S) (I0 : bx_Inv rxL S) (hinv : rxI253_7 S0 ws S pa ps) (l8 : 0 ≤ pa) (u8 : pa ≤ 5) (l9 : 0 ≤ ps) (u9 : ps ≤ 7) : rxP110 S [0, (-5)] ∧ ∀ (S_p : Nat → Int → Int) (res : Int), (-6) ≤ res → res ≤ (-1) → rxPS110 S [0, (-5)] S_p (some res) → bx_Inv rxL S_p → bx_same rxL (bx_mdl rxC110.2.2.1) S S_p → rxI253_8 S0 ws S_p pa ps res ∧ rxm253_8 S0 ws S_p pa ps res < rxm253_7 S0 ws S pa ps := by
  obtain ⟨h1, hg, hw, hf⟩ := hinv
  refine ⟨trivial, fun S_p res _ _ hq _ hsm => ⟨⟨?_, h1, hg, hw, rx_same_sub hf (by decide) hsm⟩, by unfold rxm253_7 rxm253_8; omega⟩⟩
  obtain ⟨c, hc, hr⟩ := hq
  simp only [List.cons.injEq, and_true, true_and] at hc
  simp only [Option.some.injEq] at hr
  omega
theorem rxc253_0_0 {S0 : Nat → Int → Int} {ws : List Int} {S : Nat → Int → Int} {pa ps : Int} (hP : rxP253 S0 ws) (hin : bx_same rxL (bx_mdl rxC253.2.2.1) S0 S) (I0 : bx_Inv rxL S) (hinv : rxI253_0 S0 ws S pa ps) (l8 : (-2147483648) ≤ pa) (u8 : pa ≤ (-1)) (l9 : (-2147483648) ≤ ps) (u9 : ps ≤ 2147483647) : (True) ∧ (True) ∧ rxI253_1 S0 ws S pa ps ∧ rxm253_1 S0 ws S pa ps < rxm253_0 S0 ws S pa ps := by
  obtain ⟨rfl, hw⟩ := hinv
  exact ⟨trivial, trivial, ⟨by omega, hw, fun _ _ _ _ _ => rfl⟩, by unfold rxm253_0 rxm253_1; omega⟩
theorem rxc253_0_1 {S0 : Nat → Int → Int} {ws : List Int} {S : Nat → Int → Int} {pa ps x10 : Int} (hP : rxP253 S0 ws) (hin : bx_same rxL (bx_mdl rxC253.2.2.1) S0 S) (I0 : bx_Inv rxL S) (hinv : rxI253_0 S0 ws S pa ps) (l8 : 0 ≤ pa) (u8 : pa ≤ 2147483647) (l9 : (-2147483648) ≤ ps) (u9 : ps ≤ 2147483647) (l10 : 0 ≤ x10) (u10 : x10 ≤ 6) (f0 : x10 ≤ pa) (e0 : S 1 0 = x10) : (True) ∧ (True) ∧ rxI253_1 S0 ws S pa ps ∧ rxm253_1 S0 ws S pa ps < rxm253_0 S0 ws S pa ps := by
  obtain ⟨rfl, hw⟩ := hinv
  exact ⟨trivial, trivial, ⟨by omega, hw, fun _ _ _ _ _ => rfl⟩, by unfold rxm253_0 rxm253_1; omega⟩
theorem rxc253_0_2 {S0 : Nat → Int → Int} {ws : List Int} {S : Nat → Int → Int} {pa ps x10 : Int} (hP : rxP253 S0 ws) (hin : bx_same rxL (bx_mdl rxC253.2.2.1) S0 S) (I0 : bx_Inv rxL S) (hinv : rxI253_0 S0 ws S pa ps) (l8 : 0 ≤ pa) (u8 : pa ≤ 5) (l9 : (-2147483648) ≤ ps) (u9 : ps ≤ (-1)) (l10 : 1 ≤ x10) (u10 : x10 ≤ 6) (f0 : pa < x10) (e0 : S 1 0 = x10) : (True) ∧ (True) ∧ rxI253_1 S0 ws S pa ps ∧ rxm253_1 S0 ws S pa ps < rxm253_0 S0 ws S pa ps := by
  obtain ⟨rfl, hw⟩ := hinv
  exact ⟨trivial, trivial, ⟨by omega, hw, fun _ _ _ _ _ => rfl⟩, by unfold rxm253_0 rxm253_1; omega⟩
theorem rxc253_0_3 {S0 : Nat → Int → Int} {ws : List Int} {S : Nat → Int → Int} {pa ps x10 x11 : Int} (hP : rxP253 S0 ws) (hin : bx_same rxL (bx_mdl rxC253.2.2.1) S0 S) (I0 : bx_Inv rxL S) (hinv : rxI253_0 S0 ws S pa ps) (l8 : 0 ≤ pa) (u8 : pa ≤ 5) (l9 : 0 ≤ ps) (u9 : ps ≤ 2147483647) (l10 : 1 ≤ x10) (u10 : x10 ≤ 6) (l11 : 0 ≤ x11) (u11 : x11 ≤ 8) (f0 : x11 ≤ ps) (f1 : pa < x10) (e1 : S 1 0 = x10) (e0 : S 5 0 = x11) : (True) ∧ (True) ∧ rxI253_1 S0 ws S pa ps ∧ rxm253_1 S0 ws S pa ps < rxm253_0 S0 ws S pa ps := by
  obtain ⟨rfl, hw⟩ := hinv
  exact ⟨trivial, trivial, ⟨by omega, hw, fun _ _ _ _ _ => rfl⟩, by unfold rxm253_0 rxm253_1; omega⟩
theorem rxc253_0_4 {S0 : Nat → Int → Int} {ws : List Int} {S : Nat → Int → Int} {pa ps x10 x11 : Int} (hP : rxP253 S0 ws) (hin : bx_same rxL (bx_mdl rxC253.2.2.1) S0 S) (I0 : bx_Inv rxL S) (hinv : rxI253_0 S0 ws S pa ps) (l8 : 0 ≤ pa) (u8 : pa ≤ 5) (l9 : 0 ≤ ps) (u9 : ps ≤ 7) (l10 : 1 ≤ x10) (u10 : x10 ≤ 6) (l11 : 1 ≤ x11) (u11 : x11 ≤ 8) (f0 : ps < x11) (f1 : pa < x10) (e1 : S 1 0 = x10) (e0 : S 5 0 = x11) : (True) ∧ (True) ∧ rxI253_3 S0 ws S pa ps ∧ rxm253_3 S0 ws S pa ps < rxm253_0 S0 ws S pa ps := by
  obtain ⟨rfl, hw⟩ := hinv
  exact ⟨trivial, trivial, ⟨rfl, by omega, hw⟩, by unfold rxm253_0 rxm253_3; omega⟩
theorem rxd253_2_0 {S0 : Nat → Int → Int} {ws : List Int} {S : Nat → Int → Int} {pa ps res : Int} (hP : rxP253 S0 ws) (hin : bx_same rxL (bx_mdl rxC253.2.2.1) S0 S) (hin2 : bx_same rxL (bx_mdl rxC253.2.2.1) S S) (I0 : bx_Inv rxL S) (I1 : bx_Inv rxL S) (hinv : rxI253_2 S0 ws S pa ps res) (l8 : (-2147483648) ≤ pa) (u8 : pa ≤ 2147483647) (l9 : (-2147483648) ≤ ps) (u9 : ps ≤ 2147483647) (l10 : (-6) ≤ res) (u10 : res ≤ (-1)) : (True) ∧ rxPS253 S0 ws S (some res) := by
  obtain ⟨h1, hg, hw, hf⟩ := hinv
  exact ⟨trivial, pa, ps, hw, Or.inl ⟨hg, congrArg some h1, hf⟩⟩
theorem rxc253_4_0 {S0 : Nat → Int → Int} {ws : List Int} {S : Nat → Int → Int} {pa ps r : Int} (hP : rxP253 S0 ws) (hin : bx_same rxL (bx_mdl rxC253.2.2.1) S0 S) (I0 : bx_Inv rxL S) (hinv : rxI253_4 S0 ws S pa ps r) (l8 : 0 ≤ pa) (u8 : pa ≤ 5) (l9 : 0 ≤ ps) (u9 : ps ≤ 7) (l10 : 0 ≤ r) (u10 : r ≤ 0) : (True) ∧ (True) ∧ rxI253_5 S0 ws S pa ps ∧ rxm253_5 S0 ws S pa ps < rxm253_4 S0 ws S pa ps r := by
  obtain ⟨hr, hg, hw, hf⟩ := hinv
  refine ⟨trivial, trivial, ⟨?_, hg, hw, hf⟩, by unfold rxm253_4 rxm253_5; omega⟩
  rcases hr with ⟨h, -⟩ | ⟨-, h⟩
  · exfalso
    omega
  · exact h
theorem rxc253_4_1 {S0 : Nat → Int → Int} {ws : List Int} {S : Nat → Int → Int} {pa ps r x11 : Int} (hP : rxP253 S0 ws) (hin : bx_same rxL (bx_mdl rxC253.2.2.1) S0 S) (I0 : bx_Inv rxL S) (hinv : rxI253_4 S0 ws S pa ps r) (l8 : 0 ≤ pa) (u8 : pa ≤ 5) (l9 : 0 ≤ ps) (u9 : ps ≤ 7) (l10 : 1 ≤ r) (u10 : r ≤ 1) (l11 : 12 ≤ x11) (u11 : x11 ≤ 12) (f0 : r ≠ 0) (e0 : S 1 5 = x11) : (True) ∧ (True) ∧ rxI253_7 S0 ws S pa ps ∧ rxm253_7 S0 ws S pa ps < rxm253_4 S0 ws S pa ps r := by
  obtain ⟨hr, hg, hw, hf⟩ := hinv
  have e5 : S 1 5 = S0 1 5 := hf 1 5 (by decide) (by decide) (by decide +kernel)
  refine ⟨trivial, trivial, ⟨⟨?_, by omega⟩, hg, hw, hf⟩, by unfold rxm253_4 rxm253_7; omega⟩
  rcases hr with ⟨-, h⟩ | ⟨h, -⟩
  · exact h
  · exfalso
    omega
theorem rxc253_4_2 {S0 : Nat → Int → Int} {ws : List Int} {S : Nat → Int → Int} {pa ps r x11 : Int} (hP : rxP253 S0 ws) (hin : bx_same rxL (bx_mdl rxC253.2.2.1) S0 S) (I0 : bx_Inv rxL S) (hinv : rxI253_4 S0 ws S pa ps r) (l8 : 0 ≤ pa) (u8 : pa ≤ 5) (l9 : 0 ≤ ps) (u9 : ps ≤ 7) (l10 : 1 ≤ r) (u10 : r ≤ 1) (l11 : 0 ≤ x11) (u11 : x11 ≤ 11) (f0 : r ≠ 0) (e0 : S 1 5 = x11) : (True) ∧ (True) ∧ rxI253_9 S0 ws S pa ps ∧ rxm253_9 S0 ws S pa ps < rxm253_4 S0 ws S pa ps r := by
  obtain ⟨hr, hg, hw, hf⟩ := hinv
  have e5 : S 1 5 = S0 1 5 := hf 1 5 (by decide) (by decide) (by decide +kernel)
  refine ⟨trivial, trivial, ⟨⟨?_, by omega⟩, hg, hw, hf⟩, by unfold rxm253_4 rxm253_9; omega⟩
  rcases hr with ⟨-, h⟩ | ⟨h, -⟩
  · exact h
  · exfalso
    omega
theorem rxd253_6_0 {S0 : Nat → Int → Int} {ws : List Int} {S : Nat → Int → Int} {pa ps res : Int} (hP : rxP253 S0 ws) (hin : bx_same rxL (bx_mdl rxC253.2.2.1) S0 S) (hin2 : bx_same rxL (bx_mdl rxC253.2.2.1) S S) (I0 : bx_Inv rxL S) (I1 : bx_Inv rxL S) (hinv : rxI253_6 S0 ws S pa ps res) (l8 : 0 ≤ pa) (u8 : pa ≤ 5) (l9 : 0 ≤ ps) (u9 : ps ≤ 7) (l10 : (-6) ≤ res) (u10 : res ≤ (-1)) : (True) ∧ rxPS253 S0 ws S (some res) := by
  obtain ⟨h1, hm, hg, hw, hf⟩ := hinv
  exact ⟨trivial, pa, ps, hw, Or.inr (Or.inl ⟨hg, hm, congrArg some h1, hf⟩)⟩
theorem rxd253_8_0 {S0 : Nat → Int → Int} {ws : List Int} {S : Nat → Int → Int} {pa ps res : Int} (hP : rxP253 S0 ws) (hin : bx_same rxL (bx_mdl rxC253.2.2.1) S0 S) (hin2 : bx_same rxL (bx_mdl rxC253.2.2.1) S S) (I0 : bx_Inv rxL S) (I1 : bx_Inv rxL S) (hinv : rxI253_8 S0 ws S pa ps res) (l8 : 0 ≤ pa) (u8 : pa ≤ 5) (l9 : 0 ≤ ps) (u9 : ps ≤ 7) (l10 : (-6) ≤ res) (u10 : res ≤ (-1)) : (True) ∧ rxPS253 S0 ws S (some res) := by
  obtain ⟨h1, ⟨hm, h12⟩, hg, hw, hf⟩ := hinv
  exact ⟨trivial, pa, ps, hw, Or.inr (Or.inr (Or.inl ⟨hg, hm, h12, congrArg some h1, hf⟩))⟩