section
noncomputable def rxICUD_0 (S0 : Nat → Int → Int) (ws : List Int) (S : Nat → Int → Int) (c : Int) : Prop := S = S0 ∧ ws = [0, c]
noncomputable def rxmCUD_0 (S0 : Nat → Int → Int) (ws : List Int) (S : Nat → Int → Int) (c : Int) : Nat := 100
noncomputable def rxzCUD_0 : rx_Z := ([(0, 0), (0, 0), (0, 0), (0, 0), (0, 0), (0, 0), (0, 0), (0, 0), ((-2147483648), 2147483647)], [], [], 0, 0, 0, [(0, .inr (3, (0, 0))), (1, .inr (0, (8, 0)))], [])
noncomputable def rxICUD_1 (S0 : Nat → Int → Int) (ws : List Int) (S : Nat → Int → Int) (c : Int) : Prop := S = S0 ∧ ((c < 0 ∨ 5 < c)) ∧ ws = [0, c]
noncomputable def rxmCUD_1 (S0 : Nat → Int → Int) (ws : List Int) (S : Nat → Int → Int) (c : Int) : Nat := 50
noncomputable def rxzCUD_1 : rx_Z := ([(0, 0), (0, 0), (0, 0), (0, 0), (0, 0), (0, 0), (0, 0), (0, 0), ((-2147483648), 2147483647)], [], [], 0, 0, 12, [(0, .inr (3, (0, 0))), (1, .inr (0, (8, 0)))], [.inr (0, (0, (-1))), .inr (3, (0, 0))])
noncomputable def rxICUD_2 (S0 : Nat → Int → Int) (ws : List Int) (S : Nat → Int → Int) (c res : Int) : Prop := res = (-1) ∧ ((c < 0 ∨ 5 < c)) ∧ ws = [0, c] ∧ bx_same rxL (bx_mdl rxC110.2.2.1) S0 S
noncomputable def rxmCUD_2 (S0 : Nat → Int → Int) (ws : List Int) (S : Nat → Int → Int) (c res : Int) : Nat := 20
noncomputable def rxzCUD_2 : rx_Z := ([(0, 0), (0, 0), (0, 0), (0, 0), (0, 0), (0, 0), (0, 0), (0, 0), ((-2147483648), 2147483647), ((-6), (-1))], [], [], 0, 0, 15, [(0, .inr (3, (0, 0))), (1, .inr (0, (8, 0)))], [.inr (0, (9, 0))])
noncomputable def rxICUD_3 (S0 : Nat → Int → Int) (ws : List Int) (S : Nat → Int → Int) (c : Int) : Prop := S = S0 ∧ (0 ≤ c ∧ c ≤ 5 ∧ 12 ≤ S 1 10) ∧ ws = [0, c]
noncomputable def rxmCUD_3 (S0 : Nat → Int → Int) (ws : List Int) (S : Nat → Int → Int) (c : Int) : Nat := 50
noncomputable def rxzCUD_3 : rx_Z := ([(0, 0), (0, 0), (0, 0), (0, 0), (0, 0), (0, 0), (0, 0), (0, 0), (0, 5)], [], [], 0, 0, 31, [(0, .inr (3, (0, 0))), (1, .inr (0, (8, 0)))], [.inr (0, (0, (-5))), .inr (3, (0, 0))])
noncomputable def rxICUD_4 (S0 : Nat → Int → Int) (ws : List Int) (S : Nat → Int → Int) (c res : Int) : Prop := res = (-5) ∧ (0 ≤ c ∧ c ≤ 5 ∧ 12 ≤ S0 1 10) ∧ ws = [0, c] ∧ bx_same rxL (bx_mdl rxC110.2.2.1) S0 S
noncomputable def rxmCUD_4 (S0 : Nat → Int → Int) (ws : List Int) (S : Nat → Int → Int) (c res : Int) : Nat := 20
noncomputable def rxzCUD_4 : rx_Z := ([(0, 0), (0, 0), (0, 0), (0, 0), (0, 0), (0, 0), (0, 0), (0, 0), (0, 5), ((-6), (-1))], [], [], 0, 0, 34, [(0, .inr (3, (0, 0))), (1, .inr (0, (8, 0)))], [.inr (0, (9, 0))])
noncomputable def rxoCUD_0_0 : bx_HO := (([(0, 0), (0, 0), (0, 0), (0, 0), (0, 0), (0, 0), (0, 0), (0, 0), (6, 2147483647)], [], [], 0, 0, 12, [(0, .inr (3, (0, 0))), (1, .inr (0, (8, 0)))], [.inr (0, (0, (-1))), .inr (3, (0, 0))]), [], [], [(0, 0), (0, 0), (0, 0), (0, 0), (0, 0), (0, 0), (0, 0), (0, 0), (8, 0)], 1)
noncomputable def rxoCUD_0_1 : bx_HO := (([(0, 0), (0, 0), (0, 0), (0, 0), (0, 0), (0, 0), (0, 0), (0, 0), (0, 5), (12, 12)], [], [(((0, 0), 1851192626986356799431407398244775400849232659564395713092190208000000), .inr (0, (9, 0))), (((0, 1), 10), .inr (0, (9, 0))), (((0, 0), 0), .inr (3, (0, 1)))], 0, 0, 31, [(0, .inr (3, (0, 0))), (1, .inr (0, (8, 0)))], [.inr (0, (0, (-5))), .inr (3, (0, 0))]), [], [], [(0, 0), (0, 0), (0, 0), (0, 0), (0, 0), (0, 0), (0, 0), (0, 0), (8, 0)], 3)
noncomputable def rxoCUD_0_2 : bx_HO := (([(0, 0), (0, 0), (0, 0), (0, 0), (0, 0), (0, 0), (0, 0), (0, 0), ((-2147483648), (-1))], [], [], 0, 0, 12, [(0, .inr (3, (0, 0))), (1, .inr (0, (8, 0)))], [.inr (0, (0, (-1))), .inr (3, (0, 0))]), [], [], [(0, 0), (0, 0), (0, 0), (0, 0), (0, 0), (0, 0), (0, 0), (0, 0), (8, 0)], 1)
noncomputable def rxeCUD_0_0 : rx_End × List (Nat × Int × Int) := (([(0, 0), (0, 0), (0, 0), (0, 0), (0, 0), (0, 0), (0, 0), (0, 0), (0, 5), (0, 11)], [], [(((0, 0), 1851192626986356799029993984671224184301589730656725205983952899000000), .inr (0, (0, 0))), (((0, 0), 8), .inr (0, (0, 0))), (((0, 0), 1851192626986356799431407398244775400849232659564395713092190211000000), .inr (0, (9, 1))), (((0, 1), 10), .inr (0, (9, 1))), (((0, 0), 1851192626986356797424367893248739914126558548369245150786158595000000), .inr (0, (8, 0))), (((0, 1), 11), .inr (3, (0, 13))), (((0, 0), 1851192626986356799431407398244775400849232659564395713092190208000000), .inr (0, (9, 0))), (((0, 0), 0), .inr (3, (0, 1)))], some (.inr (0, (9, 1)))), [])
noncomputable def rxeCUD_2_0 : rx_End × List (Nat × Int × Int) := (([(0, 0), (0, 0), (0, 0), (0, 0), (0, 0), (0, 0), (0, 0), (0, 0), ((-2147483648), 2147483647), ((-6), (-1))], [], [], some (.inr (0, (9, 0)))), [])
noncomputable def rxeCUD_4_0 : rx_End × List (Nat × Int × Int) := (([(0, 0), (0, 0), (0, 0), (0, 0), (0, 0), (0, 0), (0, 0), (0, 0), (0, 5), ((-6), (-1))], [], [], some (.inr (0, (9, 0)))), [])
noncomputable def rxYCUD : List bx_HE := [(rxzCUD_0, [rxoCUD_0_0, rxoCUD_0_1, rxoCUD_0_2], [rxeCUD_0_0]), (rxzCUD_1, [], []), (rxzCUD_2, [], [rxeCUD_2_0]), (rxzCUD_3, [], []), (rxzCUD_4, [], [rxeCUD_4_0])]
noncomputable def rxUCUD (q : bx_HE) : Bool := Nat.beq (rx_zpc q.1) 12 || Nat.beq (rx_zpc q.1) 31
noncomputable def rxYBCUD : bx_B := (rxV, rxNP, rxDmf, bx_mdH rxC249.2.2.1)
set_option maxRecDepth 100000 in
theorem rxYcCUD : bx_chkH rxYBCUD rxM249 rxC249 rxYCUD (rxUCUD, fun cut z => rx_ex2 (rxCT rxYBCUD rxCnE) cut 30000 rxC249.2.2.2.1 249 z) = true := by decide +kernel
noncomputable def rxICUD (S0 : Nat → Int → Int) (ws : List Int) (i : Nat) : bx_SP := fun S r => match i with | 0 => rxICUD_0 S0 ws S (r 8) | 1 => rxICUD_1 S0 ws S (r 8) | 2 => rxICUD_2 S0 ws S (r 8) (r 9) | 3 => rxICUD_3 S0 ws S (r 8) | 4 => rxICUD_4 S0 ws S (r 8) (r 9) | _ => False
noncomputable def rxmCUD (S0 : Nat → Int → Int) (ws : List Int) (i : Nat) (S : Nat → Int → Int) (r : Nat → Int) : Nat := match i with | 0 => rxmCUD_0 S0 ws S (r 8) | 1 => rxmCUD_1 S0 ws S (r 8) | 2 => rxmCUD_2 S0 ws S (r 8) (r 9) | 3 => rxmCUD_3 S0 ws S (r 8) | 4 => rxmCUD_4 S0 ws S (r 8) (r 9) | _ => 0
noncomputable def rxPCUD (S0 : Nat → Int → Int) (ws : List Int) : Prop := True
noncomputable def rxPSCUD (S0 : Nat → Int → Int) (ws : List Int) (S : Nat → Int → Int) (w : Option Int) : Prop := ∃ c : Int, ws = [0, c] ∧ (((c < 0 ∨ 5 < c) ∧ w = some (-1) ∧ bx_same rxL (bx_mdl rxC110.2.2.1) S0 S) ∨ (0 ≤ c ∧ c ≤ 5 ∧ 12 ≤ S0 1 10 ∧ w = some (-5) ∧ bx_same rxL (bx_mdl rxC110.2.2.1) S0 S) ∨ (0 ≤ c ∧ c ≤ 5 ∧ S0 1 10 < 12 ∧ w = some (S0 1 10 + 1) ∧ S 1 10 = S0 1 10 + 1 ∧ (∀ i : Int, 0 ≤ i → i < 12 → S 13 i = if i = S0 1 10 then c else S0 13 i) ∧ S 138 10 = S0 138 10 ∧ S 274 10 = S0 274 10 ∧ (∀ i : Int, 0 ≤ i → i < 12 → S 150 i = S0 150 i) ∧ (∀ i : Int, 0 ≤ i → i < 12 → S 286 i = S0 286 i)))
theorem rxkCUD_1 {S0 : Nat → Int → Int} {ws : List Int} {S : Nat → Int → Int} {c : Int} (hP : rxPCUD S0 ws) (hin : bx_same rxL (bx_mdl rxC249.2.2.1) S0 S) (I0 : bx_Inv rxL S) (hinv : rxICUD_1 S0 ws S c) (l8 : (-2147483648) ≤ c) (u8 : c ≤ 2147483647) : rxP110 S [0, (-1)] ∧ ∀ (S_p : Nat → Int → Int) (res : Int), (-6) ≤ res → res ≤ (-1) → rxPS110 S [0, (-1)] S_p (some res) → bx_Inv rxL S_p → bx_same rxL (bx_mdl rxC110.2.2.1) S S_p → rxICUD_2 S0 ws S_p c res ∧ rxmCUD_2 S0 ws S_p c res < rxmCUD_1 S0 ws S c := by
  obtain ⟨rfl, h1, hw⟩ := hinv
  refine ⟨trivial, fun S_p res _ _ hq _ hsm => ⟨⟨?_, h1, hw, hsm⟩, by unfold rxmCUD_1 rxmCUD_2; omega⟩⟩
  obtain ⟨c, hc, hr⟩ := hq
  simp only [List.cons.injEq, and_true, true_and] at hc
  simp only [Option.some.injEq] at hr
  omega
theorem rxsCUD_1 {X : (Nat → Int → Int) → Prop} {S0 : Nat → Int → Int} {ws : List Int} (hP : rxPCUD S0 ws) : rx_obK X S0 rxC249.2.2.1 rxC110.2.2.1 (rxICUD S0 ws) (rxmCUD S0 ws) 1 2 rxzCUD_1 rxzCUD_2 [.inr (3, (0, 0)), .inr (0, (0, (-1)))] (some 9) rxP110 rxPS110 := by
  intro S r hinv hXS I0 hin hs_ hf_
  have b_ := bx_bds_sat hs_
  have f_ := bx_fcl_ok hs_.1 hf_
  obtain ⟨⟨l8, u8⟩, -⟩ := b_
  have g := rxkCUD_1 hP hin I0 hinv l8 u8
  have ea : List.map (bx_num r) [.inr (3, (0, 0)), .inr (0, (0, (-1)))] = [0, -1] := by
    simp only [List.map_cons, List.map_nil, bx_xv_ok hs_.1]
    rfl
  rw [ea]
  refine ⟨g.1, fun S_p w r_p hPS hX_p I1 hsm hr hw hs_p => ?_⟩
  have hw := hw _ rfl
  subst hw
  have b_p := hs_p.2.2 9 _ _ rfl
  have g2 := g.2 S_p (r_p 9) b_p.1 b_p.2 hPS I1 hsm
  show rxICUD_2 S0 ws S_p (r_p 8) (r_p 9) ∧ rxmCUD_2 S0 ws S_p (r_p 8) (r_p 9) < _
  rw [hr 8 (by decide)]
  exact g2
theorem rxkCUD_3 {S0 : Nat → Int → Int} {ws : List Int} {S : Nat → Int → Int} {c : Int} (hP : rxPCUD S0 ws) (hin : bx_same rxL (bx_mdl rxC249.2.2.1) S0 S) (I0 : bx_Inv rxL S) (hinv : rxICUD_3 S0 ws S c) (l8 : 0 ≤ c) (u8 : c ≤ 5) : rxP110 S [0, (-5)] ∧ ∀ (S_p : Nat → Int → Int) (res : Int), (-6) ≤ res → res ≤ (-1) → rxPS110 S [0, (-5)] S_p (some res) → bx_Inv rxL S_p → bx_same rxL (bx_mdl rxC110.2.2.1) S S_p → rxICUD_4 S0 ws S_p c res ∧ rxmCUD_4 S0 ws S_p c res < rxmCUD_3 S0 ws S c := by
  obtain ⟨rfl, h1, hw⟩ := hinv
  refine ⟨trivial, fun S_p res _ _ hq _ hsm => ⟨⟨?_, h1, hw, hsm⟩, by unfold rxmCUD_3 rxmCUD_4; omega⟩⟩
  obtain ⟨c, hc, hr⟩ := hq
  simp only [List.cons.injEq, and_true, true_and] at hc
  simp only [Option.some.injEq] at hr
  omega
theorem rxsCUD_3 {X : (Nat → Int → Int) → Prop} {S0 : Nat → Int → Int} {ws : List Int} (hP : rxPCUD S0 ws) : rx_obK X S0 rxC249.2.2.1 rxC110.2.2.1 (rxICUD S0 ws) (rxmCUD S0 ws) 3 4 rxzCUD_3 rxzCUD_4 [.inr (3, (0, 0)), .inr (0, (0, (-5)))] (some 9) rxP110 rxPS110 := by
  intro S r hinv hXS I0 hin hs_ hf_
  have b_ := bx_bds_sat hs_
  have f_ := bx_fcl_ok hs_.1 hf_
  obtain ⟨⟨l8, u8⟩, -⟩ := b_
  have g := rxkCUD_3 hP hin I0 hinv l8 u8
  have ea : List.map (bx_num r) [.inr (3, (0, 0)), .inr (0, (0, (-5)))] = [0, -5] := by
    simp only [List.map_cons, List.map_nil, bx_xv_ok hs_.1]
    rfl
  rw [ea]
  refine ⟨g.1, fun S_p w r_p hPS hX_p I1 hsm hr hw hs_p => ?_⟩
  have hw := hw _ rfl
  subst hw
  have b_p := hs_p.2.2 9 _ _ rfl
  have g2 := g.2 S_p (r_p 9) b_p.1 b_p.2 hPS I1 hsm
  show rxICUD_4 S0 ws S_p (r_p 8) (r_p 9) ∧ rxmCUD_4 S0 ws S_p (r_p 8) (r_p 9) < _
  rw [hr 8 (by decide)]
  exact g2
theorem rxcCUD_0_0 {S0 : Nat → Int → Int} {ws : List Int} {S : Nat → Int → Int} {c : Int} (hP : rxPCUD S0 ws) (hin : bx_same rxL (bx_mdl rxC249.2.2.1) S0 S) (I0 : bx_Inv rxL S) (hinv : rxICUD_0 S0 ws S c) (l8 : 6 ≤ c) (u8 : c ≤ 2147483647) : (True) ∧ (True) ∧ rxICUD_1 S0 ws S c ∧ rxmCUD_1 S0 ws S c < rxmCUD_0 S0 ws S c := by
  obtain ⟨rfl, hw⟩ := hinv
  exact ⟨trivial, trivial, ⟨rfl, by omega, hw⟩, by unfold rxmCUD_0 rxmCUD_1; omega⟩
theorem rxgCUD_0_0 {X : (Nat → Int → Int) → Prop} {S0 : Nat → Int → Int} {ws : List Int} (hP : rxPCUD S0 ws) : bx_obC rxL X S0 rxC249.2.2.1 (rxICUD S0 ws) (rxmCUD S0 ws) 0 rxzCUD_0 rxoCUD_0_0 := by
  intro S S_p r r_p hinv hX hin hsm_ hseg
  obtain ⟨I0, I1, h0_, hr_, b_, f_, d_⟩ := bx_cl (evs := []) (fvs := []) hseg (by decide +kernel) (by decide +kernel)
  have hinv : rxICUD_0 S0 ws S (r 8) := hinv
  rw [← hr_ 8 (by decide)] at hinv
  obtain ⟨⟨l8, u8⟩, -⟩ := b_
  have w_ := d_
  subst w_
  have g := rxcCUD_0_0 hP hin I0 hinv l8 u8
  refine ⟨bx_narP_ok (l := []) g.1, bx_nfP_ok h0_ (fvs := []) (by decide +kernel) g.2.1, ?_, ?_⟩
  · show rxICUD_1 S0 ws S_p (bx_val [(0, 0), (0, 0), (0, 0), (0, 0), (0, 0), (0, 0), (0, 0), (0, 0), (8, 0)] r_p 8)
    rw [bx_val_x (n := 8) (e := (8, 0)) h0_ rfl]
    exact g.2.2.1
  · show rxmCUD_1 S0 ws S_p (bx_val [(0, 0), (0, 0), (0, 0), (0, 0), (0, 0), (0, 0), (0, 0), (0, 0), (8, 0)] r_p 8) < rxmCUD_0 S0 ws S_p (r 8)
    rw [bx_val_x (n := 8) (e := (8, 0)) h0_ rfl, ← hr_ 8 (by decide)]
    exact g.2.2.2
theorem rxcCUD_0_1 {S0 : Nat → Int → Int} {ws : List Int} {S : Nat → Int → Int} {c x9 : Int} (hP : rxPCUD S0 ws) (hin : bx_same rxL (bx_mdl rxC249.2.2.1) S0 S) (I0 : bx_Inv rxL S) (hinv : rxICUD_0 S0 ws S c) (l8 : 0 ≤ c) (u8 : c ≤ 5) (l9 : 12 ≤ x9) (u9 : x9 ≤ 12) (e0 : S 1 10 = x9) : (True) ∧ (True) ∧ rxICUD_3 S0 ws S c ∧ rxmCUD_3 S0 ws S c < rxmCUD_0 S0 ws S c := by
  obtain ⟨rfl, hw⟩ := hinv
  exact ⟨trivial, trivial, ⟨rfl, by omega, hw⟩, by unfold rxmCUD_0 rxmCUD_3; omega⟩
theorem rxgCUD_0_1 {X : (Nat → Int → Int) → Prop} {S0 : Nat → Int → Int} {ws : List Int} (hP : rxPCUD S0 ws) : bx_obC rxL X S0 rxC249.2.2.1 (rxICUD S0 ws) (rxmCUD S0 ws) 0 rxzCUD_0 rxoCUD_0_1 := by
  intro S S_p r r_p hinv hX hin hsm_ hseg
  obtain ⟨I0, I1, h0_, hr_, b_, f_, d_⟩ := bx_cl (evs := [(0, (0, 1), (0, 10), .inr (0, (9, 0)))]) (fvs := []) hseg (by decide +kernel) (by decide +kernel)
  have hinv : rxICUD_0 S0 ws S (r 8) := hinv
  rw [← hr_ 8 (by decide)] at hinv
  obtain ⟨⟨l8, u8⟩, ⟨l9, u9⟩, -⟩ := b_
  obtain ⟨e0, w_⟩ := d_
  subst w_
  have g := rxcCUD_0_1 hP hin I0 hinv l8 u8 l9 u9 e0
  refine ⟨bx_narP_ok (l := []) g.1, bx_nfP_ok h0_ (fvs := []) (by decide +kernel) g.2.1, ?_, ?_⟩
  · show rxICUD_3 S0 ws S_p (bx_val [(0, 0), (0, 0), (0, 0), (0, 0), (0, 0), (0, 0), (0, 0), (0, 0), (8, 0)] r_p 8)
    rw [bx_val_x (n := 8) (e := (8, 0)) h0_ rfl]
    exact g.2.2.1
  · show rxmCUD_3 S0 ws S_p (bx_val [(0, 0), (0, 0), (0, 0), (0, 0), (0, 0), (0, 0), (0, 0), (0, 0), (8, 0)] r_p 8) < rxmCUD_0 S0 ws S_p (r 8)
    rw [bx_val_x (n := 8) (e := (8, 0)) h0_ rfl, ← hr_ 8 (by decide)]
    exact g.2.2.2
theorem rxcCUD_0_2 {S0 : Nat → Int → Int} {ws : List Int} {S : Nat → Int → Int} {c : Int} (hP : rxPCUD S0 ws) (hin : bx_same rxL (bx_mdl rxC249.2.2.1) S0 S) (I0 : bx_Inv rxL S) (hinv : rxICUD_0 S0 ws S c) (l8 : (-2147483648) ≤ c) (u8 : c ≤ (-1)) : (True) ∧ (True) ∧ rxICUD_1 S0 ws S c ∧ rxmCUD_1 S0 ws S c < rxmCUD_0 S0 ws S c := by
  obtain ⟨rfl, hw⟩ := hinv
  exact ⟨trivial, trivial, ⟨rfl, by omega, hw⟩, by unfold rxmCUD_0 rxmCUD_1; omega⟩
theorem rxgCUD_0_2 {X : (Nat → Int → Int) → Prop} {S0 : Nat → Int → Int} {ws : List Int} (hP : rxPCUD S0 ws) : bx_obC rxL X S0 rxC249.2.2.1 (rxICUD S0 ws) (rxmCUD S0 ws) 0 rxzCUD_0 rxoCUD_0_2 := by
  intro S S_p r r_p hinv hX hin hsm_ hseg
  obtain ⟨I0, I1, h0_, hr_, b_, f_, d_⟩ := bx_cl (evs := []) (fvs := []) hseg (by decide +kernel) (by decide +kernel)
  have hinv : rxICUD_0 S0 ws S (r 8) := hinv
  rw [← hr_ 8 (by decide)] at hinv
  obtain ⟨⟨l8, u8⟩, -⟩ := b_
  have w_ := d_
  subst w_
  have g := rxcCUD_0_2 hP hin I0 hinv l8 u8
  refine ⟨bx_narP_ok (l := []) g.1, bx_nfP_ok h0_ (fvs := []) (by decide +kernel) g.2.1, ?_, ?_⟩
  · show rxICUD_1 S0 ws S_p (bx_val [(0, 0), (0, 0), (0, 0), (0, 0), (0, 0), (0, 0), (0, 0), (0, 0), (8, 0)] r_p 8)
    rw [bx_val_x (n := 8) (e := (8, 0)) h0_ rfl]
    exact g.2.2.1
  · show rxmCUD_1 S0 ws S_p (bx_val [(0, 0), (0, 0), (0, 0), (0, 0), (0, 0), (0, 0), (0, 0), (0, 0), (8, 0)] r_p 8) < rxmCUD_0 S0 ws S_p (r 8)
    rw [bx_val_x (n := 8) (e := (8, 0)) h0_ rfl, ← hr_ 8 (by decide)]
    exact g.2.2.2
theorem rxdCUD_0_0 {S0 : Nat → Int → Int} {ws : List Int} {S : Nat → Int → Int} {c x9 : Int} (hP : rxPCUD S0 ws) (hin : bx_same rxL (bx_mdl rxC249.2.2.1) S0 S) (hin2 : bx_same rxL (bx_mdl rxC249.2.2.1) S (bx_up (bx_up (bx_up S 13 x9 c) 1 10 (x9 + 1)) 0 8 0)) (I0 : bx_Inv rxL S) (I1 : bx_Inv rxL (bx_up (bx_up (bx_up S 13 x9 c) 1 10 (x9 + 1)) 0 8 0)) (hinv : rxICUD_0 S0 ws S c) (l8 : 0 ≤ c) (u8 : c ≤ 5) (l9 : 0 ≤ x9) (u9 : x9 ≤ 11) (e3 : S 1 10 = x9) : (True) ∧ rxPSCUD S0 ws (bx_up (bx_up (bx_up S 13 x9 c) 1 10 (x9 + 1)) 0 8 0) (some (x9 + 1)) := by
  obtain ⟨rfl, hw⟩ := hinv
  refine ⟨trivial, c, hw, Or.inr (Or.inr (⟨?_, ?_, ?_, ?_, ((bx_up_ne (by omega)).trans (bx_up_at)).trans (by omega), ?_, (bx_up_ne (by omega)).trans ((bx_up_ne (by omega)).trans ((bx_up_ne (by omega)))), (bx_up_ne (by omega)).trans ((bx_up_ne (by omega)).trans ((bx_up_ne (by omega)))), ?_, ?_⟩))⟩ <;> first | omega | exact hin2 | exact congrArg some (by omega) | (intro i i0 i1; simp only [bx_up]; (repeat' split) <;> first | rfl | omega | (simp_all; done) | (simp_all; omega)) | ((repeat (first | rw [bx_up_at] | rw [bx_up_ne (by omega)])); omega) | exact True.intro
theorem rxfCUD_0_0 {X : (Nat → Int → Int) → Prop} {S0 : Nat → Int → Int} {ws : List Int} (hP : rxPCUD S0 ws) : bx_obE rxL X S0 rxC249.2.2.1 (rxICUD S0 ws) (rxPSCUD S0 ws) 0 rxzCUD_0 rxeCUD_0_0 := by
  intro S S_p r r_p hinv hX hin hsm_ hseg
  obtain ⟨I0, I1, h0_, hr_, b_, f_, d_⟩ := bx_cl (evs := [(1, (0, 0), (0, 8), .inr (0, (0, 0))), (1, (0, 1), (0, 10), .inr (0, (9, 1))), (1, (0, 13), (9, 0), .inr (0, (8, 0))), (0, (0, 1), (0, 10), .inr (0, (9, 0)))]) (fvs := []) hseg (by decide +kernel) (by decide +kernel)
  have hinv : rxICUD_0 S0 ws S (r 8) := hinv
  rw [← hr_ 8 (by decide)] at hinv
  obtain ⟨⟨l8, u8⟩, ⟨l9, u9⟩, -⟩ := b_
  obtain ⟨T0, ⟨T1, ⟨T2, ⟨e3, w_⟩, w2⟩, w1⟩, w0⟩ := d_
  subst w0
  subst w1
  subst w2
  subst w_
  have g := rxdCUD_0_0 hP hin hsm_ I0 I1 hinv l8 u8 l9 u9 e3
  refine ⟨bx_narP_ok (l := []) g.1, ?_⟩
  show rxPSCUD S0 ws (bx_up (bx_up (bx_up T2 13 (r_p 9) (r_p 8)) 1 (10) (r_p 9 + 1)) 0 (8) (0)) (some (bx_num r_p (.inr (0, (9, 1)))))
  rw [bx_xv_ok h0_]
  exact g.2
theorem rxdCUD_2_0 {S0 : Nat → Int → Int} {ws : List Int} {S : Nat → Int → Int} {c res : Int} (hP : rxPCUD S0 ws) (hin : bx_same rxL (bx_mdl rxC249.2.2.1) S0 S) (hin2 : bx_same rxL (bx_mdl rxC249.2.2.1) S S) (I0 : bx_Inv rxL S) (I1 : bx_Inv rxL S) (hinv : rxICUD_2 S0 ws S c res) (l8 : (-2147483648) ≤ c) (u8 : c ≤ 2147483647) (l9 : (-6) ≤ res) (u9 : res ≤ (-1)) : (True) ∧ rxPSCUD S0 ws S (some res) := by
  obtain ⟨h1, h2, hw, hs⟩ := hinv
  refine ⟨trivial, c, hw, Or.inl (⟨by omega, ?_, ?_⟩)⟩
  · exact congrArg some h1
  · exact hs
theorem rxfCUD_2_0 {X : (Nat → Int → Int) → Prop} {S0 : Nat → Int → Int} {ws : List Int} (hP : rxPCUD S0 ws) : bx_obE rxL X S0 rxC249.2.2.1 (rxICUD S0 ws) (rxPSCUD S0 ws) 2 rxzCUD_2 rxeCUD_2_0 := by
  intro S S_p r r_p hinv hX hin hsm_ hseg
  obtain ⟨I0, I1, h0_, hr_, b_, f_, d_⟩ := bx_cl (evs := []) (fvs := []) hseg (by decide +kernel) (by decide +kernel)
  have hinv : rxICUD_2 S0 ws S (r 8) (r 9) := hinv
  rw [← hr_ 8 (by decide), ← hr_ 9 (by decide)] at hinv
  obtain ⟨⟨l8, u8⟩, ⟨l9, u9⟩, -⟩ := b_
  have w_ := d_
  subst w_
  have g := rxdCUD_2_0 hP hin hsm_ I0 I1 hinv l8 u8 l9 u9
  refine ⟨bx_narP_ok (l := []) g.1, ?_⟩
  show rxPSCUD S0 ws S_p (some (bx_num r_p (.inr (0, (9, 0)))))
  rw [bx_xv_ok h0_]
  exact g.2
theorem rxdCUD_4_0 {S0 : Nat → Int → Int} {ws : List Int} {S : Nat → Int → Int} {c res : Int} (hP : rxPCUD S0 ws) (hin : bx_same rxL (bx_mdl rxC249.2.2.1) S0 S) (hin2 : bx_same rxL (bx_mdl rxC249.2.2.1) S S) (I0 : bx_Inv rxL S) (I1 : bx_Inv rxL S) (hinv : rxICUD_4 S0 ws S c res) (l8 : 0 ≤ c) (u8 : c ≤ 5) (l9 : (-6) ≤ res) (u9 : res ≤ (-1)) : (True) ∧ rxPSCUD S0 ws S (some res) := by
  obtain ⟨h1, h2, hw, hs⟩ := hinv
  refine ⟨trivial, c, hw, Or.inr (Or.inl (⟨by omega, by omega, by omega, ?_, ?_⟩))⟩
  · exact congrArg some h1
  · exact hs
theorem rxfCUD_4_0 {X : (Nat → Int → Int) → Prop} {S0 : Nat → Int → Int} {ws : List Int} (hP : rxPCUD S0 ws) : bx_obE rxL X S0 rxC249.2.2.1 (rxICUD S0 ws) (rxPSCUD S0 ws) 4 rxzCUD_4 rxeCUD_4_0 := by
  intro S S_p r r_p hinv hX hin hsm_ hseg
  obtain ⟨I0, I1, h0_, hr_, b_, f_, d_⟩ := bx_cl (evs := []) (fvs := []) hseg (by decide +kernel) (by decide +kernel)
  have hinv : rxICUD_4 S0 ws S (r 8) (r 9) := hinv
  rw [← hr_ 8 (by decide), ← hr_ 9 (by decide)] at hinv
  obtain ⟨⟨l8, u8⟩, ⟨l9, u9⟩, -⟩ := b_
  have w_ := d_
  subst w_
  have g := rxdCUD_4_0 hP hin hsm_ I0 I1 hinv l8 u8 l9 u9
  refine ⟨bx_narP_ok (l := []) g.1, ?_⟩
  show rxPSCUD S0 ws S_p (some (bx_num r_p (.inr (0, (9, 0)))))
  rw [bx_xv_ok h0_]
  exact g.2
theorem rxgCCUD {X : (Nat → Int → Int) → Prop} {S0 : Nat → Int → Int} {ws : List Int} (hP : rxPCUD S0 ws) : bx_allI (fun i q => rxUCUD q = true ∨ bx_allP (fun o => bx_obC rxL X S0 rxC249.2.2.1 (rxICUD S0 ws) (rxmCUD S0 ws) i q.1 o) q.2.1) 0 rxYCUD := ⟨Or.inr ⟨rxgCUD_0_0 hP, rxgCUD_0_1 hP, rxgCUD_0_2 hP, trivial⟩, Or.inl rfl, Or.inr trivial, Or.inl rfl, Or.inr trivial, trivial⟩
theorem rxgECUD {X : (Nat → Int → Int) → Prop} {S0 : Nat → Int → Int} {ws : List Int} (hP : rxPCUD S0 ws) : bx_allI (fun i q => rxUCUD q = true ∨ bx_allP (fun E => bx_obE rxL X S0 rxC249.2.2.1 (rxICUD S0 ws) (rxPSCUD S0 ws) i q.1 E) q.2.2) 0 rxYCUD := ⟨Or.inr ⟨rxfCUD_0_0 hP, trivial⟩, Or.inl rfl, Or.inr ⟨rxfCUD_2_0 hP, trivial⟩, Or.inl rfl, Or.inr ⟨rxfCUD_4_0 hP, trivial⟩, trivial⟩
theorem rxuCUD {PX : State → Prop} {Dg : va_G} {A : Nat → Prop} {ad xa : Nat → Nat} {l : Launch} {X : (Nat → Int → Int) → Prop} (hPX : rx_PXOK rxNW A PX) (hX : ∀ S S1 : Nat → Int → Int, X S → bx_same rxL (bx_mdl rxC249.2.2.1) S S1 → X S1) (hQ110 : bx_ConP rxG rxNW rxAO PX Dg rxL X vwCl A ad l rxM110 rxC110 rxP110 rxPS110) {S0 : Nat → Int → Int} {ws : List Int} (hP : rxPCUD S0 ws) : ∀ (i : Nat) (q : bx_HE), rxYCUD[i]? = some q → rxUCUD q = true → ∀ {p : Program} {e : Env} {R : Room} {s : State} {m : MethodId} {args : Array Value} {below : List Frame} {meth : Method} {c : Code} {Q : State → Prop} {H0 : Heap}, rx_Fr rxG rxNW rxAO PX p s m args meth c rxM249 → (∀ q, H0.size ≤ q → A q) → H0 = s.heap → rxM249.2.2.2.2.2.2.1 ≤ R.cells → rxM249.2.2.2.2.2.2.2 ≤ R.slots → rxC249.2.2.2.1 ≤ R.frames → rxC249.2.2.2.1 * 40 ≤ R.locals → bx_Step p l e R s m args below meth c Q Dg rxL X vwCl A xa H0 ad rxM249 rxYCUD (rxICUD S0 ws) (rxmCUD S0 ws) S0 rxC249.2.2.1 i q := by
  intro i q hq hus p e R s m args below meth c Q H0 hF hA hH0 hmc hms hd hdl
  match i, hq with
  | 0, hq =>
    cases hq
    exact absurd (show false = true from hus) Bool.false_ne_true
  | 1, hq =>
    cases hq
    exact rx_stepC (ins := .invokevirtual 110) (len := 3) (i_p := 2) (M_p := rxM110) (d := rxC249.2.2.2.1) (as := [.inr (3, (0, 0)), .inr (0, (0, (-1)))]) (t := []) (ct := rxC110) hPX hF rfl hA hH0 hmc hms hd hdl (by decide +kernel) rfl rfl (by decide +kernel) (by decide +kernel) hQ110 (by decide +kernel) rfl (Or.inr ⟨_, _, _, 1, rfl, rfl, by omega, rfl, rfl, rfl⟩) (rxsCUD_1 hP)
  | 2, hq =>
    cases hq
    exact absurd (show false = true from hus) Bool.false_ne_true
  | 3, hq =>
    cases hq
    exact rx_stepC (ins := .invokevirtual 110) (len := 3) (i_p := 4) (M_p := rxM110) (d := rxC249.2.2.2.1) (as := [.inr (3, (0, 0)), .inr (0, (0, (-5)))]) (t := []) (ct := rxC110) hPX hF rfl hA hH0 hmc hms hd hdl (by decide +kernel) rfl rfl (by decide +kernel) (by decide +kernel) hQ110 (by decide +kernel) rfl (Or.inr ⟨_, _, _, 1, rfl, rfl, by omega, rfl, rfl, rfl⟩) (rxsCUD_3 hP)
  | 4, hq =>
    cases hq
    exact absurd (show false = true from hus) Bool.false_ne_true
  | n + 5, hq => cases hq
theorem rxQCUD {PX : State → Prop} {Dg : va_G} {A : Nat → Prop} {ad xa : Nat → Nat} {l : Launch} {X : (Nat → Int → Int) → Prop} (hPX : rx_PXOK rxNW A PX) (hsl : ∀ s : State, PX s → ∀ o idx n : Nat, rxSl o idx = some n → ∃ tx : String, vk_R (rxNm o) idx tx (ad n) s)
    (hX : ∀ S S_p : Nat → Int → Int, X S → bx_same rxL (bx_mdl rxC249.2.2.1) S S_p → X S_p)
    (ih : ∀ (j2 : Nat) (ct2 : bx_Ct) (M2 : rx_Mt), ct2 ∈ rxCnE j2 → ct2.2.2.2.1 + 1 ≤ rxC249.2.2.2.1 → rxT.2.2.2.2.2 j2 = some M2 → bx_Con rxG rxNW rxAO PX Dg rxL X vwCl A ad l M2 ct2) (hQ110 : bx_ConP rxG rxNW rxAO PX Dg rxL X vwCl A ad l rxM110 rxC110 rxP110 rxPS110) : bx_ConP rxG rxNW rxAO PX Dg rxL X vwCl A ad l rxM249 rxC249 rxPCUD rxPSCUD :=
  rxQof (xa := xa) (Cn := rxCnE) (f := 30000) (j := 249) (tab := rxYCUD) (us := rxUCUD) hPX hsl hX ih rfl rxYcCUD rxICUD rxmCUD
    (fun S0 ws r I0 I ht0 ht as he he1 hX0 hI0 hP hs ha => by
      have e := he.symm.trans (show bx_ent0 rxNP rxC249.1 bx_I0 [] = some ([(0, 0), (0, 0), (0, 0), (0, 0), (0, 0), (0, 0), (0, 0), (0, 0), ((-2147483648), 2147483647)], [], [.inr (3, (0, 0)), .inr (0, (8, 0))]) from rfl)
      cases e
      subst ha
      have h0 : r 0 = 0 := hs.1
      show rxICUD_0 S0 _ S0 (r 8)
      refine ⟨rfl, ?_⟩
      simp only [List.map_cons, List.map_nil, bx_xv_ok h0]
      rfl)
    (fun S0 ws hP => rxuCUD (xa := xa) hPX hX hQ110 hP) (fun S0 ws hP => rxgCCUD hP) (fun S0 ws hP => rxgECUD hP)
noncomputable def rxICURR_0 (S0 : Nat → Int → Int) (ws : List Int) (S : Nat → Int → Int) (c : Int) : Prop := S = S0 ∧ ws = [480, c]
noncomputable def rxmCURR_0 (S0 : Nat → Int → Int) (ws : List Int) (S : Nat → Int → Int) (c : Int) : Nat := 100
noncomputable def rxzCURR_0 : rx_Z := ([(0, 0), (0, 0), (0, 0), (0, 0), (0, 0), (0, 0), (0, 0), (0, 0), ((-2147483648), 2147483647)], [], [], 0, 0, 0, [(0, .inr (3, (0, 480))), (1, .inr (0, (8, 0)))], [])
noncomputable def rxeCURR_0_0 : rx_End × List (Nat × Int × Int) := (([(0, 0), (0, 0), (0, 0), (0, 0), (0, 0), (0, 0), (0, 0), (0, 0), ((-2147483648), (-1)), ((-2147483648), 2147483647), ((-2147483648), 2147483647)], [], [(((0, 0), 1851192626986356797625047037163794926384839479479878431390892035000000), .inr (0, (10, 0))), (((0, 481), 1), .inr (0, (10, 0))), (((0, 0), 1851192626986356797625047037163794926384839479479878431390892032000000), .inr (0, (9, 0))), (((0, 480), 2), .inr (3, (0, 481))), (((0, 0), 1851192626986356797625047037163794926384839479479878431390302211000000), .inr (0, (0, (-1)))), (((0, 480), 1), .inr (0, (0, (-1)))), (((0, 0), 1851192626986356797424340330377019318111018015026043177836478467000000), .inr (0, (0, 0))), (((0, 480), 0), .inr (0, (0, 0)))], some (.inr (0, (0, (-1))))), [])
noncomputable def rxeCURR_0_1 : rx_End × List (Nat × Int × Int) := (([(0, 0), (0, 0), (0, 0), (0, 0), (0, 0), (0, 0), (0, 0), (0, 0), (6, 2147483647), ((-2147483648), 2147483647), ((-2147483648), 2147483647)], [], [(((0, 0), 1851192626986356797625047037163794926384839479479878431390892035000000), .inr (0, (10, 0))), (((0, 481), 1), .inr (0, (10, 0))), (((0, 0), 1851192626986356797625047037163794926384839479479878431390892032000000), .inr (0, (9, 0))), (((0, 480), 2), .inr (3, (0, 481))), (((0, 0), 1851192626986356797625047037163794926384839479479878431390302211000000), .inr (0, (0, (-1)))), (((0, 480), 1), .inr (0, (0, (-1)))), (((0, 0), 1851192626986356797424340330377019318111018015026043177836478467000000), .inr (0, (0, 0))), (((0, 480), 0), .inr (0, (0, 0)))], some (.inr (0, (0, (-1))))), [])
noncomputable def rxeCURR_0_2 : rx_End × List (Nat × Int × Int) := (([(0, 0), (0, 0), (0, 0), (0, 0), (0, 0), (0, 0), (0, 0), (0, 0), (0, 5), (12, 12), ((-2147483648), 2147483647), ((-2147483648), 2147483647)], [], [(((0, 0), 1851192626986356798427873864310897359480125337295219445606187011000000), .inr (0, (11, 0))), (((0, 481), 5), .inr (0, (11, 0))), (((0, 0), 1851192626986356798427873864310897359480125337295219445606187008000000), .inr (0, (10, 0))), (((0, 480), 2), .inr (3, (0, 481))), (((0, 0), 1851192626986356797625047037163794926384839479479878431390302211000000), .inr (0, (0, (-5)))), (((0, 480), 1), .inr (0, (0, (-5)))), (((0, 0), 1851192626986356798427873864310897359480125337295219445606776832000000), .inr (0, (9, 0))), (((0, 482), 5), .inr (0, (9, 0))), (((0, 480), 3), .inr (3, (0, 482))), (((0, 0), 1851192626986356797424340330377019318111018015026043177836478467000000), .inr (0, (0, 0))), (((0, 480), 0), .inr (0, (0, 0)))], some (.inr (0, (0, (-5))))), [])
noncomputable def rxeCURR_0_3 : rx_End × List (Nat × Int × Int) := (([(0, 0), (0, 0), (0, 0), (0, 0), (0, 0), (0, 0), (0, 0), (0, 0), (0, 5), (0, 11)], [(3, (9, 0), (0, 12))], [(((0, 0), 1851192626986356797625047037163794926384839479479878431390302211000000), .inr (0, (0, 0))), (((0, 480), 1), .inr (0, (0, 0))), (((0, 0), 1851192626986356798427873864310897359480125337295219445606776835000000), .inr (0, (9, 1))), (((0, 482), 5), .inr (0, (9, 1))), (((0, 0), 1851192626986356943940263847594933954016227599668980245354119171000000), .inr (0, (8, 0))), (((0, 0), 1851192626986356798427873864310897359480125337295219445606776832000000), .inr (0, (9, 0))), (((0, 480), 3), .inr (3, (0, 482))), (((0, 0), 1851192626986356797424340330377019318111018015026043177836478467000000), .inr (0, (0, 0))), (((0, 480), 0), .inr (0, (0, 0)))], some (.inr (0, (9, 1)))), [])
noncomputable def rxYCURR : List bx_HE := [(rxzCURR_0, [], [rxeCURR_0_0, rxeCURR_0_1, rxeCURR_0_2, rxeCURR_0_3])]
noncomputable def rxUCURR (q : bx_HE) : Bool := false
noncomputable def rxYBCURR : bx_B := (rxV, rxNP, rxDmf, bx_mdH rxC250.2.2.1)
set_option maxRecDepth 100000 in
theorem rxYcCURR : bx_chkH rxYBCURR rxM250 rxC250 rxYCURR (rxUCURR, fun cut z => rx_ex2 (rxCT rxYBCURR rxCnE) cut 30000 rxC250.2.2.2.1 250 z) = true := by decide +kernel
noncomputable def rxICURR (S0 : Nat → Int → Int) (ws : List Int) (i : Nat) : bx_SP := fun S r => match i with | 0 => rxICURR_0 S0 ws S (r 8) | _ => False
noncomputable def rxmCURR (S0 : Nat → Int → Int) (ws : List Int) (i : Nat) (S : Nat → Int → Int) (r : Nat → Int) : Nat := match i with | 0 => rxmCURR_0 S0 ws S (r 8) | _ => 0
noncomputable def rxPCURR (S0 : Nat → Int → Int) (ws : List Int) : Prop := True
noncomputable def rxPSCURR (S0 : Nat → Int → Int) (ws : List Int) (S : Nat → Int → Int) (w : Option Int) : Prop := ∃ c : Int, ws = [480, c] ∧ (((c < 0 ∨ 5 < c) ∧ w = some (-1) ∧ (∀ j : Int, S 482 j = S0 482 j)) ∨ (0 ≤ c ∧ c ≤ 5 ∧ 12 ≤ S0 482 5 ∧ w = some (-5) ∧ (∀ j : Int, S 482 j = S0 482 j)) ∨ (0 ≤ c ∧ c ≤ 5 ∧ S0 482 5 < 12 ∧ w = some (S0 482 5 + 1) ∧ S 482 5 = S0 482 5 + 1 ∧ (∀ i : Int, 0 ≤ i → i < 12 → S 482 (730 + 1 * i) = if i = S0 482 5 then c else S0 482 (730 + 1 * i))))
theorem rxdCURR_0_0 {S0 : Nat → Int → Int} {ws : List Int} {S : Nat → Int → Int} {c x9 x10 : Int} (hP : rxPCURR S0 ws) (hin : bx_same rxL (bx_mdl rxC250.2.2.1) S0 S) (hin2 : bx_same rxL (bx_mdl rxC250.2.2.1) S (bx_up (bx_up (bx_up S 480 0 0) 480 1 ((-1))) 481 1 x10)) (I0 : bx_Inv rxL S) (I1 : bx_Inv rxL (bx_up (bx_up (bx_up S 480 0 0) 480 1 ((-1))) 481 1 x10)) (hinv : rxICURR_0 S0 ws S c) (l8 : (-2147483648) ≤ c) (u8 : c ≤ (-1)) (l9 : (-2147483648) ≤ x9) (u9 : x9 ≤ 2147483647) (l10 : (-2147483648) ≤ x10) (u10 : x10 ≤ 2147483647) (e1 : (bx_up (bx_up S 480 0 0) 480 1 ((-1))) 481 1 = x9) : (True) ∧ rxPSCURR S0 ws (bx_up (bx_up (bx_up S 480 0 0) 480 1 ((-1))) 481 1 x10) (some ((-1))) := by
  obtain ⟨rfl, hw⟩ := hinv
  have e1 := (show _ = S 481 1 from (bx_up_ne (by omega)).trans ((bx_up_ne (by omega)))).symm.trans e1
  refine ⟨trivial, c, hw, Or.inl (⟨?_, ?_, fun j => (bx_up_ne (by omega)).trans ((bx_up_ne (by omega)).trans ((bx_up_ne (by omega))))⟩)⟩ <;> first | omega | exact hin2 | exact congrArg some (by omega) | (intro i i0 i1; simp only [bx_up]; (repeat' split) <;> first | rfl | omega | (simp_all; done) | (simp_all; omega)) | ((repeat (first | rw [bx_up_at] | rw [bx_up_ne (by omega)])); omega) | exact True.intro
theorem rxfCURR_0_0 {X : (Nat → Int → Int) → Prop} {S0 : Nat → Int → Int} {ws : List Int} (hP : rxPCURR S0 ws) : bx_obE rxL X S0 rxC250.2.2.1 (rxICURR S0 ws) (rxPSCURR S0 ws) 0 rxzCURR_0 rxeCURR_0_0 := by
  intro S S_p r r_p hinv hX hin hsm_ hseg
  obtain ⟨I0, I1, h0_, hr_, b_, f_, d_⟩ := bx_cl (evs := [(1, (0, 481), (0, 1), .inr (0, (10, 0))), (0, (0, 481), (0, 1), .inr (0, (9, 0))), (1, (0, 480), (0, 1), .inr (0, (0, (-1)))), (1, (0, 480), (0, 0), .inr (0, (0, 0)))]) (fvs := []) hseg (by decide +kernel) (by decide +kernel)
  have hinv : rxICURR_0 S0 ws S (r 8) := hinv
  rw [← hr_ 8 (by decide)] at hinv
  obtain ⟨⟨l8, u8⟩, ⟨l9, u9⟩, ⟨l10, u10⟩, -⟩ := b_
  obtain ⟨T0, ⟨e1, ⟨T2, ⟨T3, w_, w3⟩, w2⟩⟩, w0⟩ := d_
  subst w0
  subst w2
  subst w3
  subst w_
  have g := rxdCURR_0_0 hP hin hsm_ I0 I1 hinv l8 u8 l9 u9 l10 u10 e1
  refine ⟨bx_narP_ok (l := []) g.1, ?_⟩
  show rxPSCURR S0 ws (bx_up (bx_up (bx_up T3 480 (0) (0)) 480 (1) ((-1))) 481 (1) (r_p 10)) (some (bx_num r_p (.inr (0, (0, (-1))))))
  rw [bx_xv_ok h0_]
  exact g.2
theorem rxdCURR_0_1 {S0 : Nat → Int → Int} {ws : List Int} {S : Nat → Int → Int} {c x9 x10 : Int} (hP : rxPCURR S0 ws) (hin : bx_same rxL (bx_mdl rxC250.2.2.1) S0 S) (hin2 : bx_same rxL (bx_mdl rxC250.2.2.1) S (bx_up (bx_up (bx_up S 480 0 0) 480 1 ((-1))) 481 1 x10)) (I0 : bx_Inv rxL S) (I1 : bx_Inv rxL (bx_up (bx_up (bx_up S 480 0 0) 480 1 ((-1))) 481 1 x10)) (hinv : rxICURR_0 S0 ws S c) (l8 : 6 ≤ c) (u8 : c ≤ 2147483647) (l9 : (-2147483648) ≤ x9) (u9 : x9 ≤ 2147483647) (l10 : (-2147483648) ≤ x10) (u10 : x10 ≤ 2147483647) (e1 : (bx_up (bx_up S 480 0 0) 480 1 ((-1))) 481 1 = x9) : (True) ∧ rxPSCURR S0 ws (bx_up (bx_up (bx_up S 480 0 0) 480 1 ((-1))) 481 1 x10) (some ((-1))) := by
  obtain ⟨rfl, hw⟩ := hinv
  have e1 := (show _ = S 481 1 from (bx_up_ne (by omega)).trans ((bx_up_ne (by omega)))).symm.trans e1
  refine ⟨trivial, c, hw, Or.inl (⟨?_, ?_, fun j => (bx_up_ne (by omega)).trans ((bx_up_ne (by omega)).trans ((bx_up_ne (by omega))))⟩)⟩ <;> first | omega | exact hin2 | exact congrArg some (by omega) | (intro i i0 i1; simp only [bx_up]; (repeat' split) <;> first | rfl | omega | (simp_all; done) | (simp_all; omega)) | ((repeat (first | rw [bx_up_at] | rw [bx_up_ne (by omega)])); omega) | exact True.intro
theorem rxfCURR_0_1 {X : (Nat → Int → Int) → Prop} {S0 : Nat → Int → Int} {ws : List Int} (hP : rxPCURR S0 ws) : bx_obE rxL X S0 rxC250.2.2.1 (rxICURR S0 ws) (rxPSCURR S0 ws) 0 rxzCURR_0 rxeCURR_0_1 := by
  intro S S_p r r_p hinv hX hin hsm_ hseg
  obtain ⟨I0, I1, h0_, hr_, b_, f_, d_⟩ := bx_cl (evs := [(1, (0, 481), (0, 1), .inr (0, (10, 0))), (0, (0, 481), (0, 1), .inr (0, (9, 0))), (1, (0, 480), (0, 1), .inr (0, (0, (-1)))), (1, (0, 480), (0, 0), .inr (0, (0, 0)))]) (fvs := []) hseg (by decide +kernel) (by decide +kernel)
  have hinv : rxICURR_0 S0 ws S (r 8) := hinv
  rw [← hr_ 8 (by decide)] at hinv
  obtain ⟨⟨l8, u8⟩, ⟨l9, u9⟩, ⟨l10, u10⟩, -⟩ := b_
  obtain ⟨T0, ⟨e1, ⟨T2, ⟨T3, w_, w3⟩, w2⟩⟩, w0⟩ := d_
  subst w0
  subst w2
  subst w3
  subst w_
  have g := rxdCURR_0_1 hP hin hsm_ I0 I1 hinv l8 u8 l9 u9 l10 u10 e1
  refine ⟨bx_narP_ok (l := []) g.1, ?_⟩
  show rxPSCURR S0 ws (bx_up (bx_up (bx_up T3 480 (0) (0)) 480 (1) ((-1))) 481 (1) (r_p 10)) (some (bx_num r_p (.inr (0, (0, (-1))))))
  rw [bx_xv_ok h0_]
  exact g.2
theorem rxdCURR_0_2 {S0 : Nat → Int → Int} {ws : List Int} {S : Nat → Int → Int} {c x9 x10 x11 : Int} (hP : rxPCURR S0 ws) (hin : bx_same rxL (bx_mdl rxC250.2.2.1) S0 S) (hin2 : bx_same rxL (bx_mdl rxC250.2.2.1) S (bx_up (bx_up (bx_up S 480 0 0) 480 1 ((-5))) 481 5 x11)) (I0 : bx_Inv rxL S) (I1 : bx_Inv rxL (bx_up (bx_up (bx_up S 480 0 0) 480 1 ((-5))) 481 5 x11)) (hinv : rxICURR_0 S0 ws S c) (l8 : 0 ≤ c) (u8 : c ≤ 5) (l9 : 12 ≤ x9) (u9 : x9 ≤ 12) (l10 : (-2147483648) ≤ x10) (u10 : x10 ≤ 2147483647) (l11 : (-2147483648) ≤ x11) (u11 : x11 ≤ 2147483647) (e3 : (bx_up S 480 0 0) 482 5 = x9) (e1 : (bx_up (bx_up S 480 0 0) 480 1 ((-5))) 481 5 = x10) : (True) ∧ rxPSCURR S0 ws (bx_up (bx_up (bx_up S 480 0 0) 480 1 ((-5))) 481 5 x11) (some ((-5))) := by
  obtain ⟨rfl, hw⟩ := hinv
  have e3 := (show _ = S 482 5 from (bx_up_ne (by omega))).symm.trans e3
  have e1 := (show _ = S 481 5 from (bx_up_ne (by omega)).trans ((bx_up_ne (by omega)))).symm.trans e1
  refine ⟨trivial, c, hw, Or.inr (Or.inl (⟨?_, ?_, ?_, ?_, fun j => (bx_up_ne (by omega)).trans ((bx_up_ne (by omega)).trans ((bx_up_ne (by omega))))⟩))⟩ <;> first | omega | exact hin2 | exact congrArg some (by omega) | (intro i i0 i1; simp only [bx_up]; (repeat' split) <;> first | rfl | omega | (simp_all; done) | (simp_all; omega)) | ((repeat (first | rw [bx_up_at] | rw [bx_up_ne (by omega)])); omega) | exact True.intro
theorem rxfCURR_0_2 {X : (Nat → Int → Int) → Prop} {S0 : Nat → Int → Int} {ws : List Int} (hP : rxPCURR S0 ws) : bx_obE rxL X S0 rxC250.2.2.1 (rxICURR S0 ws) (rxPSCURR S0 ws) 0 rxzCURR_0 rxeCURR_0_2 := by
  intro S S_p r r_p hinv hX hin hsm_ hseg
  obtain ⟨I0, I1, h0_, hr_, b_, f_, d_⟩ := bx_cl (evs := [(1, (0, 481), (0, 5), .inr (0, (11, 0))), (0, (0, 481), (0, 5), .inr (0, (10, 0))), (1, (0, 480), (0, 1), .inr (0, (0, (-5)))), (0, (0, 482), (0, 5), .inr (0, (9, 0))), (1, (0, 480), (0, 0), .inr (0, (0, 0)))]) (fvs := []) hseg (by decide +kernel) (by decide +kernel)
  have hinv : rxICURR_0 S0 ws S (r 8) := hinv
  rw [← hr_ 8 (by decide)] at hinv
  obtain ⟨⟨l8, u8⟩, ⟨l9, u9⟩, ⟨l10, u10⟩, ⟨l11, u11⟩, -⟩ := b_
  obtain ⟨T0, ⟨e1, ⟨T2, ⟨e3, ⟨T4, w_, w4⟩⟩, w2⟩⟩, w0⟩ := d_
  subst w0
  subst w2
  subst w4
  subst w_
  have g := rxdCURR_0_2 hP hin hsm_ I0 I1 hinv l8 u8 l9 u9 l10 u10 l11 u11 e3 e1
  refine ⟨bx_narP_ok (l := []) g.1, ?_⟩
  show rxPSCURR S0 ws (bx_up (bx_up (bx_up T4 480 (0) (0)) 480 (1) ((-5))) 481 (5) (r_p 11)) (some (bx_num r_p (.inr (0, (0, (-5))))))
  rw [bx_xv_ok h0_]
  exact g.2
theorem rxdCURR_0_3 {S0 : Nat → Int → Int} {ws : List Int} {S : Nat → Int → Int} {c x9 : Int} (hP : rxPCURR S0 ws) (hin : bx_same rxL (bx_mdl rxC250.2.2.1) S0 S) (hin2 : bx_same rxL (bx_mdl rxC250.2.2.1) S (bx_up (bx_up (bx_up (bx_up S 480 0 0) 482 (x9 + 730) c) 482 5 (x9 + 1)) 480 1 0)) (I0 : bx_Inv rxL S) (I1 : bx_Inv rxL (bx_up (bx_up (bx_up (bx_up S 480 0 0) 482 (x9 + 730) c) 482 5 (x9 + 1)) 480 1 0)) (hinv : rxICURR_0 S0 ws S c) (l8 : 0 ≤ c) (u8 : c ≤ 5) (l9 : 0 ≤ x9) (u9 : x9 ≤ 11) (f0 : x9 ≠ 12) (e3 : (bx_up S 480 0 0) 482 5 = x9) : (True) ∧ rxPSCURR S0 ws (bx_up (bx_up (bx_up (bx_up S 480 0 0) 482 (x9 + 730) c) 482 5 (x9 + 1)) 480 1 0) (some (x9 + 1)) := by
  obtain ⟨rfl, hw⟩ := hinv
  have e3 := (show _ = S 482 5 from (bx_up_ne (by omega))).symm.trans e3
  refine ⟨trivial, c, hw, Or.inr (Or.inr (⟨?_, ?_, ?_, ?_, ((bx_up_ne (by omega)).trans (bx_up_at)).trans (by omega), ?_⟩))⟩ <;> first | omega | exact hin2 | exact congrArg some (by omega) | (intro i i0 i1; simp only [bx_up]; (repeat' split) <;> first | rfl | omega | (simp_all; done) | (simp_all; omega)) | ((repeat (first | rw [bx_up_at] | rw [bx_up_ne (by omega)])); omega) | exact True.intro
theorem rxfCURR_0_3 {X : (Nat → Int → Int) → Prop} {S0 : Nat → Int → Int} {ws : List Int} (hP : rxPCURR S0 ws) : bx_obE rxL X S0 rxC250.2.2.1 (rxICURR S0 ws) (rxPSCURR S0 ws) 0 rxzCURR_0 rxeCURR_0_3 := by
  intro S S_p r r_p hinv hX hin hsm_ hseg
  obtain ⟨I0, I1, h0_, hr_, b_, f_, d_⟩ := bx_cl (evs := [(1, (0, 480), (0, 1), .inr (0, (0, 0))), (1, (0, 482), (0, 5), .inr (0, (9, 1))), (1, (0, 482), (9, 730), .inr (0, (8, 0))), (0, (0, 482), (0, 5), .inr (0, (9, 0))), (1, (0, 480), (0, 0), .inr (0, (0, 0)))]) (fvs := [(3, (9, 0), (0, 12), (0, 0))]) hseg (by decide +kernel) (by decide +kernel)
  have hinv : rxICURR_0 S0 ws S (r 8) := hinv
  rw [← hr_ 8 (by decide)] at hinv
  obtain ⟨⟨l8, u8⟩, ⟨l9, u9⟩, -⟩ := b_
  obtain ⟨f0, -⟩ := f_
  obtain ⟨T0, ⟨T1, ⟨T2, ⟨e3, ⟨T4, w_, w4⟩⟩, w2⟩, w1⟩, w0⟩ := d_
  subst w0
  subst w1
  subst w2
  subst w4
  subst w_
  have g := rxdCURR_0_3 hP hin hsm_ I0 I1 hinv l8 u8 l9 u9 f0 e3
  refine ⟨bx_narP_ok (l := []) g.1, ?_⟩
  show rxPSCURR S0 ws (bx_up (bx_up (bx_up (bx_up T4 480 (0) (0)) 482 (r_p 9 + 730) (r_p 8)) 482 (5) (r_p 9 + 1)) 480 (1) (0)) (some (bx_num r_p (.inr (0, (9, 1)))))
  rw [bx_xv_ok h0_]
  exact g.2
theorem rxgCCURR {X : (Nat → Int → Int) → Prop} {S0 : Nat → Int → Int} {ws : List Int} (hP : rxPCURR S0 ws) : bx_allI (fun i q => rxUCURR q = true ∨ bx_allP (fun o => bx_obC rxL X S0 rxC250.2.2.1 (rxICURR S0 ws) (rxmCURR S0 ws) i q.1 o) q.2.1) 0 rxYCURR := ⟨Or.inr trivial, trivial⟩
theorem rxgECURR {X : (Nat → Int → Int) → Prop} {S0 : Nat → Int → Int} {ws : List Int} (hP : rxPCURR S0 ws) : bx_allI (fun i q => rxUCURR q = true ∨ bx_allP (fun E => bx_obE rxL X S0 rxC250.2.2.1 (rxICURR S0 ws) (rxPSCURR S0 ws) i q.1 E) q.2.2) 0 rxYCURR := ⟨Or.inr ⟨rxfCURR_0_0 hP, rxfCURR_0_1 hP, rxfCURR_0_2 hP, rxfCURR_0_3 hP, trivial⟩, trivial⟩
theorem rxQCURR {PX : State → Prop} {Dg : va_G} {A : Nat → Prop} {ad xa : Nat → Nat} {l : Launch} {X : (Nat → Int → Int) → Prop} (hPX : rx_PXOK rxNW A PX) (hsl : ∀ s : State, PX s → ∀ o idx n : Nat, rxSl o idx = some n → ∃ tx : String, vk_R (rxNm o) idx tx (ad n) s)
    (hX : ∀ S S_p : Nat → Int → Int, X S → bx_same rxL (bx_mdl rxC250.2.2.1) S S_p → X S_p)
    (ih : ∀ (j2 : Nat) (ct2 : bx_Ct) (M2 : rx_Mt), ct2 ∈ rxCnE j2 → ct2.2.2.2.1 + 1 ≤ rxC250.2.2.2.1 → rxT.2.2.2.2.2 j2 = some M2 → bx_Con rxG rxNW rxAO PX Dg rxL X vwCl A ad l M2 ct2) : bx_ConP rxG rxNW rxAO PX Dg rxL X vwCl A ad l rxM250 rxC250 rxPCURR rxPSCURR :=
  rxQof (xa := xa) (Cn := rxCnE) (f := 30000) (j := 250) (tab := rxYCURR) (us := rxUCURR) hPX hsl hX ih rfl rxYcCURR rxICURR rxmCURR
    (fun S0 ws r I0 I ht0 ht as he he1 hX0 hI0 hP hs ha => by
      have e := he.symm.trans (show bx_ent0 rxNP rxC250.1 bx_I0 [] = some ([(0, 0), (0, 0), (0, 0), (0, 0), (0, 0), (0, 0), (0, 0), (0, 0), ((-2147483648), 2147483647)], [], [.inr (3, (0, 480)), .inr (0, (8, 0))]) from rfl)
      cases e
      subst ha
      have h0 : r 0 = 0 := hs.1
      show rxICURR_0 S0 _ S0 (r 8)
      refine ⟨rfl, ?_⟩
      simp only [List.map_cons, List.map_nil, bx_xv_ok h0]
      rfl)
    (fun S0 ws hP => fun i q hq hus => absurd (show false = true from hus) Bool.false_ne_true) (fun S0 ws hP => rxgCCURR hP) (fun S0 ws hP => rxgECURR hP)
noncomputable def rxI251_0 (S0 : Nat → Int → Int) (ws : List Int) (S : Nat → Int → Int) : Prop := S = S0 ∧ ws = [0]
noncomputable def rxm251_0 (S0 : Nat → Int → Int) (ws : List Int) (S : Nat → Int → Int) : Nat := 100
noncomputable def rxz251_0 : rx_Z := ([(0, 0), (0, 0), (0, 0), (0, 0), (0, 0), (0, 0), (0, 0), (0, 0)], [], [], 0, 0, 0, [(0, .inr (3, (0, 0)))], [])
noncomputable def rxe251_0_0 : rx_End × List (Nat × Int × Int) := (([(0, 0), (0, 0), (0, 0), (0, 0), (0, 0), (0, 0), (0, 0), (0, 0), (0, 12)], [], [(((0, 0), 1851192626986356799431407398244775400849232659564395713092190211000000), .inr (0, (0, 0))), (((0, 1), 10), .inr (0, (0, 0))), (((0, 0), 1851192626986356799431407398244775400849232659564395713092190208000000), .inr (0, (8, 0))), (((0, 0), 0), .inr (3, (0, 1)))], some (.inr (0, (8, 0)))), [])
noncomputable def rxY251 : List bx_HE := [(rxz251_0, [], [rxe251_0_0])]
noncomputable def rxU251 (q : bx_HE) : Bool := false
noncomputable def rxYB251 : bx_B := (rxV, rxNP, rxDmf, bx_mdH rxC251.2.2.1)
set_option maxRecDepth 100000 in
theorem rxYc251 : bx_chkH rxYB251 rxM251 rxC251 rxY251 (rxU251, fun cut z => rx_ex2 (rxCT rxYB251 rxCnE) cut 30000 rxC251.2.2.2.1 251 z) = true := by decide +kernel
noncomputable def rxI251 (S0 : Nat → Int → Int) (ws : List Int) (i : Nat) : bx_SP := fun S r => match i with | 0 => rxI251_0 S0 ws S | _ => False
noncomputable def rxm251 (S0 : Nat → Int → Int) (ws : List Int) (i : Nat) (S : Nat → Int → Int) (r : Nat → Int) : Nat := match i with | 0 => rxm251_0 S0 ws S | _ => 0
noncomputable def rxP251 (S0 : Nat → Int → Int) (ws : List Int) : Prop := True
noncomputable def rxPS251 (S0 : Nat → Int → Int) (ws : List Int) (S : Nat → Int → Int) (w : Option Int) : Prop := ws = [0] ∧ ((w = some (S0 1 10) ∧ S 1 10 = 0 ∧ S 138 10 = S0 138 10 ∧ S 274 10 = S0 274 10))
theorem rxd251_0_0 {S0 : Nat → Int → Int} {ws : List Int} {S : Nat → Int → Int} {x8 : Int} (hP : rxP251 S0 ws) (hin : bx_same rxL (bx_mdl rxC251.2.2.1) S0 S) (hin2 : bx_same rxL (bx_mdl rxC251.2.2.1) S (bx_up S 1 10 0)) (I0 : bx_Inv rxL S) (I1 : bx_Inv rxL (bx_up S 1 10 0)) (hinv : rxI251_0 S0 ws S) (l8 : 0 ≤ x8) (u8 : x8 ≤ 12) (e1 : S 1 10 = x8) : (True) ∧ rxPS251 S0 ws (bx_up S 1 10 0) (some x8) := by
  obtain ⟨rfl, hw⟩ := hinv
  refine ⟨trivial, hw, ⟨?_, (bx_up_at).trans (by omega), (bx_up_ne (by omega)), (bx_up_ne (by omega))⟩⟩ <;> first | omega | exact hin2 | exact congrArg some (by omega) | (intro i i0 i1; simp only [bx_up]; (repeat' split) <;> first | rfl | omega | (simp_all; done) | (simp_all; omega)) | ((repeat (first | rw [bx_up_at] | rw [bx_up_ne (by omega)])); omega) | exact True.intro
theorem rxf251_0_0 {X : (Nat → Int → Int) → Prop} {S0 : Nat → Int → Int} {ws : List Int} (hP : rxP251 S0 ws) : bx_obE rxL X S0 rxC251.2.2.1 (rxI251 S0 ws) (rxPS251 S0 ws) 0 rxz251_0 rxe251_0_0 := by
  intro S S_p r r_p hinv hX hin hsm_ hseg
  obtain ⟨I0, I1, h0_, hr_, b_, f_, d_⟩ := bx_cl (evs := [(1, (0, 1), (0, 10), .inr (0, (0, 0))), (0, (0, 1), (0, 10), .inr (0, (8, 0)))]) (fvs := []) hseg (by decide +kernel) (by decide +kernel)
  have hinv : rxI251_0 S0 ws S := hinv
  obtain ⟨⟨l8, u8⟩, -⟩ := b_
  obtain ⟨T0, ⟨e1, w_⟩, w0⟩ := d_
  subst w0
  subst w_
  have g := rxd251_0_0 hP hin hsm_ I0 I1 hinv l8 u8 e1
  refine ⟨bx_narP_ok (l := []) g.1, ?_⟩
  show rxPS251 S0 ws (bx_up T0 1 (10) (0)) (some (bx_num r_p (.inr (0, (8, 0)))))
  rw [bx_xv_ok h0_]
  exact g.2
theorem rxgC251 {X : (Nat → Int → Int) → Prop} {S0 : Nat → Int → Int} {ws : List Int} (hP : rxP251 S0 ws) : bx_allI (fun i q => rxU251 q = true ∨ bx_allP (fun o => bx_obC rxL X S0 rxC251.2.2.1 (rxI251 S0 ws) (rxm251 S0 ws) i q.1 o) q.2.1) 0 rxY251 := ⟨Or.inr trivial, trivial⟩
theorem rxgE251 {X : (Nat → Int → Int) → Prop} {S0 : Nat → Int → Int} {ws : List Int} (hP : rxP251 S0 ws) : bx_allI (fun i q => rxU251 q = true ∨ bx_allP (fun E => bx_obE rxL X S0 rxC251.2.2.1 (rxI251 S0 ws) (rxPS251 S0 ws) i q.1 E) q.2.2) 0 rxY251 := ⟨Or.inr ⟨rxf251_0_0 hP, trivial⟩, trivial⟩
theorem rxQ251 {PX : State → Prop} {Dg : va_G} {A : Nat → Prop} {ad xa : Nat → Nat} {l : Launch} {X : (Nat → Int → Int) → Prop} (hPX : rx_PXOK rxNW A PX) (hsl : ∀ s : State, PX s → ∀ o idx n : Nat, rxSl o idx = some n → ∃ tx : String, vk_R (rxNm o) idx tx (ad n) s)
    (hX : ∀ S S_p : Nat → Int → Int, X S → bx_same rxL (bx_mdl rxC251.2.2.1) S S_p → X S_p)
    (ih : ∀ (j2 : Nat) (ct2 : bx_Ct) (M2 : rx_Mt), ct2 ∈ rxCnE j2 → ct2.2.2.2.1 + 1 ≤ rxC251.2.2.2.1 → rxT.2.2.2.2.2 j2 = some M2 → bx_Con rxG rxNW rxAO PX Dg rxL X vwCl A ad l M2 ct2) : bx_ConP rxG rxNW rxAO PX Dg rxL X vwCl A ad l rxM251 rxC251 rxP251 rxPS251 :=
  rxQof (xa := xa) (Cn := rxCnE) (f := 30000) (j := 251) (tab := rxY251) (us := rxU251) hPX hsl hX ih rfl rxYc251 rxI251 rxm251
    (fun S0 ws r I0 I ht0 ht as he he1 hX0 hI0 hP hs ha => by
      have e := he.symm.trans (show bx_ent0 rxNP rxC251.1 bx_I0 [] = some ([(0, 0), (0, 0), (0, 0), (0, 0), (0, 0), (0, 0), (0, 0), (0, 0)], [], [.inr (3, (0, 0))]) from rfl)
      cases e
      subst ha
      have h0 : r 0 = 0 := hs.1
      show rxI251_0 S0 _ S0
      refine ⟨rfl, ?_⟩
      simp only [List.map_cons, List.map_nil, bx_xv_ok h0]
      rfl)
    (fun S0 ws hP => fun i q hq hus => absurd (show false = true from hus) Bool.false_ne_true) (fun S0 ws hP => rxgC251 hP) (fun S0 ws hP => rxgE251 hP)
noncomputable def rxI252_0 (S0 : Nat → Int → Int) (ws : List Int) (S : Nat → Int → Int) : Prop := S = S0 ∧ ws = [480]
noncomputable def rxm252_0 (S0 : Nat → Int → Int) (ws : List Int) (S : Nat → Int → Int) : Nat := 100
noncomputable def rxz252_0 : rx_Z := ([(0, 0), (0, 0), (0, 0), (0, 0), (0, 0), (0, 0), (0, 0), (0, 0)], [], [], 0, 0, 0, [(0, .inr (3, (0, 480)))], [])
noncomputable def rxe252_0_0 : rx_End × List (Nat × Int × Int) := (([(0, 0), (0, 0), (0, 0), (0, 0), (0, 0), (0, 0), (0, 0), (0, 0), (0, 12)], [], [(((0, 0), 1851192626986356798427873864310897359480125337295219445606776835000000), .inr (0, (0, 0))), (((0, 482), 5), .inr (0, (0, 0))), (((0, 0), 1851192626986356798427873864310897359480125337295219445606776832000000), .inr (0, (8, 0))), (((0, 480), 3), .inr (3, (0, 482))), (((0, 0), 1851192626986356797424340330377019318111018015026043177836478467000000), .inr (0, (0, 0))), (((0, 480), 0), .inr (0, (0, 0)))], some (.inr (0, (8, 0)))), [])
noncomputable def rxY252 : List bx_HE := [(rxz252_0, [], [rxe252_0_0])]
noncomputable def rxU252 (q : bx_HE) : Bool := false
noncomputable def rxYB252 : bx_B := (rxV, rxNP, rxDmf, bx_mdH rxC252.2.2.1)
set_option maxRecDepth 100000 in
theorem rxYc252 : bx_chkH rxYB252 rxM252 rxC252 rxY252 (rxU252, fun cut z => rx_ex2 (rxCT rxYB252 rxCnE) cut 30000 rxC252.2.2.2.1 252 z) = true := by decide +kernel
noncomputable def rxI252 (S0 : Nat → Int → Int) (ws : List Int) (i : Nat) : bx_SP := fun S r => match i with | 0 => rxI252_0 S0 ws S | _ => False
noncomputable def rxm252 (S0 : Nat → Int → Int) (ws : List Int) (i : Nat) (S : Nat → Int → Int) (r : Nat → Int) : Nat := match i with | 0 => rxm252_0 S0 ws S | _ => 0
noncomputable def rxP252 (S0 : Nat → Int → Int) (ws : List Int) : Prop := True
noncomputable def rxPS252 (S0 : Nat → Int → Int) (ws : List Int) (S : Nat → Int → Int) (w : Option Int) : Prop := ws = [480] ∧ ((w = some (S0 482 5) ∧ S 482 5 = 0))
theorem rxd252_0_0 {S0 : Nat → Int → Int} {ws : List Int} {S : Nat → Int → Int} {x8 : Int} (hP : rxP252 S0 ws) (hin : bx_same rxL (bx_mdl rxC252.2.2.1) S0 S) (hin2 : bx_same rxL (bx_mdl rxC252.2.2.1) S (bx_up (bx_up S 480 0 0) 482 5 0)) (I0 : bx_Inv rxL S) (I1 : bx_Inv rxL (bx_up (bx_up S 480 0 0) 482 5 0)) (hinv : rxI252_0 S0 ws S) (l8 : 0 ≤ x8) (u8 : x8 ≤ 12) (e1 : (bx_up S 480 0 0) 482 5 = x8) : (True) ∧ rxPS252 S0 ws (bx_up (bx_up S 480 0 0) 482 5 0) (some x8) := by
  obtain ⟨rfl, hw⟩ := hinv
  have e1 := (show _ = S 482 5 from (bx_up_ne (by omega))).symm.trans e1
  refine ⟨trivial, hw, ⟨?_, (bx_up_at).trans (by omega)⟩⟩ <;> first | omega | exact hin2 | exact congrArg some (by omega) | (intro i i0 i1; simp only [bx_up]; (repeat' split) <;> first | rfl | omega | (simp_all; done) | (simp_all; omega)) | ((repeat (first | rw [bx_up_at] | rw [bx_up_ne (by omega)])); omega) | exact True.intro
theorem rxf252_0_0 {X : (Nat → Int → Int) → Prop} {S0 : Nat → Int → Int} {ws : List Int} (hP : rxP252 S0 ws) : bx_obE rxL X S0 rxC252.2.2.1 (rxI252 S0 ws) (rxPS252 S0 ws) 0 rxz252_0 rxe252_0_0 := by
  intro S S_p r r_p hinv hX hin hsm_ hseg
  obtain ⟨I0, I1, h0_, hr_, b_, f_, d_⟩ := bx_cl (evs := [(1, (0, 482), (0, 5), .inr (0, (0, 0))), (0, (0, 482), (0, 5), .inr (0, (8, 0))), (1, (0, 480), (0, 0), .inr (0, (0, 0)))]) (fvs := []) hseg (by decide +kernel) (by decide +kernel)
  have hinv : rxI252_0 S0 ws S := hinv
  obtain ⟨⟨l8, u8⟩, -⟩ := b_
  obtain ⟨T0, ⟨e1, ⟨T2, w_, w2⟩⟩, w0⟩ := d_
  subst w0
  subst w2
  subst w_
  have g := rxd252_0_0 hP hin hsm_ I0 I1 hinv l8 u8 e1
  refine ⟨bx_narP_ok (l := []) g.1, ?_⟩
  show rxPS252 S0 ws (bx_up (bx_up T2 480 (0) (0)) 482 (5) (0)) (some (bx_num r_p (.inr (0, (8, 0)))))
  rw [bx_xv_ok h0_]
  exact g.2
theorem rxgC252 {X : (Nat → Int → Int) → Prop} {S0 : Nat → Int → Int} {ws : List Int} (hP : rxP252 S0 ws) : bx_allI (fun i q => rxU252 q = true ∨ bx_allP (fun o => bx_obC rxL X S0 rxC252.2.2.1 (rxI252 S0 ws) (rxm252 S0 ws) i q.1 o) q.2.1) 0 rxY252 := ⟨Or.inr trivial, trivial⟩
theorem rxgE252 {X : (Nat → Int → Int) → Prop} {S0 : Nat → Int → Int} {ws : List Int} (hP : rxP252 S0 ws) : bx_allI (fun i q => rxU252 q = true ∨ bx_allP (fun E => bx_obE rxL X S0 rxC252.2.2.1 (rxI252 S0 ws) (rxPS252 S0 ws) i q.1 E) q.2.2) 0 rxY252 := ⟨Or.inr ⟨rxf252_0_0 hP, trivial⟩, trivial⟩
theorem rxQ252 {PX : State → Prop} {Dg : va_G} {A : Nat → Prop} {ad xa : Nat → Nat} {l : Launch} {X : (Nat → Int → Int) → Prop} (hPX : rx_PXOK rxNW A PX) (hsl : ∀ s : State, PX s → ∀ o idx n : Nat, rxSl o idx = some n → ∃ tx : String, vk_R (rxNm o) idx tx (ad n) s)
    (hX : ∀ S S_p : Nat → Int → Int, X S → bx_same rxL (bx_mdl rxC252.2.2.1) S S_p → X S_p)
    (ih : ∀ (j2 : Nat) (ct2 : bx_Ct) (M2 : rx_Mt), ct2 ∈ rxCnE j2 → ct2.2.2.2.1 + 1 ≤ rxC252.2.2.2.1 → rxT.2.2.2.2.2 j2 = some M2 → bx_Con rxG rxNW rxAO PX Dg rxL X vwCl A ad l M2 ct2) : bx_ConP rxG rxNW rxAO PX Dg rxL X vwCl A ad l rxM252 rxC252 rxP252 rxPS252 :=
  rxQof (xa := xa) (Cn := rxCnE) (f := 30000) (j := 252) (tab := rxY252) (us := rxU252) hPX hsl hX ih rfl rxYc252 rxI252 rxm252
    (fun S0 ws r I0 I ht0 ht as he he1 hX0 hI0 hP hs ha => by
      have e := he.symm.trans (show bx_ent0 rxNP rxC252.1 bx_I0 [] = some ([(0, 0), (0, 0), (0, 0), (0, 0), (0, 0), (0, 0), (0, 0), (0, 0)], [], [.inr (3, (0, 480))]) from rfl)
      cases e
      subst ha
      have h0 : r 0 = 0 := hs.1
      show rxI252_0 S0 _ S0
      refine ⟨rfl, ?_⟩
      simp only [List.map_cons, List.map_nil, bx_xv_ok h0]
      rfl)
    (fun S0 ws hP => fun i q hq hus => absurd (show false = true from hus) Bool.false_ne_true) (fun S0 ws hP => rxgC252 hP) (fun S0 ws hP => rxgE252 hP)
end
section
set_option maxHeartbeats 1000000 in
theorem rzQ253 {PX : State → Prop} {Dg : va_G} {A : Nat → Prop} {ad : Nat → Nat} {l : Launch} (hPX : rx_PXOK rxNW A PX) (hsl : ∀ s : State, PX s → ∀ o idx n : Nat, rxSl o idx = some n → ∃ tx : String, vk_R (rxNm o) idx tx (ad n) s) (ih : ∀ (j : Nat) (ct : bx_Ct) (M : rx_Mt), ct ∈ rxCn j → rxT.2.2.2.2.2 j = some M → bx_Con rxG rxNW rxAO PX Dg rxL rxX vwCl A ad l M ct) : bx_ConP rxG rxNW rxAO PX Dg rxL rxX vwCl A ad l rxM253 rxC253 (fun S0 _ => rkDp S0 ∧ rkPl S0) rxPSBGX := by
  have q110 := rxQ110 (PX := PX) (Dg := Dg) (A := A) (ad := ad) (xa := fun n => n) (l := l) (X := rxX) hPX hsl (fun _ _ h hm => rxX_of (by decide +kernel) h hm) (fun _ _ _ h => absurd h List.not_mem_nil)
  have qCMB := rxQCMB (PX := PX) (Dg := Dg) (A := A) (ad := ad) (xa := fun n => n) (l := l) (X := rxX) hPX hsl (fun _ _ h hm => rxX_of (by decide +kernel) h hm) (fun _ _ _ h => absurd h List.not_mem_nil)
  have qTEL := rxQTEL (PX := PX) (Dg := Dg) (A := A) (ad := ad) (xa := fun n => n) (l := l) (X := rxX) hPX hsl (fun _ _ h hm => rxX_of (by decide +kernel) h hm) (fun _ _ _ h => absurd h List.not_mem_nil) qCMB
  have qISD := rxQISD (PX := PX) (Dg := Dg) (A := A) (ad := ad) (xa := fun n => n) (l := l) (X := rxX) hPX hsl (fun _ _ h hm => rxX_of (by decide +kernel) h hm) (fun _ _ _ h => absurd h List.not_mem_nil) qTEL
  have qHCD := rxQHCD (PX := PX) (Dg := Dg) (A := A) (ad := ad) (xa := fun n => n) (l := l) (X := rxX) hPX hsl (fun _ _ h hm => rxX_of (by decide +kernel) h hm) (fun _ _ _ h => absurd h List.not_mem_nil) qTEL
  have qHED := rxQHED (PX := PX) (Dg := Dg) (A := A) (ad := ad) (xa := fun n => n) (l := l) (X := rxX) hPX hsl (fun _ _ h hm => rxX_of (by decide +kernel) h hm) (fun _ _ _ h => absurd h List.not_mem_nil) qISD qHCD
  have qMBD := rxQMBD (PX := PX) (Dg := Dg) (A := A) (ad := ad) (xa := fun n => n) (l := l) (X := rxX) hPX hsl (fun _ _ h hm => rxX_of (by decide +kernel) h hm) (fun _ _ _ h => absurd h List.not_mem_nil) qHED
  have qFLW := rxQFLW (PX := PX) (Dg := Dg) (A := A) (ad := ad) (xa := fun n => n) (l := l) (X := rxX) hPX hsl (fun _ _ h hm => rxX_of (by decide +kernel) h hm) (fun _ _ _ h => absurd h List.not_mem_nil)
  have qFLN := rxQFLN (PX := PX) (Dg := Dg) (A := A) (ad := ad) (xa := fun n => n) (l := l) (X := rxX) hPX hsl (fun _ _ h hm => rxX_of (by decide +kernel) h hm) (fun _ _ _ h => absurd h List.not_mem_nil)
  have qCLR := rxQCLR (PX := PX) (Dg := Dg) (A := A) (ad := ad) (xa := fun n => n) (l := l) (X := rxX) hPX hsl (fun _ _ h hm => rxX_of (by decide +kernel) h hm) (fun _ _ _ h => absurd h List.not_mem_nil) qFLW qFLN
  have qADX := rxQADX (PX := PX) (Dg := Dg) (A := A) (ad := ad) (xa := fun n => n) (l := l) (X := rxX) hPX hsl (fun _ _ h hm => rxX_of (by decide +kernel) h hm) (fun _ _ _ h => absurd h List.not_mem_nil) qCLR
  have qSOV := rxQSOV (PX := PX) (Dg := Dg) (A := A) (ad := ad) (xa := fun n => n) (l := l) (X := rxX) hPX hsl (fun _ _ h hm => rxX_of (by decide +kernel) h hm) (fun _ _ _ h => absurd h List.not_mem_nil)
  have qSOP := rxQSOP (PX := PX) (Dg := Dg) (A := A) (ad := ad) (xa := fun n => n) (l := l) (X := rxX) hPX hsl (fun _ _ h hm => rxX_of (by decide +kernel) h hm) (fun _ _ _ h => absurd h List.not_mem_nil)
  have qSCZ := rxQSCZ (PX := PX) (Dg := Dg) (A := A) (ad := ad) (xa := fun n => n) (l := l) (X := rxX) hPX hsl (fun _ _ h hm => rxX_of (by decide +kernel) h hm) (fun _ _ _ h => absurd h List.not_mem_nil)
  have qBGX := rxQBGX (PX := PX) (Dg := Dg) (A := A) (ad := ad) (xa := fun n => n) (l := l) (X := rxX) hPX hsl (fun _ _ h hm => rxX_of (by decide +kernel) h hm) (fun _ _ _ h => absurd h List.not_mem_nil) q110 qMBD qADX qSOV qSOP qSCZ
  exact fun S0 ws h1 h2 h3 hp => qBGX S0 ws h1 h2 h3 hp
set_option maxHeartbeats 1000000 in
theorem rzQ159 {PX : State → Prop} {Dg : va_G} {A : Nat → Prop} {ad : Nat → Nat} {l : Launch} (hPX : rx_PXOK rxNW A PX) (hsl : ∀ s : State, PX s → ∀ o idx n : Nat, rxSl o idx = some n → ∃ tx : String, vk_R (rxNm o) idx tx (ad n) s) (ih : ∀ (j : Nat) (ct : bx_Ct) (M : rx_Mt), ct ∈ rxCn j → rxT.2.2.2.2.2 j = some M → bx_Con rxG rxNW rxAO PX Dg rxL rxX vwCl A ad l M ct) : bx_ConP rxG rxNW rxAO PX Dg rxL rxX vwCl A ad l rxM159 rxC159 (fun S0 _ => (rkDp S0 ∧ ∀ i : Int, 0 ≤ i → i < S0 1 5 → S0 10 i < S0 5 0) ∧ rkPl S0 ∧ ∀ vs : Int, 0 ≤ vs → vs < S0 1 5 → ∃ P : Int → Int, rjdRw S0 (6 + vs) P) rxPSLNX := by
  have q110 := rxQ110 (PX := PX) (Dg := Dg) (A := A) (ad := ad) (xa := fun n => n) (l := l) (X := rxX) hPX hsl (fun _ _ h hm => rxX_of (by decide +kernel) h hm) (fun _ _ _ h => absurd h List.not_mem_nil)
  have qCMB := rxQCMB (PX := PX) (Dg := Dg) (A := A) (ad := ad) (xa := fun n => n) (l := l) (X := rxX) hPX hsl (fun _ _ h hm => rxX_of (by decide +kernel) h hm) (fun _ _ _ h => absurd h List.not_mem_nil)
  have qTEL := rxQTEL (PX := PX) (Dg := Dg) (A := A) (ad := ad) (xa := fun n => n) (l := l) (X := rxX) hPX hsl (fun _ _ h hm => rxX_of (by decide +kernel) h hm) (fun _ _ _ h => absurd h List.not_mem_nil) qCMB
  have qISD := rxQISD (PX := PX) (Dg := Dg) (A := A) (ad := ad) (xa := fun n => n) (l := l) (X := rxX) hPX hsl (fun _ _ h hm => rxX_of (by decide +kernel) h hm) (fun _ _ _ h => absurd h List.not_mem_nil) qTEL
  have qHCD := rxQHCD (PX := PX) (Dg := Dg) (A := A) (ad := ad) (xa := fun n => n) (l := l) (X := rxX) hPX hsl (fun _ _ h hm => rxX_of (by decide +kernel) h hm) (fun _ _ _ h => absurd h List.not_mem_nil) qTEL
  have qHED := rxQHED (PX := PX) (Dg := Dg) (A := A) (ad := ad) (xa := fun n => n) (l := l) (X := rxX) hPX hsl (fun _ _ h hm => rxX_of (by decide +kernel) h hm) (fun _ _ _ h => absurd h List.not_mem_nil) qISD qHCD
  have qITD := rxQITD (PX := PX) (Dg := Dg) (A := A) (ad := ad) (xa := fun n => n) (l := l) (X := rxX) hPX hsl (fun _ _ h hm => rxX_of (by decide +kernel) h hm) (fun _ _ _ h => absurd h List.not_mem_nil) qHED
  have qMLD := rxQMLD (PX := PX) (Dg := Dg) (A := A) (ad := ad) (xa := fun n => n) (l := l) (X := rxX) hPX hsl (fun _ _ h hm => rxX_of (by decide +kernel) h hm) (fun _ _ _ h => absurd h List.not_mem_nil) qITD
  have qFLW := rxQFLW (PX := PX) (Dg := Dg) (A := A) (ad := ad) (xa := fun n => n) (l := l) (X := rxX) hPX hsl (fun _ _ h hm => rxX_of (by decide +kernel) h hm) (fun _ _ _ h => absurd h List.not_mem_nil)
  have qFLN := rxQFLN (PX := PX) (Dg := Dg) (A := A) (ad := ad) (xa := fun n => n) (l := l) (X := rxX) hPX hsl (fun _ _ h hm => rxX_of (by decide +kernel) h hm) (fun _ _ _ h => absurd h List.not_mem_nil)
  have qCLR := rxQCLR (PX := PX) (Dg := Dg) (A := A) (ad := ad) (xa := fun n => n) (l := l) (X := rxX) hPX hsl (fun _ _ h hm => rxX_of (by decide +kernel) h hm) (fun _ _ _ h => absurd h List.not_mem_nil) qFLW qFLN
  have qADX := rxQADX (PX := PX) (Dg := Dg) (A := A) (ad := ad) (xa := fun n => n) (l := l) (X := rxX) hPX hsl (fun _ _ h hm => rxX_of (by decide +kernel) h hm) (fun _ _ _ h => absurd h List.not_mem_nil) qCLR
  have qWAT := rxQWAT (PX := PX) (Dg := Dg) (A := A) (ad := ad) (xa := fun n => n) (l := l) (X := rxX) hPX hsl (fun _ _ h hm => rxX_of (by decide +kernel) h hm) (fun _ _ _ h => absurd h List.not_mem_nil)
  have qLNX := rxQLNX (PX := PX) (Dg := Dg) (A := A) (ad := ad) (xa := fun n => n) (l := l) (X := rxX) hPX hsl (fun _ _ h hm => rxX_of (by decide +kernel) h hm) (fun _ _ _ h => absurd h List.not_mem_nil) q110 qMLD qADX qWAT
  exact fun S0 ws h1 h2 h3 hp => qLNX S0 ws h1 h2 h3 hp
set_option maxHeartbeats 1000000 in
theorem rzQ161 {PX : State → Prop} {Dg : va_G} {A : Nat → Prop} {ad : Nat → Nat} {l : Launch} (hPX : rx_PXOK rxNW A PX) (hsl : ∀ s : State, PX s → ∀ o idx n : Nat, rxSl o idx = some n → ∃ tx : String, vk_R (rxNm o) idx tx (ad n) s) (ih : ∀ (j : Nat) (ct : bx_Ct) (M : rx_Mt), ct ∈ rxCn j → rxT.2.2.2.2.2 j = some M → bx_Con rxG rxNW rxAO PX Dg rxL rxX vwCl A ad l M ct) : bx_ConP rxG rxNW rxAO PX Dg rxL rxX vwCl A ad l rxM161 rxC161 (fun _ _ => True) rxPS161 := by
  have q110 := rxQ110 (PX := PX) (Dg := Dg) (A := A) (ad := ad) (xa := fun n => n) (l := l) (X := rxX) hPX hsl (fun _ _ h hm => rxX_of (by decide +kernel) h hm) (fun _ _ _ h => absurd h List.not_mem_nil)
  have q161 := rxQ161 (PX := PX) (Dg := Dg) (A := A) (ad := ad) (xa := fun n => n) (l := l) (X := rxX) hPX hsl (fun _ _ h hm => rxX_of (by decide +kernel) h hm) (fun _ _ _ h => absurd h List.not_mem_nil) q110
  exact fun S0 ws h1 h2 h3 _ => q161 S0 ws h1 h2 h3 trivial
end
section
set_option maxHeartbeats 1000000 in
theorem rzQ158 {PX : State → Prop} {Dg : va_G} {A : Nat → Prop} {ad : Nat → Nat} {l : Launch} (hPX : rx_PXOK rxNW A PX) (hsl : ∀ s : State, PX s → ∀ o idx n : Nat, rxSl o idx = some n → ∃ tx : String, vk_R (rxNm o) idx tx (ad n) s) : bx_ConP rxG rxNW rxAO PX Dg rxL rxX vwCl A ad l rxM158 rxC158 (fun S0 _ => rqLp (S0 482)) rxPSBGRX := by
  have qRKN := rxQRKN (PX := PX) (Dg := Dg) (A := A) (ad := ad) (xa := fun n => n) (l := l) (X := rxX) hPX hsl (fun _ _ h hm => rxX_of (by decide +kernel) h hm) (fun _ _ _ h => absurd h List.not_mem_nil)
  have qRAX := rxQRAX (PX := PX) (Dg := Dg) (A := A) (ad := ad) (xa := fun n => n) (l := l) (X := rxX) hPX hsl (fun _ _ h hm => rxX_of (by decide +kernel) h hm) (fun _ _ _ h => absurd h List.not_mem_nil) qRKN
  have qISX := rxQISX (PX := PX) (Dg := Dg) (A := A) (ad := ad) (xa := fun n => n) (l := l) (X := rxX) hPX hsl (fun _ _ h hm => rxX_of (by decide +kernel) h hm) (fun _ _ _ h => absurd h List.not_mem_nil) qRAX
  have qTEX := rxQTEX (PX := PX) (Dg := Dg) (A := A) (ad := ad) (xa := fun n => n) (l := l) (X := rxX) hPX hsl (fun _ _ h hm => rxX_of (by decide +kernel) h hm) (fun _ _ _ h => absurd h List.not_mem_nil) qISX
  have qBAX := rxQBAX (PX := PX) (Dg := Dg) (A := A) (ad := ad) (xa := fun n => n) (l := l) (X := rxX) hPX hsl (fun _ _ h hm => rxX_of (by decide +kernel) h hm) (fun _ _ _ h => absurd h List.not_mem_nil) qTEX
  have qBGRX := rxQBGRX (PX := PX) (Dg := Dg) (A := A) (ad := ad) (xa := fun n => n) (l := l) (X := rxX) hPX hsl (fun _ _ h hm => rxX_of (by decide +kernel) h hm) (fun _ _ _ h => absurd h List.not_mem_nil) qBAX
  exact fun S0 ws h1 h2 h3 hp => qBGRX S0 ws h1 h2 h3 ⟨h1, hp⟩
set_option maxHeartbeats 1000000 in
theorem rzQ160 {PX : State → Prop} {Dg : va_G} {A : Nat → Prop} {ad : Nat → Nat} {l : Launch} (hPX : rx_PXOK rxNW A PX) (hsl : ∀ s : State, PX s → ∀ o idx n : Nat, rxSl o idx = some n → ∃ tx : String, vk_R (rxNm o) idx tx (ad n) s) : bx_ConP rxG rxNW rxAO PX Dg rxL rxX vwCl A ad l rxM160 rxC160 (fun S0 _ => rqLp (S0 482)) rxPSLNY := by
  have qRKN := rxQRKN (PX := PX) (Dg := Dg) (A := A) (ad := ad) (xa := fun n => n) (l := l) (X := rxX) hPX hsl (fun _ _ h hm => rxX_of (by decide +kernel) h hm) (fun _ _ _ h => absurd h List.not_mem_nil)
  have qRAX := rxQRAX (PX := PX) (Dg := Dg) (A := A) (ad := ad) (xa := fun n => n) (l := l) (X := rxX) hPX hsl (fun _ _ h hm => rxX_of (by decide +kernel) h hm) (fun _ _ _ h => absurd h List.not_mem_nil) qRKN
  have qISX := rxQISX (PX := PX) (Dg := Dg) (A := A) (ad := ad) (xa := fun n => n) (l := l) (X := rxX) hPX hsl (fun _ _ h hm => rxX_of (by decide +kernel) h hm) (fun _ _ _ h => absurd h List.not_mem_nil) qRAX
  have qTEX := rxQTEX (PX := PX) (Dg := Dg) (A := A) (ad := ad) (xa := fun n => n) (l := l) (X := rxX) hPX hsl (fun _ _ h hm => rxX_of (by decide +kernel) h hm) (fun _ _ _ h => absurd h List.not_mem_nil) qISX
  have qBAX := rxQBAX (PX := PX) (Dg := Dg) (A := A) (ad := ad) (xa := fun n => n) (l := l) (X := rxX) hPX hsl (fun _ _ h hm => rxX_of (by decide +kernel) h hm) (fun _ _ _ h => absurd h List.not_mem_nil) qTEX
  have qHOX := rxQHOX (PX := PX) (Dg := Dg) (A := A) (ad := ad) (xa := fun n => n) (l := l) (X := rxX) hPX hsl (fun _ _ h hm => rxX_of (by decide +kernel) h hm) (fun _ _ _ h => absurd h List.not_mem_nil) qTEX
  have qNOK := rxQNOK (PX := PX) (Dg := Dg) (A := A) (ad := ad) (xa := fun n => n) (l := l) (X := rxX) hPX hsl (fun _ _ h hm => rxX_of (by decide +kernel) h hm) (fun _ _ _ h => absurd h List.not_mem_nil)
  have qLNY := rxQLNY (PX := PX) (Dg := Dg) (A := A) (ad := ad) (xa := fun n => n) (l := l) (X := rxX) hPX hsl (fun _ _ h hm => rxX_of (by decide +kernel) h hm) (fun _ _ _ h => absurd h List.not_mem_nil) qBAX qHOX qNOK
  exact fun S0 ws h1 h2 h3 hp => qLNY S0 ws h1 h2 h3 ⟨h1, hp⟩
set_option maxHeartbeats 1000000 in
theorem rzQ162 {PX : State → Prop} {Dg : va_G} {A : Nat → Prop} {ad : Nat → Nat} {l : Launch} (hPX : rx_PXOK rxNW A PX) (hsl : ∀ s : State, PX s → ∀ o idx n : Nat, rxSl o idx = some n → ∃ tx : String, vk_R (rxNm o) idx tx (ad n) s) : bx_ConP rxG rxNW rxAO PX Dg rxL rxX vwCl A ad l rxM162 rxC162 (fun _ _ => True) rxPS162 := by
  have q162 := rxQ162 (PX := PX) (Dg := Dg) (A := A) (ad := ad) (xa := fun n => n) (l := l) (X := rxX) hPX hsl (fun _ _ h hm => rxX_of (by decide +kernel) h hm) (fun _ _ _ h => absurd h List.not_mem_nil)
  exact fun S0 ws h1 h2 h3 _ => q162 S0 ws h1 h2 h3 trivial
end
section
set_option maxHeartbeats 1000000 in
theorem rzQ179 {PX : State → Prop} {Dg : va_G} {A : Nat → Prop} {ad : Nat → Nat} {l : Launch} (hPX : rx_PXOK rxNW A PX) (hsl : ∀ s : State, PX s → ∀ o idx n : Nat, rxSl o idx = some n → ∃ tx : String, vk_R (rxNm o) idx tx (ad n) s) : bx_ConP rxG rxNW rxAO PX Dg rxL rxX vwCl A ad l rxM179 rxC179 (fun _ _ => True) rxPSMNR := by
  have qFTX := rxQFTX (PX := PX) (Dg := Dg) (A := A) (ad := ad) (xa := fun n => n) (l := l) (X := rxX) hPX hsl (fun _ _ h hm => rxX_of (by decide +kernel) h hm) (fun _ _ _ h => absurd h List.not_mem_nil)
  have qMNR := rxQMNR (PX := PX) (Dg := Dg) (A := A) (ad := ad) (xa := fun n => n) (l := l) (X := rxX) hPX hsl (fun _ _ h hm => rxX_of (by decide +kernel) h hm) (fun _ _ _ h => absurd h List.not_mem_nil) qFTX
  exact fun S0 ws h1 h2 h3 _ => qMNR S0 ws h1 h2 h3 trivial
set_option maxHeartbeats 1000000 in
theorem rzQ249 {PX : State → Prop} {Dg : va_G} {A : Nat → Prop} {ad : Nat → Nat} {l : Launch} (hPX : rx_PXOK rxNW A PX) (hsl : ∀ s : State, PX s → ∀ o idx n : Nat, rxSl o idx = some n → ∃ tx : String, vk_R (rxNm o) idx tx (ad n) s) (ih : ∀ (j : Nat) (ct : bx_Ct) (M : rx_Mt), ct ∈ rxCn j → rxT.2.2.2.2.2 j = some M → bx_Con rxG rxNW rxAO PX Dg rxL rxX vwCl A ad l M ct) : bx_ConP rxG rxNW rxAO PX Dg rxL rxX vwCl A ad l rxM249 rxC249 (fun _ _ => True) rxPSCUD := by
  have q110 := rxQ110 (PX := PX) (Dg := Dg) (A := A) (ad := ad) (xa := fun n => n) (l := l) (X := rxX) hPX hsl (fun _ _ h hm => rxX_of (by decide +kernel) h hm) (fun _ _ _ h => absurd h List.not_mem_nil)
  have qCUD := rxQCUD (PX := PX) (Dg := Dg) (A := A) (ad := ad) (xa := fun n => n) (l := l) (X := rxX) hPX hsl (fun _ _ h hm => rxX_of (by decide +kernel) h hm) (fun _ _ _ h => absurd h List.not_mem_nil) q110
  exact fun S0 ws h1 h2 h3 _ => qCUD S0 ws h1 h2 h3 trivial
set_option maxHeartbeats 1000000 in
theorem rzQ250 {PX : State → Prop} {Dg : va_G} {A : Nat → Prop} {ad : Nat → Nat} {l : Launch} (hPX : rx_PXOK rxNW A PX) (hsl : ∀ s : State, PX s → ∀ o idx n : Nat, rxSl o idx = some n → ∃ tx : String, vk_R (rxNm o) idx tx (ad n) s) : bx_ConP rxG rxNW rxAO PX Dg rxL rxX vwCl A ad l rxM250 rxC250 (fun _ _ => True) rxPSCURR := by
  have qCURR := rxQCURR (PX := PX) (Dg := Dg) (A := A) (ad := ad) (xa := fun n => n) (l := l) (X := rxX) hPX hsl (fun _ _ h hm => rxX_of (by decide +kernel) h hm) (fun _ _ _ h => absurd h List.not_mem_nil)
  exact fun S0 ws h1 h2 h3 _ => qCURR S0 ws h1 h2 h3 trivial
set_option maxHeartbeats 1000000 in
theorem rzQ251 {PX : State → Prop} {Dg : va_G} {A : Nat → Prop} {ad : Nat → Nat} {l : Launch} (hPX : rx_PXOK rxNW A PX) (hsl : ∀ s : State, PX s → ∀ o idx n : Nat, rxSl o idx = some n → ∃ tx : String, vk_R (rxNm o) idx tx (ad n) s) (ih : ∀ (j : Nat) (ct : bx_Ct) (M : rx_Mt), ct ∈ rxCn j → rxT.2.2.2.2.2 j = some M → bx_Con rxG rxNW rxAO PX Dg rxL rxX vwCl A ad l M ct) : bx_ConP rxG rxNW rxAO PX Dg rxL rxX vwCl A ad l rxM251 rxC251 (fun _ _ => True) rxPS251 := by
  have q251 := rxQ251 (PX := PX) (Dg := Dg) (A := A) (ad := ad) (xa := fun n => n) (l := l) (X := rxX) hPX hsl (fun _ _ h hm => rxX_of (by decide +kernel) h hm) (fun _ _ _ h => absurd h List.not_mem_nil)
  exact fun S0 ws h1 h2 h3 _ => q251 S0 ws h1 h2 h3 trivial
set_option maxHeartbeats 1000000 in
theorem rzQ252 {PX : State → Prop} {Dg : va_G} {A : Nat → Prop} {ad : Nat → Nat} {l : Launch} (hPX : rx_PXOK rxNW A PX) (hsl : ∀ s : State, PX s → ∀ o idx n : Nat, rxSl o idx = some n → ∃ tx : String, vk_R (rxNm o) idx tx (ad n) s) : bx_ConP rxG rxNW rxAO PX Dg rxL rxX vwCl A ad l rxM252 rxC252 (fun _ _ => True) rxPS252 := by
  have q252 := rxQ252 (PX := PX) (Dg := Dg) (A := A) (ad := ad) (xa := fun n => n) (l := l) (X := rxX) hPX hsl (fun _ _ h hm => rxX_of (by decide +kernel) h hm) (fun _ _ _ h => absurd h List.not_mem_nil)
  exact fun S0 ws h1 h2 h3 _ => q252 S0 ws h1 h2 h3 trivial
end
