section
noncomputable def rxCISD : bx_Ct := ([(3, (2, 7, 0)), (0, (0, 0, 11)), (3, (1, 22, 0))], some (0, (0, 0, 1)), [(1023, 0)], 2, [])
noncomputable def rxIISD_0 (S0 : Nat → Int → Int) (ws : List Int) (S : Nat → Int → Int) (pg cl : Int) : Prop := S = S0 ∧ ws = [pg, cl, 22]
noncomputable def rxmISD_0 (S0 : Nat → Int → Int) (ws : List Int) (S : Nat → Int → Int) (pg cl : Int) : Nat := 100
noncomputable def rxzISD_0 : rx_Z := ([(0, 0), (0, 0), (0, 0), (0, 0), (0, 0), (0, 0), (0, 0), (0, 0), (0, 1522), (0, 11)], [], [(((8, 0), 1000007), .inl none)], 0, 0, 0, [(0, .inr (3, (8, 0))), (1, .inr (0, (9, 0))), (2, .inr (3, (0, 22)))], [])
noncomputable def rxIISD_1 (S0 : Nat → Int → Int) (ws : List Int) (S : Nat → Int → Int) (pg stt : Int) : Prop := S = S0 ∧ ∃ cl : Int, ws = [pg, cl, 22] ∧ stt = S0 (pg + 9).toNat cl
noncomputable def rxmISD_1 (S0 : Nat → Int → Int) (ws : List Int) (S : Nat → Int → Int) (pg stt : Int) : Nat := 50
noncomputable def rxzISD_1 : rx_Z := ([(0, 0), (0, 0), (0, 0), (0, 0), (0, 0), (0, 0), (0, 0), (0, 0), (0, 1522), (0, 400)], [], [(((8, 0), 1000007), .inl none)], 0, 0, 17, [(0, .inr (3, (8, 0)))], [.inr (3, (0, 22)), .inr (0, (9, 0)), .inr (3, (8, 0))])
noncomputable def rxIISD_2 (S0 : Nat → Int → Int) (ws : List Int) (S : Nat → Int → Int) (pg stt r : Int) : Prop := ∃ cl : Int, ws = [pg, cl, 22] ∧ ∀ (q : rkQ) (vs : Int → Int), tqQ S0 vs pg cl q → ∃ d : rkC, q.2.2.2.2.2 = some d ∧ ((r = (-4000000000000000000) ∧ rkEv d vs 0 [] none) ∨ ((r = 0 ∨ r = 1) ∧ rkEv d vs 0 [] (some [r])))
noncomputable def rxmISD_2 (S0 : Nat → Int → Int) (ws : List Int) (S : Nat → Int → Int) (pg stt r : Int) : Nat := 40
noncomputable def rxzISD_2 : rx_Z := ([(0, 0), (0, 0), (0, 0), (0, 0), (0, 0), (0, 0), (0, 0), (0, 0), (0, 1522), (0, 400), ((-9223372036854775808), 9223372036854775807)], [], [(((8, 0), 1000007), .inl none)], 0, 0, 20, [(0, .inr (3, (8, 0)))], [.inr (1, (10, 0))])
noncomputable def rxoISD_0_0 : bx_HO := (([(0, 0), (0, 0), (0, 0), (0, 0), (0, 0), (0, 0), (0, 0), (0, 0), (0, 1522), (0, 11), (0, 1522), (0, 400), ((-1), 400)], [], [(((0, 0), 1851192626986356797424367893248739914126558548369245150778490970000000), .inr (0, (12, 0))), (((0, 0), 1851192626986356797424367893248739914126558548369245150778490970000000), .inr (0, (11, 0))), (((0, 0), 1851192626986356799431407398244775400849232659564395713091600456000000), .inr (3, (10, 0))), (((8, 0), 10), .inr (3, (10, 0))), (((10, 0), 1000014), .inl none), (((8, 0), 1000007), .inl none)], 0, 0, 17, [(0, .inr (3, (8, 0))), (1, .inr (0, (9, 0))), (2, .inr (3, (0, 22)))], [.inr (3, (0, 22)), .inr (0, (12, 0)), .inr (3, (8, 0))]), [(12, 0, 400)], [], [(0, 0), (0, 0), (0, 0), (0, 0), (0, 0), (0, 0), (0, 0), (0, 0), (8, 0), (12, 0)], 1)
noncomputable def rxeISD_0_0 : rx_End × List (Nat × Int × Int) := (([(0, 0), (0, 0), (0, 0), (0, 0), (0, 0), (0, 0), (0, 0), (0, 0), (0, 1522), (0, 11), (0, 1522), ((-1), (-1))], [], [(((0, 0), 1851192626986356797424367893248739914126558548369245150778490970000000), .inr (0, (11, 0))), (((0, 0), 1851192626986356799431407398244775400849232659564395713091600456000000), .inr (3, (10, 0))), (((8, 0), 10), .inr (3, (10, 0))), (((10, 0), 1000014), .inl none), (((8, 0), 1000007), .inl none)], some (.inr (0, (0, 1)))), [])
noncomputable def rxeISD_2_0 : rx_End × List (Nat × Int × Int) := (([(0, 0), (0, 0), (0, 0), (0, 0), (0, 0), (0, 0), (0, 0), (0, 0), (0, 1522), (0, 400), (1, 1)], [], [(((8, 0), 1000007), .inl none)], some (.inr (0, (0, 1)))), [])
noncomputable def rxeISD_2_1 : rx_End × List (Nat × Int × Int) := (([(0, 0), (0, 0), (0, 0), (0, 0), (0, 0), (0, 0), (0, 0), (0, 0), (0, 1522), (0, 400), ((-9223372036854775808), 9223372036854775807)], [(3, (10, 0), (0, 1))], [(((8, 0), 1000007), .inl none)], some (.inr (0, (0, 0)))), [])
noncomputable def rxYISD : List bx_HE := [(rxzISD_0, [rxoISD_0_0], [rxeISD_0_0]), (rxzISD_1, [], []), (rxzISD_2, [], [rxeISD_2_0, rxeISD_2_1])]
noncomputable def rxUISD (q : bx_HE) : Bool := Nat.beq (rx_zpc q.1) 17
noncomputable def rxYBISD : bx_B := (rxV, rxNP, rxDmf, bx_mdH rxCISD.2.2.1)
set_option maxRecDepth 100000 in
theorem rxYcISD : bx_chkH rxYBISD rxM101 rxCISD rxYISD (rxUISD, fun cut z => rx_ex2 (rxCT rxYBISD rxCnE) cut 30000 rxCISD.2.2.2.1 101 z) = true := by decide +kernel
noncomputable def rxIISD (S0 : Nat → Int → Int) (ws : List Int) (i : Nat) : bx_SP := fun S r => match i with | 0 => rxIISD_0 S0 ws S (r 8) (r 9) | 1 => rxIISD_1 S0 ws S (r 8) (r 9) | 2 => rxIISD_2 S0 ws S (r 8) (r 9) (r 10) | _ => False
noncomputable def rxmISD (S0 : Nat → Int → Int) (ws : List Int) (i : Nat) (S : Nat → Int → Int) (r : Nat → Int) : Nat := match i with | 0 => rxmISD_0 S0 ws S (r 8) (r 9) | 1 => rxmISD_1 S0 ws S (r 8) (r 9) | 2 => rxmISD_2 S0 ws S (r 8) (r 9) (r 10) | _ => 0
noncomputable def rxPISD (S0 : Nat → Int → Int) (ws : List Int) : Prop := ∃ (pg cl : Int) (q : rkQ) (vs : Int → Int), ws = [pg, cl, 22] ∧ tqQ S0 vs pg cl q
noncomputable def rxPSISD (S0 : Nat → Int → Int) (ws : List Int) (S : Nat → Int → Int) (w : Option Int) : Prop := ∃ pg cl : Int, ws = [pg, cl, 22] ∧ ∀ (q : rkQ) (vs : Int → Int), tqQ S0 vs pg cl q → (w = some 1 ∧ rkTru vs q.2.2.2.2.2) ∨ (w = some 0 ∧ rkFal vs q.2.2.2.2.2)
theorem rxkISD_1 {S0 : Nat → Int → Int} {ws : List Int} {S : Nat → Int → Int} {pg stt : Int} (hP : rxPISD S0 ws) (hin : bx_same rxL (bx_mdl rxCISD.2.2.1) S0 S) (I0 : bx_Inv rxL S) (hinv : rxIISD_1 S0 ws S pg stt) (l8 : 0 ≤ pg) (u8 : pg ≤ 1522) (l9 : 0 ≤ stt) (u9 : stt ≤ 400) : rxPTEL S [pg, stt, 22] ∧ ∀ (S_p : Nat → Int → Int) (r : Int), (-9223372036854775808) ≤ r → r ≤ 9223372036854775807 → rxPSTEL S [pg, stt, 22] S_p (some r) → bx_Inv rxL S_p → bx_same rxL (bx_mdl rxCTEL.2.2.1) S S_p → rxIISD_2 S0 ws S_p pg stt r ∧ rxmISD_2 S0 ws S_p pg stt r < rxmISD_1 S0 ws S pg stt := by
  obtain ⟨hS, cl, hw, hst⟩ := hinv
  obtain ⟨pg_, cl_, q_, vs_, hw2, hQ⟩ := hP
  have w0 := hw.symm.trans hw2
  have w1 : pg = pg_ := Option.some.inj (congrArg (fun l => l[0]?) w0)
  have w2 : cl = cl_ := Option.some.inj (congrArg (fun l => l[1]?) w0)
  subst w1
  subst w2
  subst hS
  obtain ⟨-, -, -, -, -, -, x9⟩ := tqQ_x hQ
  rw [← hst] at x9
  refine ⟨?_, fun S_p r _ _ hq _ hsm => ⟨⟨cl, hw, fun q vs hqq => ?_⟩, by unfold rxmISD_1 rxmISD_2; omega⟩⟩
  · rcases x9 with ⟨y, z⟩ | ⟨d, y, y0, y1⟩
    · exfalso
      omega
    · exact ⟨pg, stt, d, true, _, rfl, y1⟩
  · obtain ⟨-, -, -, -, -, -, y9⟩ := tqQ_x hqq
    rw [← hst] at y9
    rcases y9 with ⟨y, z⟩ | ⟨d, y, y0, y1⟩
    · exfalso
      omega
    · obtain ⟨p2, s2, hw3, h⟩ := hq
      have k1 : pg = p2 := Option.some.inj (congrArg (fun l : List Int => l[0]?) hw3)
      have k2 : stt = s2 := Option.some.inj (congrArg (fun l : List Int => l[1]?) hw3)
      subst k1
      subst k2
      refine ⟨d, y, ?_⟩
      rcases h d true vs y1 with ⟨a, b⟩ | ⟨x, a, b, c, e⟩
      · exact Or.inl ⟨Option.some.inj a, b⟩
      · have a := Option.some.inj a
        subst a
        exact Or.inr ⟨e rfl, b⟩
theorem rxsISD_1 {X : (Nat → Int → Int) → Prop} {S0 : Nat → Int → Int} {ws : List Int} (hP : rxPISD S0 ws) : rx_obK X S0 rxCISD.2.2.1 rxCTEL.2.2.1 (rxIISD S0 ws) (rxmISD S0 ws) 1 2 rxzISD_1 rxzISD_2 [.inr (3, (8, 0)), .inr (0, (9, 0)), .inr (3, (0, 22))] (some 10) rxPTEL rxPSTEL := by
  intro S r hinv hXS I0 hin hs_ hf_
  have b_ := bx_bds_sat hs_
  have f_ := bx_fcl_ok hs_.1 hf_
  obtain ⟨⟨l8, u8⟩, ⟨l9, u9⟩, -⟩ := b_
  have g := rxkISD_1 hP hin I0 hinv l8 u8 l9 u9
  have ea : List.map (bx_num r) [.inr (3, (8, 0)), .inr (0, (9, 0)), .inr (3, (0, 22))] = [(r 8), (r 9), 22] := by
    simp only [List.map_cons, List.map_nil, bx_xv_ok hs_.1]
    rfl
  rw [ea]
  refine ⟨g.1, fun S_p w r_p hPS hX_p I1 hsm hr hw hs_p => ?_⟩
  have hw := hw _ rfl
  subst hw
  have b_p := hs_p.2.2 10 _ _ rfl
  have g2 := g.2 S_p (r_p 10) b_p.1 b_p.2 hPS I1 hsm
  show rxIISD_2 S0 ws S_p (r_p 8) (r_p 9) (r_p 10) ∧ rxmISD_2 S0 ws S_p (r_p 8) (r_p 9) (r_p 10) < _
  rw [hr 8 (by decide), hr 9 (by decide)]
  exact g2
theorem rxcISD_0_0 {S0 : Nat → Int → Int} {ws : List Int} {S : Nat → Int → Int} {pg cl x10 x11 x12 : Int} (hP : rxPISD S0 ws) (hin : bx_same rxL (bx_mdl rxCISD.2.2.1) S0 S) (I0 : bx_Inv rxL S) (hinv : rxIISD_0 S0 ws S pg cl) (l8 : 0 ≤ pg) (u8 : pg ≤ 1522) (l9 : 0 ≤ cl) (u9 : cl ≤ 11) (l10 : 0 ≤ x10) (u10 : x10 ≤ 1522) (l11 : 0 ≤ x11) (u11 : x11 ≤ 400) (l12 : (-1) ≤ x12) (u12 : x12 ≤ 400) (e2 : S (pg).toNat 10 = x10) (e1 : S (x10).toNat cl = x11) (e0 : S (x10).toNat cl = x12) : ((0 ≤ x12 ∧ x12 ≤ 400) ∧ True) ∧ (True) ∧ rxIISD_1 S0 ws S pg x12 ∧ rxmISD_1 S0 ws S pg x12 < rxmISD_0 S0 ws S pg cl := by
  obtain ⟨rfl, hw⟩ := hinv
  obtain ⟨pg_, cl_, q_, vs_, hw2, hQ⟩ := hP
  have w0 := hw.symm.trans hw2
  have w1 : pg = pg_ := Option.some.inj (congrArg (fun l => l[0]?) w0)
  have w2 : cl = cl_ := Option.some.inj (congrArg (fun l => l[1]?) w0)
  subst w1
  subst w2
  obtain ⟨-, -, -, ⟨-, -, zp⟩, -, -, zq⟩ := tqQ_x hQ
  have ep : x10 = pg + 9 := e2.symm.trans zp
  have e1_ : S (pg + 9).toNat cl = x11 := by
    have g := e1
    rw [ep] at g
    exact g
  have e0_ : S (pg + 9).toNat cl = x12 := by
    have g := e0
    rw [ep] at g
    exact g
  exact ⟨⟨⟨by omega, by omega⟩, trivial⟩, trivial, ⟨rfl, cl, hw2, e0_.symm⟩, by unfold rxmISD_0 rxmISD_1; omega⟩
theorem rxgISD_0_0 {X : (Nat → Int → Int) → Prop} {S0 : Nat → Int → Int} {ws : List Int} (hP : rxPISD S0 ws) : bx_obC rxL X S0 rxCISD.2.2.1 (rxIISD S0 ws) (rxmISD S0 ws) 0 rxzISD_0 rxoISD_0_0 := by
  intro S S_p r r_p hinv hX hin hsm_ hseg
  obtain ⟨I0, I1, h0_, hr_, b_, f_, d_⟩ := bx_cl (evs := [(0, (10, 0), (9, 0), .inr (0, (12, 0))), (0, (10, 0), (9, 0), .inr (0, (11, 0))), (0, (8, 0), (0, 10), .inr (3, (10, 0)))]) (fvs := []) hseg (by decide +kernel) (by decide +kernel)
  have hinv : rxIISD_0 S0 ws S (r 8) (r 9) := hinv
  rw [← hr_ 8 (by decide), ← hr_ 9 (by decide)] at hinv
  obtain ⟨⟨l8, u8⟩, ⟨l9, u9⟩, ⟨l10, u10⟩, ⟨l11, u11⟩, ⟨l12, u12⟩, -⟩ := b_
  obtain ⟨e0, ⟨e1, ⟨e2, w_⟩⟩⟩ := d_
  subst w_
  have g := rxcISD_0_0 hP hin I0 hinv l8 u8 l9 u9 l10 u10 l11 u11 l12 u12 e2 e1 e0
  refine ⟨bx_narP_ok (l := [(12, 0, 400)]) g.1, bx_nfP_ok h0_ (fvs := []) (by decide +kernel) g.2.1, ?_, ?_⟩
  · show rxIISD_1 S0 ws S_p (bx_val [(0, 0), (0, 0), (0, 0), (0, 0), (0, 0), (0, 0), (0, 0), (0, 0), (8, 0), (12, 0)] r_p 8) (bx_val [(0, 0), (0, 0), (0, 0), (0, 0), (0, 0), (0, 0), (0, 0), (0, 0), (8, 0), (12, 0)] r_p 9)
    rw [bx_val_x (n := 8) (e := (8, 0)) h0_ rfl, bx_val_x (n := 9) (e := (12, 0)) h0_ rfl]
    exact g.2.2.1
  · show rxmISD_1 S0 ws S_p (bx_val [(0, 0), (0, 0), (0, 0), (0, 0), (0, 0), (0, 0), (0, 0), (0, 0), (8, 0), (12, 0)] r_p 8) (bx_val [(0, 0), (0, 0), (0, 0), (0, 0), (0, 0), (0, 0), (0, 0), (0, 0), (8, 0), (12, 0)] r_p 9) < rxmISD_0 S0 ws S_p (r 8) (r 9)
    rw [bx_val_x (n := 8) (e := (8, 0)) h0_ rfl, bx_val_x (n := 9) (e := (12, 0)) h0_ rfl, ← hr_ 8 (by decide), ← hr_ 9 (by decide)]
    exact g.2.2.2
theorem rxdISD_0_0 {S0 : Nat → Int → Int} {ws : List Int} {S : Nat → Int → Int} {pg cl x10 x11 : Int} (hP : rxPISD S0 ws) (hin : bx_same rxL (bx_mdl rxCISD.2.2.1) S0 S) (hin2 : bx_same rxL (bx_mdl rxCISD.2.2.1) S S) (I0 : bx_Inv rxL S) (I1 : bx_Inv rxL S) (hinv : rxIISD_0 S0 ws S pg cl) (l8 : 0 ≤ pg) (u8 : pg ≤ 1522) (l9 : 0 ≤ cl) (u9 : cl ≤ 11) (l10 : 0 ≤ x10) (u10 : x10 ≤ 1522) (l11 : (-1) ≤ x11) (u11 : x11 ≤ (-1)) (e1 : S (pg).toNat 10 = x10) (e0 : S (x10).toNat cl = x11) : (True) ∧ rxPSISD S0 ws S (some 1) := by
  obtain ⟨rfl, hw⟩ := hinv
  obtain ⟨pg_, cl_, q_, vs_, hw2, hQ⟩ := hP
  have w0 := hw.symm.trans hw2
  have w1 : pg = pg_ := Option.some.inj (congrArg (fun l => l[0]?) w0)
  have w2 : cl = cl_ := Option.some.inj (congrArg (fun l => l[1]?) w0)
  subst w1
  subst w2
  obtain ⟨-, -, -, ⟨-, -, zp⟩, -, -, zq⟩ := tqQ_x hQ
  have ep : x10 = pg + 9 := e1.symm.trans zp
  have e0_ : S (pg + 9).toNat cl = x11 := by
    have g := e0
    rw [ep] at g
    exact g
  refine ⟨trivial, pg, cl, hw2, fun q vs hq => Or.inl ⟨rfl, ?_⟩⟩
  obtain ⟨-, -, -, -, -, -, y9⟩ := tqQ_x hq
  rcases y9 with ⟨y, -⟩ | ⟨d, y, y0, -⟩
  · rw [y]
    trivial
  · exfalso
    omega
theorem rxfISD_0_0 {X : (Nat → Int → Int) → Prop} {S0 : Nat → Int → Int} {ws : List Int} (hP : rxPISD S0 ws) : bx_obE rxL X S0 rxCISD.2.2.1 (rxIISD S0 ws) (rxPSISD S0 ws) 0 rxzISD_0 rxeISD_0_0 := by
  intro S S_p r r_p hinv hX hin hsm_ hseg
  obtain ⟨I0, I1, h0_, hr_, b_, f_, d_⟩ := bx_cl (evs := [(0, (10, 0), (9, 0), .inr (0, (11, 0))), (0, (8, 0), (0, 10), .inr (3, (10, 0)))]) (fvs := []) hseg (by decide +kernel) (by decide +kernel)
  have hinv : rxIISD_0 S0 ws S (r 8) (r 9) := hinv
  rw [← hr_ 8 (by decide), ← hr_ 9 (by decide)] at hinv
  obtain ⟨⟨l8, u8⟩, ⟨l9, u9⟩, ⟨l10, u10⟩, ⟨l11, u11⟩, -⟩ := b_
  obtain ⟨e0, ⟨e1, w_⟩⟩ := d_
  subst w_
  have g := rxdISD_0_0 hP hin hsm_ I0 I1 hinv l8 u8 l9 u9 l10 u10 l11 u11 e1 e0
  refine ⟨bx_narP_ok (l := []) g.1, ?_⟩
  show rxPSISD S0 ws S_p (some (bx_num r_p (.inr (0, (0, 1)))))
  rw [bx_xv_ok h0_]
  exact g.2
theorem rxdISD_2_0 {S0 : Nat → Int → Int} {ws : List Int} {S : Nat → Int → Int} {pg stt r : Int} (hP : rxPISD S0 ws) (hin : bx_same rxL (bx_mdl rxCISD.2.2.1) S0 S) (hin2 : bx_same rxL (bx_mdl rxCISD.2.2.1) S S) (I0 : bx_Inv rxL S) (I1 : bx_Inv rxL S) (hinv : rxIISD_2 S0 ws S pg stt r) (l8 : 0 ≤ pg) (u8 : pg ≤ 1522) (l9 : 0 ≤ stt) (u9 : stt ≤ 400) (l10 : 1 ≤ r) (u10 : r ≤ 1) : (True) ∧ rxPSISD S0 ws S (some 1) := by
  obtain ⟨cl, hw, hr⟩ := hinv
  refine ⟨trivial, pg, cl, hw, fun q vs hq => ?_⟩
  obtain ⟨d, hd, h⟩ := hr q vs hq
  rw [hd]
  rcases h with ⟨h, -⟩ | ⟨-, h⟩
  · exfalso
    omega
  · have e : r = 1 := by omega
    subst e
    exact Or.inl ⟨rfl, h⟩
theorem rxfISD_2_0 {X : (Nat → Int → Int) → Prop} {S0 : Nat → Int → Int} {ws : List Int} (hP : rxPISD S0 ws) : bx_obE rxL X S0 rxCISD.2.2.1 (rxIISD S0 ws) (rxPSISD S0 ws) 2 rxzISD_2 rxeISD_2_0 := by
  intro S S_p r r_p hinv hX hin hsm_ hseg
  obtain ⟨I0, I1, h0_, hr_, b_, f_, d_⟩ := bx_cl (evs := []) (fvs := []) hseg (by decide +kernel) (by decide +kernel)
  have hinv : rxIISD_2 S0 ws S (r 8) (r 9) (r 10) := hinv
  rw [← hr_ 8 (by decide), ← hr_ 9 (by decide), ← hr_ 10 (by decide)] at hinv
  obtain ⟨⟨l8, u8⟩, ⟨l9, u9⟩, ⟨l10, u10⟩, -⟩ := b_
  have w_ := d_
  subst w_
  have g := rxdISD_2_0 hP hin hsm_ I0 I1 hinv l8 u8 l9 u9 l10 u10
  refine ⟨bx_narP_ok (l := []) g.1, ?_⟩
  show rxPSISD S0 ws S_p (some (bx_num r_p (.inr (0, (0, 1)))))
  rw [bx_xv_ok h0_]
  exact g.2
theorem rxdISD_2_1 {S0 : Nat → Int → Int} {ws : List Int} {S : Nat → Int → Int} {pg stt r : Int} (hP : rxPISD S0 ws) (hin : bx_same rxL (bx_mdl rxCISD.2.2.1) S0 S) (hin2 : bx_same rxL (bx_mdl rxCISD.2.2.1) S S) (I0 : bx_Inv rxL S) (I1 : bx_Inv rxL S) (hinv : rxIISD_2 S0 ws S pg stt r) (l8 : 0 ≤ pg) (u8 : pg ≤ 1522) (l9 : 0 ≤ stt) (u9 : stt ≤ 400) (l10 : (-9223372036854775808) ≤ r) (u10 : r ≤ 9223372036854775807) (f0 : r ≠ 1) : (True) ∧ rxPSISD S0 ws S (some 0) := by
  obtain ⟨cl, hw, hr⟩ := hinv
  refine ⟨trivial, pg, cl, hw, fun q vs hq => ?_⟩
  obtain ⟨d, hd, h⟩ := hr q vs hq
  rw [hd]
  rcases h with ⟨h, g⟩ | ⟨h0, h⟩
  · exact Or.inr ⟨rfl, Or.inl g⟩
  · have e : r = 0 := by omega
    subst e
    exact Or.inr ⟨rfl, Or.inr h⟩
theorem rxfISD_2_1 {X : (Nat → Int → Int) → Prop} {S0 : Nat → Int → Int} {ws : List Int} (hP : rxPISD S0 ws) : bx_obE rxL X S0 rxCISD.2.2.1 (rxIISD S0 ws) (rxPSISD S0 ws) 2 rxzISD_2 rxeISD_2_1 := by
  intro S S_p r r_p hinv hX hin hsm_ hseg
  obtain ⟨I0, I1, h0_, hr_, b_, f_, d_⟩ := bx_cl (evs := []) (fvs := [(3, (10, 0), (0, 1), (0, 0))]) hseg (by decide +kernel) (by decide +kernel)
  have hinv : rxIISD_2 S0 ws S (r 8) (r 9) (r 10) := hinv
  rw [← hr_ 8 (by decide), ← hr_ 9 (by decide), ← hr_ 10 (by decide)] at hinv
  obtain ⟨⟨l8, u8⟩, ⟨l9, u9⟩, ⟨l10, u10⟩, -⟩ := b_
  obtain ⟨f0, -⟩ := f_
  have w_ := d_
  subst w_
  have g := rxdISD_2_1 hP hin hsm_ I0 I1 hinv l8 u8 l9 u9 l10 u10 f0
  refine ⟨bx_narP_ok (l := []) g.1, ?_⟩
  show rxPSISD S0 ws S_p (some (bx_num r_p (.inr (0, (0, 0)))))
  rw [bx_xv_ok h0_]
  exact g.2
theorem rxgCISD {X : (Nat → Int → Int) → Prop} {S0 : Nat → Int → Int} {ws : List Int} (hP : rxPISD S0 ws) : bx_allI (fun i q => rxUISD q = true ∨ bx_allP (fun o => bx_obC rxL X S0 rxCISD.2.2.1 (rxIISD S0 ws) (rxmISD S0 ws) i q.1 o) q.2.1) 0 rxYISD := ⟨Or.inr ⟨rxgISD_0_0 hP, trivial⟩, Or.inl rfl, Or.inr trivial, trivial⟩
theorem rxgEISD {X : (Nat → Int → Int) → Prop} {S0 : Nat → Int → Int} {ws : List Int} (hP : rxPISD S0 ws) : bx_allI (fun i q => rxUISD q = true ∨ bx_allP (fun E => bx_obE rxL X S0 rxCISD.2.2.1 (rxIISD S0 ws) (rxPSISD S0 ws) i q.1 E) q.2.2) 0 rxYISD := ⟨Or.inr ⟨rxfISD_0_0 hP, trivial⟩, Or.inl rfl, Or.inr ⟨rxfISD_2_0 hP, rxfISD_2_1 hP, trivial⟩, trivial⟩
theorem rxuISD {PX : State → Prop} {Dg : va_G} {A : Nat → Prop} {ad xa : Nat → Nat} {l : Launch} {X : (Nat → Int → Int) → Prop} (hPX : rx_PXOK rxNW A PX) (hX : ∀ S S1 : Nat → Int → Int, X S → bx_same rxL (bx_mdl rxCISD.2.2.1) S S1 → X S1) (hQTEL : bx_ConP rxG rxNW rxAO PX Dg rxL X vwCl A ad l rxM58 rxCTEL rxPTEL rxPSTEL) {S0 : Nat → Int → Int} {ws : List Int} (hP : rxPISD S0 ws) : ∀ (i : Nat) (q : bx_HE), rxYISD[i]? = some q → rxUISD q = true → ∀ {p : Program} {e : Env} {R : Room} {s : State} {m : MethodId} {args : Array Value} {below : List Frame} {meth : Method} {c : Code} {Q : State → Prop} {H0 : Heap}, rx_Fr rxG rxNW rxAO PX p s m args meth c rxM101 → (∀ q, H0.size ≤ q → A q) → H0 = s.heap → rxM101.2.2.2.2.2.2.1 ≤ R.cells → rxM101.2.2.2.2.2.2.2 ≤ R.slots → rxCISD.2.2.2.1 ≤ R.frames → rxCISD.2.2.2.1 * 40 ≤ R.locals → bx_Step p l e R s m args below meth c Q Dg rxL X vwCl A xa H0 ad rxM101 rxYISD (rxIISD S0 ws) (rxmISD S0 ws) S0 rxCISD.2.2.1 i q := by
  intro i q hq hus p e R s m args below meth c Q H0 hF hA hH0 hmc hms hd hdl
  match i, hq with
  | 0, hq =>
    cases hq
    exact absurd (show false = true from hus) Bool.false_ne_true
  | 1, hq =>
    cases hq
    exact rx_stepC (ins := .invokevirtual 53) (len := 3) (i_p := 2) (M_p := rxM58) (d := rxCISD.2.2.2.1) (as := [.inr (3, (8, 0)), .inr (0, (9, 0)), .inr (3, (0, 22))]) (t := []) (ct := rxCTEL) hPX hF rfl hA hH0 hmc hms hd hdl (by decide +kernel) rfl rfl (by decide +kernel) (by decide +kernel) hQTEL (by decide +kernel) rfl (Or.inr ⟨_, _, _, 2, rfl, rfl, by omega, rfl, rfl, rfl⟩) (rxsISD_1 hP)
  | 2, hq =>
    cases hq
    exact absurd (show false = true from hus) Bool.false_ne_true
  | n + 3, hq => cases hq
theorem rxQISD {PX : State → Prop} {Dg : va_G} {A : Nat → Prop} {ad xa : Nat → Nat} {l : Launch} {X : (Nat → Int → Int) → Prop} (hPX : rx_PXOK rxNW A PX) (hsl : ∀ s : State, PX s → ∀ o idx n : Nat, rxSl o idx = some n → ∃ tx : String, vk_R (rxNm o) idx tx (ad n) s)
    (hX : ∀ S S_p : Nat → Int → Int, X S → bx_same rxL (bx_mdl rxCISD.2.2.1) S S_p → X S_p)
    (ih : ∀ (j2 : Nat) (ct2 : bx_Ct) (M2 : rx_Mt), ct2 ∈ rxCnE j2 → ct2.2.2.2.1 + 1 ≤ rxCISD.2.2.2.1 → rxT.2.2.2.2.2 j2 = some M2 → bx_Con rxG rxNW rxAO PX Dg rxL X vwCl A ad l M2 ct2) (hQTEL : bx_ConP rxG rxNW rxAO PX Dg rxL X vwCl A ad l rxM58 rxCTEL rxPTEL rxPSTEL) : bx_ConP rxG rxNW rxAO PX Dg rxL X vwCl A ad l rxM101 rxCISD rxPISD rxPSISD :=
  rxQof (xa := xa) (Cn := rxCnE) (f := 30000) (j := 101) (tab := rxYISD) (us := rxUISD) hPX hsl hX ih rfl rxYcISD rxIISD rxmISD
    (fun S0 ws r I0 I ht0 ht as he he1 hX0 hI0 hP hs ha => by
      have e := he.symm.trans (show bx_ent0 rxNP rxCISD.1 bx_I0 [] = some ([(0, 0), (0, 0), (0, 0), (0, 0), (0, 0), (0, 0), (0, 0), (0, 0), (0, 1522), (0, 11)], [(((8, 0), 1000007), .inl none)], [.inr (3, (8, 0)), .inr (0, (9, 0)), .inr (3, (0, 22))]) from rfl)
      cases e
      subst ha
      have h0 : r 0 = 0 := hs.1
      show rxIISD_0 S0 _ S0 (r 8) (r 9)
      refine ⟨rfl, ?_⟩
      simp only [List.map_cons, List.map_nil, bx_xv_ok h0]
      rfl)
    (fun S0 ws hP => rxuISD (xa := xa) hPX hX hQTEL hP) (fun S0 ws hP => rxgCISD hP) (fun S0 ws hP => rxgEISD hP)
end
section
noncomputable def rxCHCD : bx_Ct := ([(3, (1, 1, 0)), (3, (2, 7, 0)), (0, (0, 0, 11))], none, [(1017, 0), (1023, 0)], 2, [])
noncomputable def rxIHCD_0 (S0 : Nat → Int → Int) (ws : List Int) (S : Nat → Int → Int) (pg cl : Int) : Prop := S = S0 ∧ ws = [1, pg, cl]
noncomputable def rxmHCD_0 (S0 : Nat → Int → Int) (ws : List Int) (S : Nat → Int → Int) (pg cl : Int) : Nat := 100
noncomputable def rxzHCD_0 : rx_Z := ([(0, 0), (0, 0), (0, 0), (0, 0), (0, 0), (0, 0), (0, 0), (0, 0), (0, 1522), (0, 11)], [], [(((8, 0), 1000007), .inl none)], 0, 0, 0, [(0, .inr (3, (0, 1))), (1, .inr (3, (8, 0))), (2, .inr (0, (9, 0)))], [])
noncomputable def rxIHCD_1 (S0 : Nat → Int → Int) (ws : List Int) (S : Nat → Int → Int) (pg cl stt : Int) : Prop := S = S0 ∧ ws = [1, pg, cl] ∧ stt = S0 (pg + 7).toNat cl ∧ S0 (pg + 4).toNat cl ≠ 2
noncomputable def rxmHCD_1 (S0 : Nat → Int → Int) (ws : List Int) (S : Nat → Int → Int) (pg cl stt : Int) : Nat := 50
noncomputable def rxzHCD_1 : rx_Z := ([(0, 0), (0, 0), (0, 0), (0, 0), (0, 0), (0, 0), (0, 0), (0, 0), (0, 1522), (0, 11), ((-1), 400)], [], [(((8, 0), 1000007), .inl none)], 0, 0, 29, [(0, .inr (3, (0, 1))), (1, .inr (3, (8, 0))), (2, .inr (0, (9, 0)))], [.inr (3, (0, 22)), .inr (0, (10, 0)), .inr (3, (8, 0))])
noncomputable def rxIHCD_2 (S0 : Nat → Int → Int) (ws : List Int) (S : Nat → Int → Int) (pg cl stt r : Int) : Prop := ws = [1, pg, cl] ∧ S0 (pg + 4).toNat cl ≠ 2 ∧ (S 21 0 = S0 21 0 ∧ S 21 1 = S0 21 1 ∧ S 21 2 = S0 21 2) ∧ S (pg + 4).toNat cl = S0 (pg + 4).toNat cl ∧ (∀ (q : rkQ) (vs : Int → Int), tqQ S0 vs pg cl q → rkQl q → (∃ d : rkC, q.2.2.2.1 = some d ∧ ((r = (-4000000000000000000) ∧ rkEv d vs 0 [] none) ∨ (r ≠ (-4000000000000000000) ∧ rkEv d vs 0 [] (some [r])))))
noncomputable def rxmHCD_2 (S0 : Nat → Int → Int) (ws : List Int) (S : Nat → Int → Int) (pg cl stt r : Int) : Nat := 40
noncomputable def rxzHCD_2 : rx_Z := ([(0, 0), (0, 0), (0, 0), (0, 0), (0, 0), (0, 0), (0, 0), (0, 0), (0, 1522), (0, 11), ((-1), 400), ((-9223372036854775808), 9223372036854775807)], [], [(((8, 0), 1000007), .inl none)], 0, 0, 32, [(0, .inr (3, (0, 1))), (1, .inr (3, (8, 0))), (2, .inr (0, (9, 0)))], [.inr (1, (11, 0))])
noncomputable def rxoHCD_0_0 : bx_HO := (([(0, 0), (0, 0), (0, 0), (0, 0), (0, 0), (0, 0), (0, 0), (0, 0), (0, 1522), (0, 11), (0, 4), (0, 1522), ((-1), 400)], [(3, (10, 0), (0, 2))], [(((0, 1), 18), .inr (3, (0, 22))), (((0, 0), 1851192626986356797424367893248739914126558548369245150778490979000000), .inr (0, (12, 0))), (((0, 0), 1851192626986356799029993984671224184301589730656725205983952968000000), .inr (3, (11, 0))), (((8, 0), 8), .inr (3, (11, 0))), (((11, 0), 1000014), .inl none), (((0, 0), 1851192626986356797424367893248739914126558548369245150780850248000000), .inr (0, (10, 0))), (((0, 0), 1851192626986356798427873864310897359480125337295219445322481736000000), .inr (3, (8, 4))), (((8, 0), 5), .inr (3, (8, 4))), (((8, 0), 1000007), .inl none)], 0, 0, 29, [(0, .inr (3, (0, 1))), (1, .inr (3, (8, 0))), (2, .inr (0, (9, 0)))], [.inr (3, (0, 22)), .inr (0, (12, 0)), .inr (3, (8, 0))]), [], [], [(0, 0), (0, 0), (0, 0), (0, 0), (0, 0), (0, 0), (0, 0), (0, 0), (8, 0), (9, 0), (12, 0)], 1)
noncomputable def rxeHCD_0_0 : rx_End × List (Nat × Int × Int) := (([(0, 0), (0, 0), (0, 0), (0, 0), (0, 0), (0, 0), (0, 0), (0, 0), (0, 1522), (0, 11), (2, 2)], [], [(((0, 0), 1851192626986356797825753743950570534658660943933713684673396739000000), .inr (0, (0, 1))), (((0, 21), 2), .inr (0, (0, 1))), (((0, 1), 17), .inr (3, (0, 21))), (((0, 0), 1851192626986356797424367893248739914126558548369245150780850248000000), .inr (0, (10, 0))), (((0, 0), 1851192626986356798427873864310897359480125337295219445322481736000000), .inr (3, (8, 4))), (((8, 0), 5), .inr (3, (8, 4))), (((8, 0), 1000007), .inl none)], none), [])
noncomputable def rxeHCD_2_0 : rx_End × List (Nat × Int × Int) := (([(0, 0), (0, 0), (0, 0), (0, 0), (0, 0), (0, 0), (0, 0), (0, 0), (0, 1522), (0, 11), ((-1), 400), ((-4000000000000000000), (-4000000000000000000))], [], [(((8, 0), 1000007), .inl none)], none), [])
noncomputable def rxeHCD_2_1 : rx_End × List (Nat × Int × Int) := (([(0, 0), (0, 0), (0, 0), (0, 0), (0, 0), (0, 0), (0, 0), (0, 0), (0, 1522), (0, 11), ((-1), 400), (0, 100), (0, 0)], [(3, (11, 0), (0, (-4000000000000000000)))], [(((0, 0), 1851192626986356797424340330377019318111018015026043177565749251000000), .inr (0, (11, 0))), (((0, 21), 0), .inr (0, (11, 0))), (((0, 1), 17), .inr (3, (0, 21))), (((0, 0), 1851192626986356797424367893248739914126558548369245150780850248000000), .inr (0, (12, 0))), (((0, 0), 1851192626986356798427873864310897359480125337295219445322481736000000), .inr (3, (8, 4))), (((8, 0), 5), .inr (3, (8, 4))), (((8, 0), 1000007), .inl none)], none), [])
noncomputable def rxeHCD_2_2 : rx_End × List (Nat × Int × Int) := (([(0, 0), (0, 0), (0, 0), (0, 0), (0, 0), (0, 0), (0, 0), (0, 0), (0, 1522), (0, 11), ((-1), 400), (101, 9223372036854775807), (0, 0)], [(3, (11, 0), (0, (-4000000000000000000)))], [(((0, 0), 1851192626986356797424340330377019318111018015026043177565749251000000), .inr (0, (0, 100))), (((0, 21), 0), .inr (0, (0, 100))), (((0, 1), 17), .inr (3, (0, 21))), (((0, 0), 1851192626986356797424367893248739914126558548369245150780850248000000), .inr (0, (12, 0))), (((0, 0), 1851192626986356798427873864310897359480125337295219445322481736000000), .inr (3, (8, 4))), (((8, 0), 5), .inr (3, (8, 4))), (((8, 0), 1000007), .inl none)], none), [])
noncomputable def rxeHCD_2_3 : rx_End × List (Nat × Int × Int) := (([(0, 0), (0, 0), (0, 0), (0, 0), (0, 0), (0, 0), (0, 0), (0, 0), (0, 1522), (0, 11), ((-1), 400), ((-9223372036854775808), (-1)), (0, 0)], [(3, (11, 0), (0, (-4000000000000000000)))], [(((0, 0), 1851192626986356797424340330377019318111018015026043177565749251000000), .inr (0, (0, 0))), (((0, 21), 0), .inr (0, (0, 0))), (((0, 1), 17), .inr (3, (0, 21))), (((0, 0), 1851192626986356797424367893248739914126558548369245150780850248000000), .inr (0, (12, 0))), (((0, 0), 1851192626986356798427873864310897359480125337295219445322481736000000), .inr (3, (8, 4))), (((8, 0), 5), .inr (3, (8, 4))), (((8, 0), 1000007), .inl none)], none), [])
noncomputable def rxeHCD_2_4 : rx_End × List (Nat × Int × Int) := (([(0, 0), (0, 0), (0, 0), (0, 0), (0, 0), (0, 0), (0, 0), (0, 0), (0, 1522), (0, 11), ((-1), 400), (0, 99), (1, 4)], [(3, (12, 0), (0, 0)), (3, (11, 0), (0, (-4000000000000000000)))], [(((0, 0), 1851192626986356797625047037163794926384839479479878431119572995000000), .inr (0, (11, 0))), (((0, 21), 1), .inr (0, (11, 0))), (((0, 1), 17), .inr (3, (0, 21))), (((0, 0), 1851192626986356797424367893248739914126558548369245150780850248000000), .inr (0, (12, 0))), (((0, 0), 1851192626986356798427873864310897359480125337295219445322481736000000), .inr (3, (8, 4))), (((8, 0), 5), .inr (3, (8, 4))), (((8, 0), 1000007), .inl none)], none), [])
noncomputable def rxeHCD_2_5 : rx_End × List (Nat × Int × Int) := (([(0, 0), (0, 0), (0, 0), (0, 0), (0, 0), (0, 0), (0, 0), (0, 0), (0, 1522), (0, 11), ((-1), 400), (100, 9223372036854775807), (1, 4)], [(3, (12, 0), (0, 0)), (3, (11, 0), (0, (-4000000000000000000)))], [(((0, 0), 1851192626986356797625047037163794926384839479479878431119572995000000), .inr (0, (0, 99))), (((0, 21), 1), .inr (0, (0, 99))), (((0, 1), 17), .inr (3, (0, 21))), (((0, 0), 1851192626986356797424367893248739914126558548369245150780850248000000), .inr (0, (12, 0))), (((0, 0), 1851192626986356798427873864310897359480125337295219445322481736000000), .inr (3, (8, 4))), (((8, 0), 5), .inr (3, (8, 4))), (((8, 0), 1000007), .inl none)], none), [])
noncomputable def rxeHCD_2_6 : rx_End × List (Nat × Int × Int) := (([(0, 0), (0, 0), (0, 0), (0, 0), (0, 0), (0, 0), (0, 0), (0, 0), (0, 1522), (0, 11), ((-1), 400), ((-9223372036854775808), (-1)), (1, 4)], [(3, (12, 0), (0, 0)), (3, (11, 0), (0, (-4000000000000000000)))], [(((0, 0), 1851192626986356797625047037163794926384839479479878431119572995000000), .inr (0, (0, 0))), (((0, 21), 1), .inr (0, (0, 0))), (((0, 1), 17), .inr (3, (0, 21))), (((0, 0), 1851192626986356797424367893248739914126558548369245150780850248000000), .inr (0, (12, 0))), (((0, 0), 1851192626986356798427873864310897359480125337295219445322481736000000), .inr (3, (8, 4))), (((8, 0), 5), .inr (3, (8, 4))), (((8, 0), 1000007), .inl none)], none), [])
noncomputable def rxYHCD : List bx_HE := [(rxzHCD_0, [rxoHCD_0_0], [rxeHCD_0_0]), (rxzHCD_1, [], []), (rxzHCD_2, [], [rxeHCD_2_0, rxeHCD_2_1, rxeHCD_2_2, rxeHCD_2_3, rxeHCD_2_4, rxeHCD_2_5, rxeHCD_2_6])]
noncomputable def rxUHCD (q : bx_HE) : Bool := Nat.beq (rx_zpc q.1) 29
noncomputable def rxYBHCD : bx_B := (rxV, rxNP, rxDmf, bx_mdH rxCHCD.2.2.1)
set_option maxRecDepth 100000 in
theorem rxYcHCD : bx_chkH rxYBHCD rxM102 rxCHCD rxYHCD (rxUHCD, fun cut z => rx_ex2 (rxCT rxYBHCD rxCnE) cut 30000 rxCHCD.2.2.2.1 102 z) = true := by decide +kernel
noncomputable def rxIHCD (S0 : Nat → Int → Int) (ws : List Int) (i : Nat) : bx_SP := fun S r => match i with | 0 => rxIHCD_0 S0 ws S (r 8) (r 9) | 1 => rxIHCD_1 S0 ws S (r 8) (r 9) (r 10) | 2 => rxIHCD_2 S0 ws S (r 8) (r 9) (r 10) (r 11) | _ => False
noncomputable def rxmHCD (S0 : Nat → Int → Int) (ws : List Int) (i : Nat) (S : Nat → Int → Int) (r : Nat → Int) : Nat := match i with | 0 => rxmHCD_0 S0 ws S (r 8) (r 9) | 1 => rxmHCD_1 S0 ws S (r 8) (r 9) (r 10) | 2 => rxmHCD_2 S0 ws S (r 8) (r 9) (r 10) (r 11) | _ => 0
noncomputable def rxPHCD (S0 : Nat → Int → Int) (ws : List Int) : Prop := ∃ (pg cl : Int) (q : rkQ) (vs : Int → Int), ws = [1, pg, cl] ∧ tqQ S0 vs pg cl q ∧ rkQl q
noncomputable def rxPSHCD (S0 : Nat → Int → Int) (ws : List Int) (S : Nat → Int → Int) (w : Option Int) : Prop := w = none ∧ ∃ pg cl : Int, ws = [1, pg, cl] ∧ ∀ (q : rkQ) (vs : Int → Int), tqQ S0 vs pg cl q → rkQl q → rkTru vs q.2.2.2.2.2 → rkH1 vs q (hd3 S0) (hd3 S)
theorem rxkHCD_1 {S0 : Nat → Int → Int} {ws : List Int} {S : Nat → Int → Int} {pg cl stt : Int} (hP : rxPHCD S0 ws) (hin : bx_same rxL (bx_mdl rxCHCD.2.2.1) S0 S) (I0 : bx_Inv rxL S) (hinv : rxIHCD_1 S0 ws S pg cl stt) (l8 : 0 ≤ pg) (u8 : pg ≤ 1522) (l9 : 0 ≤ cl) (u9 : cl ≤ 11) (l10 : (-1) ≤ stt) (u10 : stt ≤ 400) : rxPTEL S [pg, stt, 22] ∧ ∀ (S_p : Nat → Int → Int) (r : Int), (-9223372036854775808) ≤ r → r ≤ 9223372036854775807 → rxPSTEL S [pg, stt, 22] S_p (some r) → bx_Inv rxL S_p → bx_same rxL (bx_mdl rxCTEL.2.2.1) S S_p → rxIHCD_2 S0 ws S_p pg cl stt r ∧ rxmHCD_2 S0 ws S_p pg cl stt r < rxmHCD_1 S0 ws S pg cl stt := by
  obtain ⟨hS, hw, hst, hk⟩ := hinv
  subst hS
  obtain ⟨pg_, cl_, q_, vs_, hw2, hQ, hL⟩ := hP
  have w0 := hw.symm.trans hw2
  have w1 : pg = pg_ := Option.some.inj (congrArg (fun l => l[1]?) w0)
  have w2 : cl = cl_ := Option.some.inj (congrArg (fun l => l[2]?) w0)
  subst w1
  subst w2
  obtain ⟨x4, -, -, -, x7, -, -⟩ := tqQ_x hQ
  rw [← hst] at x7
  obtain ⟨d0, hd0⟩ := hL.2.2.1 (by omega)
  have h21 : ∀ S_p : Nat → Int → Int, bx_same rxL (bx_mdl rxCTEL.2.2.1) S S_p → ∀ j : Int, 0 ≤ j → j < 3 → S_p 21 j = S 21 j := fun S_p hsm j a b => rz_fd hsm (p := 21) (n := 3) (c := 1017) (k := 0) (by decide +kernel) (by decide) (by decide +kernel) j a b
  refine ⟨?_, fun S_p r _ _ hq _ hsm => ⟨⟨hw, hk, ⟨h21 S_p hsm 0 (by omega) (by omega), h21 S_p hsm 1 (by omega) (by omega), h21 S_p hsm 2 (by omega) (by omega)⟩, ?_, fun q vs hqq hl => ?_⟩, by unfold rxmHCD_1 rxmHCD_2; omega⟩⟩
  · rcases x7 with ⟨y, z⟩ | ⟨d, y, y0, y1⟩
    · rw [hd0] at y
      cases y
    · exact ⟨pg, stt, d, false, _, rfl, y1⟩
  · obtain ⟨-, -, -, -, fp⟩ := tqEq_sm hsm (by decide +kernel) hQ.1.2
    have g := fp 4 (by omega) (by omega) cl (by omega) (by omega)
    rw [show pg.toNat + 4 = (pg + 4).toNat by have := hQ.1.1; omega] at g
    exact g
  · obtain ⟨y4, -, -, -, y7, -, -⟩ := tqQ_x hqq
    rw [← hst] at y7
    obtain ⟨d1, hd1⟩ := hl.2.2.1 (by omega)
    rcases y7 with ⟨y, z⟩ | ⟨d, y, y0, y1⟩
    · rw [hd1] at y
      cases y
    · obtain ⟨p2, s2, hw3, h⟩ := hq
      have k1 : pg = p2 := Option.some.inj (congrArg (fun l : List Int => l[0]?) hw3)
      have k2 : stt = s2 := Option.some.inj (congrArg (fun l : List Int => l[1]?) hw3)
      subst k1
      subst k2
      refine ⟨d, y, ?_⟩
      rcases h d false vs y1 with ⟨a, b⟩ | ⟨x, a, b, c, e⟩
      · exact Or.inl ⟨Option.some.inj a, b⟩
      · have a := Option.some.inj a
        subst a
        exact Or.inr ⟨by have := c.1; omega, b⟩
theorem rxsHCD_1 {X : (Nat → Int → Int) → Prop} {S0 : Nat → Int → Int} {ws : List Int} (hP : rxPHCD S0 ws) : rx_obK X S0 rxCHCD.2.2.1 rxCTEL.2.2.1 (rxIHCD S0 ws) (rxmHCD S0 ws) 1 2 rxzHCD_1 rxzHCD_2 [.inr (3, (8, 0)), .inr (0, (10, 0)), .inr (3, (0, 22))] (some 11) rxPTEL rxPSTEL := by
  intro S r hinv hXS I0 hin hs_ hf_
  have b_ := bx_bds_sat hs_
  have f_ := bx_fcl_ok hs_.1 hf_
  obtain ⟨⟨l8, u8⟩, ⟨l9, u9⟩, ⟨l10, u10⟩, -⟩ := b_
  have g := rxkHCD_1 hP hin I0 hinv l8 u8 l9 u9 l10 u10
  have ea : List.map (bx_num r) [.inr (3, (8, 0)), .inr (0, (10, 0)), .inr (3, (0, 22))] = [(r 8), (r 10), 22] := by
    simp only [List.map_cons, List.map_nil, bx_xv_ok hs_.1]
    rfl
  rw [ea]
  refine ⟨g.1, fun S_p w r_p hPS hX_p I1 hsm hr hw hs_p => ?_⟩
  have hw := hw _ rfl
  subst hw
  have b_p := hs_p.2.2 11 _ _ rfl
  have g2 := g.2 S_p (r_p 11) b_p.1 b_p.2 hPS I1 hsm
  show rxIHCD_2 S0 ws S_p (r_p 8) (r_p 9) (r_p 10) (r_p 11) ∧ rxmHCD_2 S0 ws S_p (r_p 8) (r_p 9) (r_p 10) (r_p 11) < _
  rw [hr 8 (by decide), hr 9 (by decide), hr 10 (by decide)]
  exact g2
theorem rxcHCD_0_0 {S0 : Nat → Int → Int} {ws : List Int} {S : Nat → Int → Int} {pg cl x10 x11 x12 : Int} (hP : rxPHCD S0 ws) (hin : bx_same rxL (bx_mdl rxCHCD.2.2.1) S0 S) (I0 : bx_Inv rxL S) (hinv : rxIHCD_0 S0 ws S pg cl) (l8 : 0 ≤ pg) (u8 : pg ≤ 1522) (l9 : 0 ≤ cl) (u9 : cl ≤ 11) (l10 : 0 ≤ x10) (u10 : x10 ≤ 4) (l11 : 0 ≤ x11) (u11 : x11 ≤ 1522) (l12 : (-1) ≤ x12) (u12 : x12 ≤ 400) (f0 : x10 ≠ 2) (e3 : S (pg).toNat 5 = pg + 4) (e2 : S (pg + 4).toNat cl = x10) (e1 : S (pg).toNat 8 = x11) (e0 : S (x11).toNat cl = x12) : (True) ∧ (True) ∧ rxIHCD_1 S0 ws S pg cl x12 ∧ rxmHCD_1 S0 ws S pg cl x12 < rxmHCD_0 S0 ws S pg cl := by
  obtain ⟨rfl, hw⟩ := hinv
  obtain ⟨pg_, cl_, q_, vs_, hw2, hQ, hL⟩ := hP
  have w0 := hw.symm.trans hw2
  have w1 : pg = pg_ := Option.some.inj (congrArg (fun l => l[1]?) w0)
  have w2 : cl = cl_ := Option.some.inj (congrArg (fun l => l[2]?) w0)
  subst w1
  subst w2
  obtain ⟨-, -, -, ⟨zp, -, -⟩, -, -, -⟩ := tqQ_x hQ
  have ep : x11 = pg + 7 := e1.symm.trans zp
  have g := e0
  rw [ep] at g
  exact ⟨trivial, trivial, ⟨rfl, hw2, g.symm, by omega⟩, by unfold rxmHCD_0 rxmHCD_1; omega⟩
theorem rxgHCD_0_0 {X : (Nat → Int → Int) → Prop} {S0 : Nat → Int → Int} {ws : List Int} (hP : rxPHCD S0 ws) : bx_obC rxL X S0 rxCHCD.2.2.1 (rxIHCD S0 ws) (rxmHCD S0 ws) 0 rxzHCD_0 rxoHCD_0_0 := by
  intro S S_p r r_p hinv hX hin hsm_ hseg
  obtain ⟨I0, I1, h0_, hr_, b_, f_, d_⟩ := bx_cl (evs := [(0, (11, 0), (9, 0), .inr (0, (12, 0))), (0, (8, 0), (0, 8), .inr (3, (11, 0))), (0, (8, 4), (9, 0), .inr (0, (10, 0))), (0, (8, 0), (0, 5), .inr (3, (8, 4)))]) (fvs := [(3, (10, 0), (0, 2), (0, 0))]) hseg (by decide +kernel) (by decide +kernel)
  have hinv : rxIHCD_0 S0 ws S (r 8) (r 9) := hinv
  rw [← hr_ 8 (by decide), ← hr_ 9 (by decide)] at hinv
  obtain ⟨⟨l8, u8⟩, ⟨l9, u9⟩, ⟨l10, u10⟩, ⟨l11, u11⟩, ⟨l12, u12⟩, -⟩ := b_
  obtain ⟨f0, -⟩ := f_
  obtain ⟨e0, ⟨e1, ⟨e2, ⟨e3, w_⟩⟩⟩⟩ := d_
  subst w_
  have g := rxcHCD_0_0 hP hin I0 hinv l8 u8 l9 u9 l10 u10 l11 u11 l12 u12 f0 e3 e2 e1 e0
  refine ⟨bx_narP_ok (l := []) g.1, bx_nfP_ok h0_ (fvs := []) (by decide +kernel) g.2.1, ?_, ?_⟩
  · show rxIHCD_1 S0 ws S_p (bx_val [(0, 0), (0, 0), (0, 0), (0, 0), (0, 0), (0, 0), (0, 0), (0, 0), (8, 0), (9, 0), (12, 0)] r_p 8) (bx_val [(0, 0), (0, 0), (0, 0), (0, 0), (0, 0), (0, 0), (0, 0), (0, 0), (8, 0), (9, 0), (12, 0)] r_p 9) (bx_val [(0, 0), (0, 0), (0, 0), (0, 0), (0, 0), (0, 0), (0, 0), (0, 0), (8, 0), (9, 0), (12, 0)] r_p 10)
    rw [bx_val_x (n := 8) (e := (8, 0)) h0_ rfl, bx_val_x (n := 9) (e := (9, 0)) h0_ rfl, bx_val_x (n := 10) (e := (12, 0)) h0_ rfl]
    exact g.2.2.1
  · show rxmHCD_1 S0 ws S_p (bx_val [(0, 0), (0, 0), (0, 0), (0, 0), (0, 0), (0, 0), (0, 0), (0, 0), (8, 0), (9, 0), (12, 0)] r_p 8) (bx_val [(0, 0), (0, 0), (0, 0), (0, 0), (0, 0), (0, 0), (0, 0), (0, 0), (8, 0), (9, 0), (12, 0)] r_p 9) (bx_val [(0, 0), (0, 0), (0, 0), (0, 0), (0, 0), (0, 0), (0, 0), (0, 0), (8, 0), (9, 0), (12, 0)] r_p 10) < rxmHCD_0 S0 ws S_p (r 8) (r 9)
    rw [bx_val_x (n := 8) (e := (8, 0)) h0_ rfl, bx_val_x (n := 9) (e := (9, 0)) h0_ rfl, bx_val_x (n := 10) (e := (12, 0)) h0_ rfl, ← hr_ 8 (by decide), ← hr_ 9 (by decide)]
    exact g.2.2.2
theorem rxdHCD_0_0 {S0 : Nat → Int → Int} {ws : List Int} {S : Nat → Int → Int} {pg cl x10 : Int} (hP : rxPHCD S0 ws) (hin : bx_same rxL (bx_mdl rxCHCD.2.2.1) S0 S) (hin2 : bx_same rxL (bx_mdl rxCHCD.2.2.1) S (bx_up S 21 2 1)) (I0 : bx_Inv rxL S) (I1 : bx_Inv rxL (bx_up S 21 2 1)) (hinv : rxIHCD_0 S0 ws S pg cl) (l8 : 0 ≤ pg) (u8 : pg ≤ 1522) (l9 : 0 ≤ cl) (u9 : cl ≤ 11) (l10 : 2 ≤ x10) (u10 : x10 ≤ 2) (e2 : S (pg).toNat 5 = pg + 4) (e1 : S (pg + 4).toNat cl = x10) : (True) ∧ rxPSHCD S0 ws (bx_up S 21 2 1) none := by
  obtain ⟨rfl, hw⟩ := hinv
  obtain ⟨pg_, cl_, q_, vs_, hw2, hQ, hL⟩ := hP
  have w0 := hw.symm.trans hw2
  have w1 : pg = pg_ := Option.some.inj (congrArg (fun l => l[1]?) w0)
  have w2 : cl = cl_ := Option.some.inj (congrArg (fun l => l[2]?) w0)
  subst w1
  subst w2
  refine ⟨trivial, rfl, pg, cl, hw2, fun q vs hq hl ht => Or.inr ⟨ht, Or.inl ⟨?_, ?_⟩⟩⟩
  · have := (tqQ_x hq).1
    omega
  · unfold hd3
    rw [bx_up_ne (by omega), bx_up_ne (by omega), bx_up_at]
theorem rxfHCD_0_0 {X : (Nat → Int → Int) → Prop} {S0 : Nat → Int → Int} {ws : List Int} (hP : rxPHCD S0 ws) : bx_obE rxL X S0 rxCHCD.2.2.1 (rxIHCD S0 ws) (rxPSHCD S0 ws) 0 rxzHCD_0 rxeHCD_0_0 := by
  intro S S_p r r_p hinv hX hin hsm_ hseg
  obtain ⟨I0, I1, h0_, hr_, b_, f_, d_⟩ := bx_cl (evs := [(1, (0, 21), (0, 2), .inr (0, (0, 1))), (0, (8, 4), (9, 0), .inr (0, (10, 0))), (0, (8, 0), (0, 5), .inr (3, (8, 4)))]) (fvs := []) hseg (by decide +kernel) (by decide +kernel)
  have hinv : rxIHCD_0 S0 ws S (r 8) (r 9) := hinv
  rw [← hr_ 8 (by decide), ← hr_ 9 (by decide)] at hinv
  obtain ⟨⟨l8, u8⟩, ⟨l9, u9⟩, ⟨l10, u10⟩, -⟩ := b_
  obtain ⟨T0, ⟨e1, ⟨e2, w_⟩⟩, w0⟩ := d_
  subst w0
  subst w_
  have g := rxdHCD_0_0 hP hin hsm_ I0 I1 hinv l8 u8 l9 u9 l10 u10 e2 e1
  refine ⟨bx_narP_ok (l := []) g.1, ?_⟩
  exact g.2
theorem rxdHCD_2_0 {S0 : Nat → Int → Int} {ws : List Int} {S : Nat → Int → Int} {pg cl stt r : Int} (hP : rxPHCD S0 ws) (hin : bx_same rxL (bx_mdl rxCHCD.2.2.1) S0 S) (hin2 : bx_same rxL (bx_mdl rxCHCD.2.2.1) S S) (I0 : bx_Inv rxL S) (I1 : bx_Inv rxL S) (hinv : rxIHCD_2 S0 ws S pg cl stt r) (l8 : 0 ≤ pg) (u8 : pg ≤ 1522) (l9 : 0 ≤ cl) (u9 : cl ≤ 11) (l10 : (-1) ≤ stt) (u10 : stt ≤ 400) (l11 : (-4000000000000000000) ≤ r) (u11 : r ≤ (-4000000000000000000)) : (True) ∧ rxPSHCD S0 ws S none := by
  obtain ⟨hw, hk2, ⟨h0, h1, h2⟩, h4, hr⟩ := hinv
  refine ⟨trivial, rfl, pg, cl, hw, fun q vs hq hl ht => Or.inr ⟨ht, Or.inr ⟨?_, ?_⟩⟩⟩
  · have := (tqQ_x hq).1
    omega
  · obtain ⟨d, hd, h⟩ := hr q vs hq hl
    have hk := (tqQ_x hq).1
    rcases h with ⟨a, b⟩ | ⟨a, b⟩
    · exact Or.inl ⟨⟨d, hd, Or.inl ⟨rfl, b⟩⟩, by unfold hd3; rw [h0, h1, h2]⟩
    · exfalso
      omega
theorem rxfHCD_2_0 {X : (Nat → Int → Int) → Prop} {S0 : Nat → Int → Int} {ws : List Int} (hP : rxPHCD S0 ws) : bx_obE rxL X S0 rxCHCD.2.2.1 (rxIHCD S0 ws) (rxPSHCD S0 ws) 2 rxzHCD_2 rxeHCD_2_0 := by
  intro S S_p r r_p hinv hX hin hsm_ hseg
  obtain ⟨I0, I1, h0_, hr_, b_, f_, d_⟩ := bx_cl (evs := []) (fvs := []) hseg (by decide +kernel) (by decide +kernel)
  have hinv : rxIHCD_2 S0 ws S (r 8) (r 9) (r 10) (r 11) := hinv
  rw [← hr_ 8 (by decide), ← hr_ 9 (by decide), ← hr_ 10 (by decide), ← hr_ 11 (by decide)] at hinv
  obtain ⟨⟨l8, u8⟩, ⟨l9, u9⟩, ⟨l10, u10⟩, ⟨l11, u11⟩, -⟩ := b_
  have w_ := d_
  subst w_
  have g := rxdHCD_2_0 hP hin hsm_ I0 I1 hinv l8 u8 l9 u9 l10 u10 l11 u11
  refine ⟨bx_narP_ok (l := []) g.1, ?_⟩
  exact g.2
theorem rxdHCD_2_1 {S0 : Nat → Int → Int} {ws : List Int} {S : Nat → Int → Int} {pg cl stt r x12 : Int} (hP : rxPHCD S0 ws) (hin : bx_same rxL (bx_mdl rxCHCD.2.2.1) S0 S) (hin2 : bx_same rxL (bx_mdl rxCHCD.2.2.1) S (bx_up S 21 0 r)) (I0 : bx_Inv rxL S) (I1 : bx_Inv rxL (bx_up S 21 0 r)) (hinv : rxIHCD_2 S0 ws S pg cl stt r) (l8 : 0 ≤ pg) (u8 : pg ≤ 1522) (l9 : 0 ≤ cl) (u9 : cl ≤ 11) (l10 : (-1) ≤ stt) (u10 : stt ≤ 400) (l11 : 0 ≤ r) (u11 : r ≤ 100) (l12 : 0 ≤ x12) (u12 : x12 ≤ 0) (f0 : r ≠ (-4000000000000000000)) (e2 : S (pg).toNat 5 = pg + 4) (e1 : S (pg + 4).toNat cl = x12) : (True) ∧ rxPSHCD S0 ws (bx_up S 21 0 r) none := by
  obtain ⟨hw, hk2, ⟨h0, h1, h2⟩, h4, hr⟩ := hinv
  refine ⟨trivial, rfl, pg, cl, hw, fun q vs hq hl ht => Or.inr ⟨ht, Or.inr ⟨?_, ?_⟩⟩⟩
  · have := (tqQ_x hq).1
    omega
  · obtain ⟨d, hd, h⟩ := hr q vs hq hl
    have hk := (tqQ_x hq).1
    rcases h with ⟨a, b⟩ | ⟨a, b⟩
    · exfalso
      omega
    · refine Or.inr ⟨r, ⟨d, hd, Or.inr ⟨r, rfl, b⟩⟩, ?_⟩
      have en : rkNear r 100 = r := by unfold rkNear; (repeat' split) <;> omega
      rw [if_pos (by omega), en]
      unfold hd3
      rw [bx_up_at, bx_up_ne (by omega), h1, bx_up_ne (by omega), h2]
theorem rxfHCD_2_1 {X : (Nat → Int → Int) → Prop} {S0 : Nat → Int → Int} {ws : List Int} (hP : rxPHCD S0 ws) : bx_obE rxL X S0 rxCHCD.2.2.1 (rxIHCD S0 ws) (rxPSHCD S0 ws) 2 rxzHCD_2 rxeHCD_2_1 := by
  intro S S_p r r_p hinv hX hin hsm_ hseg
  obtain ⟨I0, I1, h0_, hr_, b_, f_, d_⟩ := bx_cl (evs := [(1, (0, 21), (0, 0), .inr (0, (11, 0))), (0, (8, 4), (9, 0), .inr (0, (12, 0))), (0, (8, 0), (0, 5), .inr (3, (8, 4)))]) (fvs := [(3, (11, 0), (0, (-4000000000000000000)), (0, 0))]) hseg (by decide +kernel) (by decide +kernel)
  have hinv : rxIHCD_2 S0 ws S (r 8) (r 9) (r 10) (r 11) := hinv
  rw [← hr_ 8 (by decide), ← hr_ 9 (by decide), ← hr_ 10 (by decide), ← hr_ 11 (by decide)] at hinv
  obtain ⟨⟨l8, u8⟩, ⟨l9, u9⟩, ⟨l10, u10⟩, ⟨l11, u11⟩, ⟨l12, u12⟩, -⟩ := b_
  obtain ⟨f0, -⟩ := f_
  obtain ⟨T0, ⟨e1, ⟨e2, w_⟩⟩, w0⟩ := d_
  subst w0
  subst w_
  have g := rxdHCD_2_1 hP hin hsm_ I0 I1 hinv l8 u8 l9 u9 l10 u10 l11 u11 l12 u12 f0 e2 e1
  refine ⟨bx_narP_ok (l := []) g.1, ?_⟩
  exact g.2
theorem rxdHCD_2_2 {S0 : Nat → Int → Int} {ws : List Int} {S : Nat → Int → Int} {pg cl stt r x12 : Int} (hP : rxPHCD S0 ws) (hin : bx_same rxL (bx_mdl rxCHCD.2.2.1) S0 S) (hin2 : bx_same rxL (bx_mdl rxCHCD.2.2.1) S (bx_up S 21 0 100)) (I0 : bx_Inv rxL S) (I1 : bx_Inv rxL (bx_up S 21 0 100)) (hinv : rxIHCD_2 S0 ws S pg cl stt r) (l8 : 0 ≤ pg) (u8 : pg ≤ 1522) (l9 : 0 ≤ cl) (u9 : cl ≤ 11) (l10 : (-1) ≤ stt) (u10 : stt ≤ 400) (l11 : 101 ≤ r) (u11 : r ≤ 9223372036854775807) (l12 : 0 ≤ x12) (u12 : x12 ≤ 0) (f0 : r ≠ (-4000000000000000000)) (e2 : S (pg).toNat 5 = pg + 4) (e1 : S (pg + 4).toNat cl = x12) : (True) ∧ rxPSHCD S0 ws (bx_up S 21 0 100) none := by
  obtain ⟨hw, hk2, ⟨h0, h1, h2⟩, h4, hr⟩ := hinv
  refine ⟨trivial, rfl, pg, cl, hw, fun q vs hq hl ht => Or.inr ⟨ht, Or.inr ⟨?_, ?_⟩⟩⟩
  · have := (tqQ_x hq).1
    omega
  · obtain ⟨d, hd, h⟩ := hr q vs hq hl
    have hk := (tqQ_x hq).1
    rcases h with ⟨a, b⟩ | ⟨a, b⟩
    · exfalso
      omega
    · refine Or.inr ⟨r, ⟨d, hd, Or.inr ⟨r, rfl, b⟩⟩, ?_⟩
      have en : rkNear r 100 = 100 := by unfold rkNear; (repeat' split) <;> omega
      rw [if_pos (by omega), en]
      unfold hd3
      rw [bx_up_at, bx_up_ne (by omega), h1, bx_up_ne (by omega), h2]
theorem rxfHCD_2_2 {X : (Nat → Int → Int) → Prop} {S0 : Nat → Int → Int} {ws : List Int} (hP : rxPHCD S0 ws) : bx_obE rxL X S0 rxCHCD.2.2.1 (rxIHCD S0 ws) (rxPSHCD S0 ws) 2 rxzHCD_2 rxeHCD_2_2 := by
  intro S S_p r r_p hinv hX hin hsm_ hseg
  obtain ⟨I0, I1, h0_, hr_, b_, f_, d_⟩ := bx_cl (evs := [(1, (0, 21), (0, 0), .inr (0, (0, 100))), (0, (8, 4), (9, 0), .inr (0, (12, 0))), (0, (8, 0), (0, 5), .inr (3, (8, 4)))]) (fvs := [(3, (11, 0), (0, (-4000000000000000000)), (0, 0))]) hseg (by decide +kernel) (by decide +kernel)
  have hinv : rxIHCD_2 S0 ws S (r 8) (r 9) (r 10) (r 11) := hinv
  rw [← hr_ 8 (by decide), ← hr_ 9 (by decide), ← hr_ 10 (by decide), ← hr_ 11 (by decide)] at hinv
  obtain ⟨⟨l8, u8⟩, ⟨l9, u9⟩, ⟨l10, u10⟩, ⟨l11, u11⟩, ⟨l12, u12⟩, -⟩ := b_
  obtain ⟨f0, -⟩ := f_
  obtain ⟨T0, ⟨e1, ⟨e2, w_⟩⟩, w0⟩ := d_
  subst w0
  subst w_
  have g := rxdHCD_2_2 hP hin hsm_ I0 I1 hinv l8 u8 l9 u9 l10 u10 l11 u11 l12 u12 f0 e2 e1
  refine ⟨bx_narP_ok (l := []) g.1, ?_⟩
  exact g.2
theorem rxdHCD_2_3 {S0 : Nat → Int → Int} {ws : List Int} {S : Nat → Int → Int} {pg cl stt r x12 : Int} (hP : rxPHCD S0 ws) (hin : bx_same rxL (bx_mdl rxCHCD.2.2.1) S0 S) (hin2 : bx_same rxL (bx_mdl rxCHCD.2.2.1) S (bx_up S 21 0 0)) (I0 : bx_Inv rxL S) (I1 : bx_Inv rxL (bx_up S 21 0 0)) (hinv : rxIHCD_2 S0 ws S pg cl stt r) (l8 : 0 ≤ pg) (u8 : pg ≤ 1522) (l9 : 0 ≤ cl) (u9 : cl ≤ 11) (l10 : (-1) ≤ stt) (u10 : stt ≤ 400) (l11 : (-9223372036854775808) ≤ r) (u11 : r ≤ (-1)) (l12 : 0 ≤ x12) (u12 : x12 ≤ 0) (f0 : r ≠ (-4000000000000000000)) (e2 : S (pg).toNat 5 = pg + 4) (e1 : S (pg + 4).toNat cl = x12) : (True) ∧ rxPSHCD S0 ws (bx_up S 21 0 0) none := by
  obtain ⟨hw, hk2, ⟨h0, h1, h2⟩, h4, hr⟩ := hinv
  refine ⟨trivial, rfl, pg, cl, hw, fun q vs hq hl ht => Or.inr ⟨ht, Or.inr ⟨?_, ?_⟩⟩⟩
  · have := (tqQ_x hq).1
    omega
  · obtain ⟨d, hd, h⟩ := hr q vs hq hl
    have hk := (tqQ_x hq).1
    rcases h with ⟨a, b⟩ | ⟨a, b⟩
    · exfalso
      omega
    · refine Or.inr ⟨r, ⟨d, hd, Or.inr ⟨r, rfl, b⟩⟩, ?_⟩
      have en : rkNear r 100 = 0 := by unfold rkNear; (repeat' split) <;> omega
      rw [if_pos (by omega), en]
      unfold hd3
      rw [bx_up_at, bx_up_ne (by omega), h1, bx_up_ne (by omega), h2]
theorem rxfHCD_2_3 {X : (Nat → Int → Int) → Prop} {S0 : Nat → Int → Int} {ws : List Int} (hP : rxPHCD S0 ws) : bx_obE rxL X S0 rxCHCD.2.2.1 (rxIHCD S0 ws) (rxPSHCD S0 ws) 2 rxzHCD_2 rxeHCD_2_3 := by
  intro S S_p r r_p hinv hX hin hsm_ hseg
  obtain ⟨I0, I1, h0_, hr_, b_, f_, d_⟩ := bx_cl (evs := [(1, (0, 21), (0, 0), .inr (0, (0, 0))), (0, (8, 4), (9, 0), .inr (0, (12, 0))), (0, (8, 0), (0, 5), .inr (3, (8, 4)))]) (fvs := [(3, (11, 0), (0, (-4000000000000000000)), (0, 0))]) hseg (by decide +kernel) (by decide +kernel)
  have hinv : rxIHCD_2 S0 ws S (r 8) (r 9) (r 10) (r 11) := hinv
  rw [← hr_ 8 (by decide), ← hr_ 9 (by decide), ← hr_ 10 (by decide), ← hr_ 11 (by decide)] at hinv
  obtain ⟨⟨l8, u8⟩, ⟨l9, u9⟩, ⟨l10, u10⟩, ⟨l11, u11⟩, ⟨l12, u12⟩, -⟩ := b_
  obtain ⟨f0, -⟩ := f_
  obtain ⟨T0, ⟨e1, ⟨e2, w_⟩⟩, w0⟩ := d_
  subst w0
  subst w_
  have g := rxdHCD_2_3 hP hin hsm_ I0 I1 hinv l8 u8 l9 u9 l10 u10 l11 u11 l12 u12 f0 e2 e1
  refine ⟨bx_narP_ok (l := []) g.1, ?_⟩
  exact g.2
theorem rxdHCD_2_4 {S0 : Nat → Int → Int} {ws : List Int} {S : Nat → Int → Int} {pg cl stt r x12 : Int} (hP : rxPHCD S0 ws) (hin : bx_same rxL (bx_mdl rxCHCD.2.2.1) S0 S) (hin2 : bx_same rxL (bx_mdl rxCHCD.2.2.1) S (bx_up S 21 1 r)) (I0 : bx_Inv rxL S) (I1 : bx_Inv rxL (bx_up S 21 1 r)) (hinv : rxIHCD_2 S0 ws S pg cl stt r) (l8 : 0 ≤ pg) (u8 : pg ≤ 1522) (l9 : 0 ≤ cl) (u9 : cl ≤ 11) (l10 : (-1) ≤ stt) (u10 : stt ≤ 400) (l11 : 0 ≤ r) (u11 : r ≤ 99) (l12 : 1 ≤ x12) (u12 : x12 ≤ 4) (f0 : x12 ≠ 0) (f1 : r ≠ (-4000000000000000000)) (e2 : S (pg).toNat 5 = pg + 4) (e1 : S (pg + 4).toNat cl = x12) : (True) ∧ rxPSHCD S0 ws (bx_up S 21 1 r) none := by
  obtain ⟨hw, hk2, ⟨h0, h1, h2⟩, h4, hr⟩ := hinv
  refine ⟨trivial, rfl, pg, cl, hw, fun q vs hq hl ht => Or.inr ⟨ht, Or.inr ⟨?_, ?_⟩⟩⟩
  · have := (tqQ_x hq).1
    omega
  · obtain ⟨d, hd, h⟩ := hr q vs hq hl
    have hk := (tqQ_x hq).1
    rcases h with ⟨a, b⟩ | ⟨a, b⟩
    · exfalso
      omega
    · refine Or.inr ⟨r, ⟨d, hd, Or.inr ⟨r, rfl, b⟩⟩, ?_⟩
      have en : rkNear r 99 = r := by unfold rkNear; (repeat' split) <;> omega
      rw [if_neg (by omega), en]
      unfold hd3
      rw [bx_up_ne (by omega), h0, bx_up_at, bx_up_ne (by omega), h2]
theorem rxfHCD_2_4 {X : (Nat → Int → Int) → Prop} {S0 : Nat → Int → Int} {ws : List Int} (hP : rxPHCD S0 ws) : bx_obE rxL X S0 rxCHCD.2.2.1 (rxIHCD S0 ws) (rxPSHCD S0 ws) 2 rxzHCD_2 rxeHCD_2_4 := by
  intro S S_p r r_p hinv hX hin hsm_ hseg
  obtain ⟨I0, I1, h0_, hr_, b_, f_, d_⟩ := bx_cl (evs := [(1, (0, 21), (0, 1), .inr (0, (11, 0))), (0, (8, 4), (9, 0), .inr (0, (12, 0))), (0, (8, 0), (0, 5), .inr (3, (8, 4)))]) (fvs := [(3, (12, 0), (0, 0), (0, 0)), (3, (11, 0), (0, (-4000000000000000000)), (0, 0))]) hseg (by decide +kernel) (by decide +kernel)
  have hinv : rxIHCD_2 S0 ws S (r 8) (r 9) (r 10) (r 11) := hinv
  rw [← hr_ 8 (by decide), ← hr_ 9 (by decide), ← hr_ 10 (by decide), ← hr_ 11 (by decide)] at hinv
  obtain ⟨⟨l8, u8⟩, ⟨l9, u9⟩, ⟨l10, u10⟩, ⟨l11, u11⟩, ⟨l12, u12⟩, -⟩ := b_
  obtain ⟨f0, f1, -⟩ := f_
  obtain ⟨T0, ⟨e1, ⟨e2, w_⟩⟩, w0⟩ := d_
  subst w0
  subst w_
  have g := rxdHCD_2_4 hP hin hsm_ I0 I1 hinv l8 u8 l9 u9 l10 u10 l11 u11 l12 u12 f0 f1 e2 e1
  refine ⟨bx_narP_ok (l := []) g.1, ?_⟩
  exact g.2
theorem rxdHCD_2_5 {S0 : Nat → Int → Int} {ws : List Int} {S : Nat → Int → Int} {pg cl stt r x12 : Int} (hP : rxPHCD S0 ws) (hin : bx_same rxL (bx_mdl rxCHCD.2.2.1) S0 S) (hin2 : bx_same rxL (bx_mdl rxCHCD.2.2.1) S (bx_up S 21 1 99)) (I0 : bx_Inv rxL S) (I1 : bx_Inv rxL (bx_up S 21 1 99)) (hinv : rxIHCD_2 S0 ws S pg cl stt r) (l8 : 0 ≤ pg) (u8 : pg ≤ 1522) (l9 : 0 ≤ cl) (u9 : cl ≤ 11) (l10 : (-1) ≤ stt) (u10 : stt ≤ 400) (l11 : 100 ≤ r) (u11 : r ≤ 9223372036854775807) (l12 : 1 ≤ x12) (u12 : x12 ≤ 4) (f0 : x12 ≠ 0) (f1 : r ≠ (-4000000000000000000)) (e2 : S (pg).toNat 5 = pg + 4) (e1 : S (pg + 4).toNat cl = x12) : (True) ∧ rxPSHCD S0 ws (bx_up S 21 1 99) none := by
  obtain ⟨hw, hk2, ⟨h0, h1, h2⟩, h4, hr⟩ := hinv
  refine ⟨trivial, rfl, pg, cl, hw, fun q vs hq hl ht => Or.inr ⟨ht, Or.inr ⟨?_, ?_⟩⟩⟩
  · have := (tqQ_x hq).1
    omega
  · obtain ⟨d, hd, h⟩ := hr q vs hq hl
    have hk := (tqQ_x hq).1
    rcases h with ⟨a, b⟩ | ⟨a, b⟩
    · exfalso
      omega
    · refine Or.inr ⟨r, ⟨d, hd, Or.inr ⟨r, rfl, b⟩⟩, ?_⟩
      have en : rkNear r 99 = 99 := by unfold rkNear; (repeat' split) <;> omega
      rw [if_neg (by omega), en]
      unfold hd3
      rw [bx_up_ne (by omega), h0, bx_up_at, bx_up_ne (by omega), h2]
theorem rxfHCD_2_5 {X : (Nat → Int → Int) → Prop} {S0 : Nat → Int → Int} {ws : List Int} (hP : rxPHCD S0 ws) : bx_obE rxL X S0 rxCHCD.2.2.1 (rxIHCD S0 ws) (rxPSHCD S0 ws) 2 rxzHCD_2 rxeHCD_2_5 := by
  intro S S_p r r_p hinv hX hin hsm_ hseg
  obtain ⟨I0, I1, h0_, hr_, b_, f_, d_⟩ := bx_cl (evs := [(1, (0, 21), (0, 1), .inr (0, (0, 99))), (0, (8, 4), (9, 0), .inr (0, (12, 0))), (0, (8, 0), (0, 5), .inr (3, (8, 4)))]) (fvs := [(3, (12, 0), (0, 0), (0, 0)), (3, (11, 0), (0, (-4000000000000000000)), (0, 0))]) hseg (by decide +kernel) (by decide +kernel)
  have hinv : rxIHCD_2 S0 ws S (r 8) (r 9) (r 10) (r 11) := hinv
  rw [← hr_ 8 (by decide), ← hr_ 9 (by decide), ← hr_ 10 (by decide), ← hr_ 11 (by decide)] at hinv
  obtain ⟨⟨l8, u8⟩, ⟨l9, u9⟩, ⟨l10, u10⟩, ⟨l11, u11⟩, ⟨l12, u12⟩, -⟩ := b_
  obtain ⟨f0, f1, -⟩ := f_
  obtain ⟨T0, ⟨e1, ⟨e2, w_⟩⟩, w0⟩ := d_
  subst w0
  subst w_
  have g := rxdHCD_2_5 hP hin hsm_ I0 I1 hinv l8 u8 l9 u9 l10 u10 l11 u11 l12 u12 f0 f1 e2 e1
  refine ⟨bx_narP_ok (l := []) g.1, ?_⟩
  exact g.2
theorem rxdHCD_2_6 {S0 : Nat → Int → Int} {ws : List Int} {S : Nat → Int → Int} {pg cl stt r x12 : Int} (hP : rxPHCD S0 ws) (hin : bx_same rxL (bx_mdl rxCHCD.2.2.1) S0 S) (hin2 : bx_same rxL (bx_mdl rxCHCD.2.2.1) S (bx_up S 21 1 0)) (I0 : bx_Inv rxL S) (I1 : bx_Inv rxL (bx_up S 21 1 0)) (hinv : rxIHCD_2 S0 ws S pg cl stt r) (l8 : 0 ≤ pg) (u8 : pg ≤ 1522) (l9 : 0 ≤ cl) (u9 : cl ≤ 11) (l10 : (-1) ≤ stt) (u10 : stt ≤ 400) (l11 : (-9223372036854775808) ≤ r) (u11 : r ≤ (-1)) (l12 : 1 ≤ x12) (u12 : x12 ≤ 4) (f0 : x12 ≠ 0) (f1 : r ≠ (-4000000000000000000)) (e2 : S (pg).toNat 5 = pg + 4) (e1 : S (pg + 4).toNat cl = x12) : (True) ∧ rxPSHCD S0 ws (bx_up S 21 1 0) none := by
  obtain ⟨hw, hk2, ⟨h0, h1, h2⟩, h4, hr⟩ := hinv
  refine ⟨trivial, rfl, pg, cl, hw, fun q vs hq hl ht => Or.inr ⟨ht, Or.inr ⟨?_, ?_⟩⟩⟩
  · have := (tqQ_x hq).1
    omega
  · obtain ⟨d, hd, h⟩ := hr q vs hq hl
    have hk := (tqQ_x hq).1
    rcases h with ⟨a, b⟩ | ⟨a, b⟩
    · exfalso
      omega
    · refine Or.inr ⟨r, ⟨d, hd, Or.inr ⟨r, rfl, b⟩⟩, ?_⟩
      have en : rkNear r 99 = 0 := by unfold rkNear; (repeat' split) <;> omega
      rw [if_neg (by omega), en]
      unfold hd3
      rw [bx_up_ne (by omega), h0, bx_up_at, bx_up_ne (by omega), h2]
theorem rxfHCD_2_6 {X : (Nat → Int → Int) → Prop} {S0 : Nat → Int → Int} {ws : List Int} (hP : rxPHCD S0 ws) : bx_obE rxL X S0 rxCHCD.2.2.1 (rxIHCD S0 ws) (rxPSHCD S0 ws) 2 rxzHCD_2 rxeHCD_2_6 := by
  intro S S_p r r_p hinv hX hin hsm_ hseg
  obtain ⟨I0, I1, h0_, hr_, b_, f_, d_⟩ := bx_cl (evs := [(1, (0, 21), (0, 1), .inr (0, (0, 0))), (0, (8, 4), (9, 0), .inr (0, (12, 0))), (0, (8, 0), (0, 5), .inr (3, (8, 4)))]) (fvs := [(3, (12, 0), (0, 0), (0, 0)), (3, (11, 0), (0, (-4000000000000000000)), (0, 0))]) hseg (by decide +kernel) (by decide +kernel)
  have hinv : rxIHCD_2 S0 ws S (r 8) (r 9) (r 10) (r 11) := hinv
  rw [← hr_ 8 (by decide), ← hr_ 9 (by decide), ← hr_ 10 (by decide), ← hr_ 11 (by decide)] at hinv
  obtain ⟨⟨l8, u8⟩, ⟨l9, u9⟩, ⟨l10, u10⟩, ⟨l11, u11⟩, ⟨l12, u12⟩, -⟩ := b_
  obtain ⟨f0, f1, -⟩ := f_
  obtain ⟨T0, ⟨e1, ⟨e2, w_⟩⟩, w0⟩ := d_
  subst w0
  subst w_
  have g := rxdHCD_2_6 hP hin hsm_ I0 I1 hinv l8 u8 l9 u9 l10 u10 l11 u11 l12 u12 f0 f1 e2 e1
  refine ⟨bx_narP_ok (l := []) g.1, ?_⟩
  exact g.2
theorem rxgCHCD {X : (Nat → Int → Int) → Prop} {S0 : Nat → Int → Int} {ws : List Int} (hP : rxPHCD S0 ws) : bx_allI (fun i q => rxUHCD q = true ∨ bx_allP (fun o => bx_obC rxL X S0 rxCHCD.2.2.1 (rxIHCD S0 ws) (rxmHCD S0 ws) i q.1 o) q.2.1) 0 rxYHCD := ⟨Or.inr ⟨rxgHCD_0_0 hP, trivial⟩, Or.inl rfl, Or.inr trivial, trivial⟩
theorem rxgEHCD {X : (Nat → Int → Int) → Prop} {S0 : Nat → Int → Int} {ws : List Int} (hP : rxPHCD S0 ws) : bx_allI (fun i q => rxUHCD q = true ∨ bx_allP (fun E => bx_obE rxL X S0 rxCHCD.2.2.1 (rxIHCD S0 ws) (rxPSHCD S0 ws) i q.1 E) q.2.2) 0 rxYHCD := ⟨Or.inr ⟨rxfHCD_0_0 hP, trivial⟩, Or.inl rfl, Or.inr ⟨rxfHCD_2_0 hP, rxfHCD_2_1 hP, rxfHCD_2_2 hP, rxfHCD_2_3 hP, rxfHCD_2_4 hP, rxfHCD_2_5 hP, rxfHCD_2_6 hP, trivial⟩, trivial⟩
theorem rxuHCD {PX : State → Prop} {Dg : va_G} {A : Nat → Prop} {ad xa : Nat → Nat} {l : Launch} {X : (Nat → Int → Int) → Prop} (hPX : rx_PXOK rxNW A PX) (hX : ∀ S S1 : Nat → Int → Int, X S → bx_same rxL (bx_mdl rxCHCD.2.2.1) S S1 → X S1) (hQTEL : bx_ConP rxG rxNW rxAO PX Dg rxL X vwCl A ad l rxM58 rxCTEL rxPTEL rxPSTEL) {S0 : Nat → Int → Int} {ws : List Int} (hP : rxPHCD S0 ws) : ∀ (i : Nat) (q : bx_HE), rxYHCD[i]? = some q → rxUHCD q = true → ∀ {p : Program} {e : Env} {R : Room} {s : State} {m : MethodId} {args : Array Value} {below : List Frame} {meth : Method} {c : Code} {Q : State → Prop} {H0 : Heap}, rx_Fr rxG rxNW rxAO PX p s m args meth c rxM102 → (∀ q, H0.size ≤ q → A q) → H0 = s.heap → rxM102.2.2.2.2.2.2.1 ≤ R.cells → rxM102.2.2.2.2.2.2.2 ≤ R.slots → rxCHCD.2.2.2.1 ≤ R.frames → rxCHCD.2.2.2.1 * 40 ≤ R.locals → bx_Step p l e R s m args below meth c Q Dg rxL X vwCl A xa H0 ad rxM102 rxYHCD (rxIHCD S0 ws) (rxmHCD S0 ws) S0 rxCHCD.2.2.1 i q := by
  intro i q hq hus p e R s m args below meth c Q H0 hF hA hH0 hmc hms hd hdl
  match i, hq with
  | 0, hq =>
    cases hq
    exact absurd (show false = true from hus) Bool.false_ne_true
  | 1, hq =>
    cases hq
    exact rx_stepC (ins := .invokevirtual 162) (len := 3) (i_p := 2) (M_p := rxM58) (d := rxCHCD.2.2.2.1) (as := [.inr (3, (8, 0)), .inr (0, (10, 0)), .inr (3, (0, 22))]) (t := []) (ct := rxCTEL) hPX hF rfl hA hH0 hmc hms hd hdl (by decide +kernel) rfl rfl (by decide +kernel) (by decide +kernel) hQTEL (by decide +kernel) rfl (Or.inr ⟨_, _, _, 2, rfl, rfl, by omega, rfl, rfl, rfl⟩) (rxsHCD_1 hP)
  | 2, hq =>
    cases hq
    exact absurd (show false = true from hus) Bool.false_ne_true
  | n + 3, hq => cases hq
theorem rxQHCD {PX : State → Prop} {Dg : va_G} {A : Nat → Prop} {ad xa : Nat → Nat} {l : Launch} {X : (Nat → Int → Int) → Prop} (hPX : rx_PXOK rxNW A PX) (hsl : ∀ s : State, PX s → ∀ o idx n : Nat, rxSl o idx = some n → ∃ tx : String, vk_R (rxNm o) idx tx (ad n) s)
    (hX : ∀ S S_p : Nat → Int → Int, X S → bx_same rxL (bx_mdl rxCHCD.2.2.1) S S_p → X S_p)
    (ih : ∀ (j2 : Nat) (ct2 : bx_Ct) (M2 : rx_Mt), ct2 ∈ rxCnE j2 → ct2.2.2.2.1 + 1 ≤ rxCHCD.2.2.2.1 → rxT.2.2.2.2.2 j2 = some M2 → bx_Con rxG rxNW rxAO PX Dg rxL X vwCl A ad l M2 ct2) (hQTEL : bx_ConP rxG rxNW rxAO PX Dg rxL X vwCl A ad l rxM58 rxCTEL rxPTEL rxPSTEL) : bx_ConP rxG rxNW rxAO PX Dg rxL X vwCl A ad l rxM102 rxCHCD rxPHCD rxPSHCD :=
  rxQof (xa := xa) (Cn := rxCnE) (f := 30000) (j := 102) (tab := rxYHCD) (us := rxUHCD) hPX hsl hX ih rfl rxYcHCD rxIHCD rxmHCD
    (fun S0 ws r I0 I ht0 ht as he he1 hX0 hI0 hP hs ha => by
      have e := he.symm.trans (show bx_ent0 rxNP rxCHCD.1 bx_I0 [] = some ([(0, 0), (0, 0), (0, 0), (0, 0), (0, 0), (0, 0), (0, 0), (0, 0), (0, 1522), (0, 11)], [(((8, 0), 1000007), .inl none)], [.inr (3, (0, 1)), .inr (3, (8, 0)), .inr (0, (9, 0))]) from rfl)
      cases e
      subst ha
      have h0 : r 0 = 0 := hs.1
      show rxIHCD_0 S0 _ S0 (r 8) (r 9)
      refine ⟨rfl, ?_⟩
      simp only [List.map_cons, List.map_nil, bx_xv_ok h0]
      rfl)
    (fun S0 ws hP => rxuHCD (xa := xa) hPX hX hQTEL hP) (fun S0 ws hP => rxgCHCD hP) (fun S0 ws hP => rxgEHCD hP)
end
