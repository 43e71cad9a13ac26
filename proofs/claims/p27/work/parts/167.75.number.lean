section
noncomputable def rxCNU : bx_Ct := ([(3, (1, 480, 0)), (2, (0, (-9223372036854775808), 9223372036854775807)), (2, (0, (-9223372036854775808), 9223372036854775807))], some (0, (0, (-2147483648), 2147483647)), [(12, 9), (12, 10), (12, 11), (12, 12), (12, 13), (12, 14)], 3, [])
noncomputable def rxINU_0 (S0 : Nat → Int → Int) (ws : List Int) (S : Nat → Int → Int) (lo hi : Int) : Prop := S = S0 ∧ ws = [480, lo, hi]
noncomputable def rxmNU_0 (S0 : Nat → Int → Int) (ws : List Int) (S : Nat → Int → Int) (lo hi : Int) : Nat := 100
noncomputable def rxzNU_0 : rx_Z := ([(0, 0), (0, 0), (0, 0), (0, 0), (0, 0), (0, 0), (0, 0), (0, 0), ((-9223372036854775808), 9223372036854775807), ((-9223372036854775808), 9223372036854775807)], [], [], 0, 0, 0, [(0, .inr (3, (0, 480))), (1, .inr (1, (8, 0))), (3, .inr (1, (9, 0)))], [])
noncomputable def rxINU_1 (S0 : Nat → Int → Int) (ws : List Int) (S : Nat → Int → Int) (v is : Int) : Prop := S = S0
noncomputable def rxmNU_1 (S0 : Nat → Int → Int) (ws : List Int) (S : Nat → Int → Int) (v is : Int) : Nat := 90
noncomputable def rxzNU_1 : rx_Z := ([(0, 0), (0, 0), (0, 0), (0, 0), (0, 0), (0, 0), (0, 0), (0, 0), ((-2147483648), 2147483647), (0, 1)], [], [], 0, 0, 33, [(0, .inr (3, (0, 480))), (5, .inr (0, (8, 0)))], [.inr (0, (9, 0)), .inr (3, (0, 480))])
noncomputable def rxINU_2 (S0 : Nat → Int → Int) (ws : List Int) (S : Nat → Int → Int) (v is : Int) : Prop := rxTk S ∧ rxSm S0 S ∧ S0 480 9 ≤ S 480 9
noncomputable def rxmNU_2 (S0 : Nat → Int → Int) (ws : List Int) (S : Nat → Int → Int) (v is : Int) : Nat := 80
noncomputable def rxzNU_2 : rx_Z := ([(0, 0), (0, 0), (0, 0), (0, 0), (0, 0), (0, 0), (0, 0), (0, 0), ((-2147483648), 2147483647), (0, 1)], [], [], 0, 0, 36, [(0, .inr (3, (0, 480))), (5, .inr (0, (8, 0)))], [])
noncomputable def rxoNU_0_0 : bx_HO := (([(0, 0), (0, 0), (0, 0), (0, 0), (0, 0), (0, 0), (0, 0), (0, 0), ((-9223372036854775807), 9223372036854775807), ((-9223372036854775808), 9223372036854775807), ((-9223372036854775808), 9223372036854775806), ((-2147483648), 2147483647), (2, 2)], [(0, (10, 0), (8, 0))], [(((0, 0), 1851192626986356799632114105031551009123054124018230966928539648000000), .inr (0, (12, 0))), (((0, 480), 11), .inr (0, (12, 0))), (((0, 0), 1851192626986356799832820811818326617396875588472066220482363392000000), .inr (1, (10, 0))), (((0, 480), 12), .inr (1, (10, 0)))], 0, 0, 33, [(5, .inr (0, (11, 0))), (0, .inr (3, (0, 480))), (1, .inr (1, (8, 0))), (3, .inr (1, (9, 0)))], [.inr (0, (0, 0)), .inr (3, (0, 480))]), [], [], [(0, 0), (0, 0), (0, 0), (0, 0), (0, 0), (0, 0), (0, 0), (0, 0), (11, 0), (0, 0)], 1)
noncomputable def rxoNU_0_1 : bx_HO := (([(0, 0), (0, 0), (0, 0), (0, 0), (0, 0), (0, 0), (0, 0), (0, 0), ((-9223372036854775808), 9223372036854775807), ((-9223372036854775808), 9223372036854775806), ((-9223372036854775807), 9223372036854775807), ((-2147483648), 2147483647), (2, 2)], [(0, (9, 0), (10, 0)), (1, (8, 0), (10, 0))], [(((0, 0), 1851192626986356799632114105031551009123054124018230966928539648000000), .inr (0, (12, 0))), (((0, 480), 11), .inr (0, (12, 0))), (((0, 0), 1851192626986356799832820811818326617396875588472066220482363392000000), .inr (1, (10, 0))), (((0, 480), 12), .inr (1, (10, 0)))], 0, 0, 33, [(5, .inr (0, (11, 0))), (0, .inr (3, (0, 480))), (1, .inr (1, (8, 0))), (3, .inr (1, (9, 0)))], [.inr (0, (0, 0)), .inr (3, (0, 480))]), [], [], [(0, 0), (0, 0), (0, 0), (0, 0), (0, 0), (0, 0), (0, 0), (0, 0), (11, 0), (0, 0)], 1)
noncomputable def rxoNU_0_2 : bx_HO := (([(0, 0), (0, 0), (0, 0), (0, 0), (0, 0), (0, 0), (0, 0), (0, 0), ((-9223372036854775808), 9223372036854775807), ((-9223372036854775808), 9223372036854775807), ((-9223372036854775808), 9223372036854775807), ((-2147483648), 2147483647), (2, 2)], [(1, (10, 0), (9, 0)), (1, (8, 0), (10, 0))], [(((0, 0), 1851192626986356799632114105031551009123054124018230966928539648000000), .inr (0, (12, 0))), (((0, 480), 11), .inr (0, (12, 0))), (((0, 0), 1851192626986356799832820811818326617396875588472066220482363392000000), .inr (1, (10, 0))), (((0, 480), 12), .inr (1, (10, 0)))], 0, 0, 33, [(5, .inr (0, (11, 0))), (0, .inr (3, (0, 480))), (1, .inr (1, (8, 0))), (3, .inr (1, (9, 0)))], [.inr (0, (0, 1)), .inr (3, (0, 480))]), [], [], [(0, 0), (0, 0), (0, 0), (0, 0), (0, 0), (0, 0), (0, 0), (0, 0), (11, 0), (0, 1)], 1)
noncomputable def rxoNU_0_3 : bx_HO := (([(0, 0), (0, 0), (0, 0), (0, 0), (0, 0), (0, 0), (0, 0), (0, 0), ((-9223372036854775808), 9223372036854775807), ((-9223372036854775808), 9223372036854775807), ((-9223372036854775808), 9223372036854775807), ((-2147483648), 2147483647), (0, 3)], [(3, (12, 0), (0, 2))], [(((0, 0), 1851192626986356799632114105031551009123054124018230966928539648000000), .inr (0, (12, 0))), (((0, 480), 11), .inr (0, (12, 0))), (((0, 0), 1851192626986356799832820811818326617396875588472066220482363392000000), .inr (1, (10, 0))), (((0, 480), 12), .inr (1, (10, 0)))], 0, 0, 33, [(5, .inr (0, (11, 0))), (0, .inr (3, (0, 480))), (1, .inr (1, (8, 0))), (3, .inr (1, (9, 0)))], [.inr (0, (0, 0)), .inr (3, (0, 480))]), [], [], [(0, 0), (0, 0), (0, 0), (0, 0), (0, 0), (0, 0), (0, 0), (0, 0), (11, 0), (0, 0)], 1)
noncomputable def rxeNU_2_0 : rx_End × List (Nat × Int × Int) := (([(0, 0), (0, 0), (0, 0), (0, 0), (0, 0), (0, 0), (0, 0), (0, 0), ((-2147483648), 2147483647), (0, 1)], [], [], some (.inr (0, (8, 0)))), [])
noncomputable def rxYNU : List bx_HE := [(rxzNU_0, [rxoNU_0_0, rxoNU_0_1, rxoNU_0_2, rxoNU_0_3], []), (rxzNU_1, [], []), (rxzNU_2, [], [rxeNU_2_0])]
noncomputable def rxUNU (q : bx_HE) : Bool := Nat.beq (rx_zpc q.1) 33
noncomputable def rxYBNU : bx_B := (rxV, rxNP, rxDmf, bx_mdH rxCNU.2.2.1)
set_option maxRecDepth 100000 in
theorem rxYcNU : bx_chkH rxYBNU rxM293 rxCNU rxYNU (rxUNU, fun cut z => rx_ex2 (rxCT rxYBNU rxCnE) cut 30000 rxCNU.2.2.2.1 293 z) = true := by decide +kernel
noncomputable def rxINU (S0 : Nat → Int → Int) (ws : List Int) (i : Nat) : bx_SP := fun S r => match i with | 0 => rxINU_0 S0 ws S (r 8) (r 9) | 1 => rxINU_1 S0 ws S (r 8) (r 9) | 2 => rxINU_2 S0 ws S (r 8) (r 9) | _ => False
noncomputable def rxmNU (S0 : Nat → Int → Int) (ws : List Int) (i : Nat) (S : Nat → Int → Int) (r : Nat → Int) : Nat := match i with | 0 => rxmNU_0 S0 ws S (r 8) (r 9) | 1 => rxmNU_1 S0 ws S (r 8) (r 9) | 2 => rxmNU_2 S0 ws S (r 8) (r 9) | _ => 0
noncomputable def rxPNU (S0 : Nat → Int → Int) (ws : List Int) : Prop := rxTk S0
noncomputable def rxPSNU (S0 : Nat → Int → Int) (ws : List Int) (S : Nat → Int → Int) (w : Option Int) : Prop := rxTk S ∧ rxSm S0 S ∧ S0 480 9 ≤ S 480 9
theorem rxkNU_1 {S0 : Nat → Int → Int} {ws : List Int} {S : Nat → Int → Int} {v is : Int} (hP : rxPNU S0 ws) (hin : bx_same rxL (bx_mdl rxCNU.2.2.1) S0 S) (I0 : bx_Inv rxL S) (hinv : rxINU_1 S0 ws S v is) (l8 : (-2147483648) ≤ v) (u8 : v ≤ 2147483647) (l9 : 0 ≤ is) (u9 : is ≤ 1) : rxPMU S [480, is] ∧ ∀ (S_p : Nat → Int → Int), rxPSMU S [480, is] S_p none → bx_Inv rxL S_p → bx_same rxL (bx_mdl rxCMU.2.2.1) S S_p → rxINU_2 S0 ws S_p v is ∧ rxmNU_2 S0 ws S_p v is < rxmNU_1 S0 ws S v is := by
  have hinv : S = S0 := hinv
  subst hinv
  have hT : rxTk S := hP
  have t1 := hT.2.1
  refine ⟨hT, fun S_p hq I1 hsm => ⟨⟨hq.2.1, rxSm_of hsm (by decide +kernel), ?_⟩, by unfold rxmNU_1 rxmNU_2; omega⟩⟩
  obtain ⟨-, -, is_p, hw2, hc⟩ := hq
  omega
theorem rxsNU_1 {X : (Nat → Int → Int) → Prop} {S0 : Nat → Int → Int} {ws : List Int} (hP : rxPNU S0 ws) : rx_obK X S0 rxCNU.2.2.1 rxCMU.2.2.1 (rxINU S0 ws) (rxmNU S0 ws) 1 2 rxzNU_1 rxzNU_2 [.inr (3, (0, 480)), .inr (0, (9, 0))] none rxPMU rxPSMU := by
  intro S r hinv hXS I0 hin hs_ hf_
  have b_ := bx_bds_sat hs_
  have f_ := bx_fcl_ok hs_.1 hf_
  obtain ⟨⟨l8, u8⟩, ⟨l9, u9⟩, -⟩ := b_
  have g := rxkNU_1 hP hin I0 hinv l8 u8 l9 u9
  have ea : List.map (bx_num r) [.inr (3, (0, 480)), .inr (0, (9, 0))] = [480, (r 9)] := by
    simp only [List.map_cons, List.map_nil, bx_xv_ok hs_.1]
    rfl
  rw [ea]
  refine ⟨g.1, fun S_p w r_p hPS hX_p I1 hsm hr hw hs_p => ?_⟩
  have hw : w = none := hPS.1
  subst hw
  have g2 := g.2 S_p hPS I1 hsm
  show rxINU_2 S0 ws S_p (r_p 8) (r_p 9) ∧ rxmNU_2 S0 ws S_p (r_p 8) (r_p 9) < _
  rw [hr 8 (by decide), hr 9 (by decide)]
  exact g2
theorem rxcNU_0_0 {S0 : Nat → Int → Int} {ws : List Int} {S : Nat → Int → Int} {lo hi x10 x11 x12 : Int} (hP : rxPNU S0 ws) (hin : bx_same rxL (bx_mdl rxCNU.2.2.1) S0 S) (I0 : bx_Inv rxL S) (hinv : rxINU_0 S0 ws S lo hi) (l8 : (-9223372036854775807) ≤ lo) (u8 : lo ≤ 9223372036854775807) (l9 : (-9223372036854775808) ≤ hi) (u9 : hi ≤ 9223372036854775807) (l10 : (-9223372036854775808) ≤ x10) (u10 : x10 ≤ 9223372036854775806) (l11 : (-2147483648) ≤ x11) (u11 : x11 ≤ 2147483647) (l12 : 2 ≤ x12) (u12 : x12 ≤ 2) (f0 : x10 < lo) (e1 : S 480 12 = x10) (e0 : S 480 11 = x12) : (True) ∧ (True) ∧ rxINU_1 S0 ws S x11 0 ∧ rxmNU_1 S0 ws S x11 0 < rxmNU_0 S0 ws S lo hi := by
  exact ⟨trivial, trivial, hinv.1, by unfold rxmNU_0 rxmNU_1; omega⟩
theorem rxgNU_0_0 {X : (Nat → Int → Int) → Prop} {S0 : Nat → Int → Int} {ws : List Int} (hP : rxPNU S0 ws) : bx_obC rxL X S0 rxCNU.2.2.1 (rxINU S0 ws) (rxmNU S0 ws) 0 rxzNU_0 rxoNU_0_0 := by
  intro S S_p r r_p hinv hX hin hsm_ hseg
  obtain ⟨I0, I1, h0_, hr_, b_, f_, d_⟩ := bx_cl (evs := [(0, (0, 480), (0, 11), .inr (0, (12, 0))), (0, (0, 480), (0, 12), .inr (1, (10, 0)))]) (fvs := [(0, (10, 0), (8, 0), (0, 0))]) hseg (by decide +kernel) (by decide +kernel)
  have hinv : rxINU_0 S0 ws S (r 8) (r 9) := hinv
  rw [← hr_ 8 (by decide), ← hr_ 9 (by decide)] at hinv
  obtain ⟨⟨l8, u8⟩, ⟨l9, u9⟩, ⟨l10, u10⟩, ⟨l11, u11⟩, ⟨l12, u12⟩, -⟩ := b_
  obtain ⟨f0, -⟩ := f_
  obtain ⟨e0, ⟨e1, w_⟩⟩ := d_
  subst w_
  have g := rxcNU_0_0 hP hin I0 hinv l8 u8 l9 u9 l10 u10 l11 u11 l12 u12 f0 e1 e0
  refine ⟨bx_narP_ok (l := []) g.1, bx_nfP_ok h0_ (fvs := []) (by decide +kernel) g.2.1, ?_, ?_⟩
  · show rxINU_1 S0 ws S_p (bx_val [(0, 0), (0, 0), (0, 0), (0, 0), (0, 0), (0, 0), (0, 0), (0, 0), (11, 0), (0, 0)] r_p 8) (bx_val [(0, 0), (0, 0), (0, 0), (0, 0), (0, 0), (0, 0), (0, 0), (0, 0), (11, 0), (0, 0)] r_p 9)
    rw [bx_val_x (n := 8) (e := (11, 0)) h0_ rfl, bx_val_x (n := 9) (e := (0, 0)) h0_ rfl]
    exact g.2.2.1
  · show rxmNU_1 S0 ws S_p (bx_val [(0, 0), (0, 0), (0, 0), (0, 0), (0, 0), (0, 0), (0, 0), (0, 0), (11, 0), (0, 0)] r_p 8) (bx_val [(0, 0), (0, 0), (0, 0), (0, 0), (0, 0), (0, 0), (0, 0), (0, 0), (11, 0), (0, 0)] r_p 9) < rxmNU_0 S0 ws S_p (r 8) (r 9)
    rw [bx_val_x (n := 8) (e := (11, 0)) h0_ rfl, bx_val_x (n := 9) (e := (0, 0)) h0_ rfl, ← hr_ 8 (by decide), ← hr_ 9 (by decide)]
    exact g.2.2.2
theorem rxcNU_0_1 {S0 : Nat → Int → Int} {ws : List Int} {S : Nat → Int → Int} {lo hi x10 x11 x12 : Int} (hP : rxPNU S0 ws) (hin : bx_same rxL (bx_mdl rxCNU.2.2.1) S0 S) (I0 : bx_Inv rxL S) (hinv : rxINU_0 S0 ws S lo hi) (l8 : (-9223372036854775808) ≤ lo) (u8 : lo ≤ 9223372036854775807) (l9 : (-9223372036854775808) ≤ hi) (u9 : hi ≤ 9223372036854775806) (l10 : (-9223372036854775807) ≤ x10) (u10 : x10 ≤ 9223372036854775807) (l11 : (-2147483648) ≤ x11) (u11 : x11 ≤ 2147483647) (l12 : 2 ≤ x12) (u12 : x12 ≤ 2) (f0 : hi < x10) (f1 : lo ≤ x10) (e1 : S 480 12 = x10) (e0 : S 480 11 = x12) : (True) ∧ (True) ∧ rxINU_1 S0 ws S x11 0 ∧ rxmNU_1 S0 ws S x11 0 < rxmNU_0 S0 ws S lo hi := by
  exact ⟨trivial, trivial, hinv.1, by unfold rxmNU_0 rxmNU_1; omega⟩
theorem rxgNU_0_1 {X : (Nat → Int → Int) → Prop} {S0 : Nat → Int → Int} {ws : List Int} (hP : rxPNU S0 ws) : bx_obC rxL X S0 rxCNU.2.2.1 (rxINU S0 ws) (rxmNU S0 ws) 0 rxzNU_0 rxoNU_0_1 := by
  intro S S_p r r_p hinv hX hin hsm_ hseg
  obtain ⟨I0, I1, h0_, hr_, b_, f_, d_⟩ := bx_cl (evs := [(0, (0, 480), (0, 11), .inr (0, (12, 0))), (0, (0, 480), (0, 12), .inr (1, (10, 0)))]) (fvs := [(0, (9, 0), (10, 0), (0, 0)), (1, (8, 0), (10, 0), (0, 0))]) hseg (by decide +kernel) (by decide +kernel)
  have hinv : rxINU_0 S0 ws S (r 8) (r 9) := hinv
  rw [← hr_ 8 (by decide), ← hr_ 9 (by decide)] at hinv
  obtain ⟨⟨l8, u8⟩, ⟨l9, u9⟩, ⟨l10, u10⟩, ⟨l11, u11⟩, ⟨l12, u12⟩, -⟩ := b_
  obtain ⟨f0, f1, -⟩ := f_
  obtain ⟨e0, ⟨e1, w_⟩⟩ := d_
  subst w_
  have g := rxcNU_0_1 hP hin I0 hinv l8 u8 l9 u9 l10 u10 l11 u11 l12 u12 f0 f1 e1 e0
  refine ⟨bx_narP_ok (l := []) g.1, bx_nfP_ok h0_ (fvs := []) (by decide +kernel) g.2.1, ?_, ?_⟩
  · show rxINU_1 S0 ws S_p (bx_val [(0, 0), (0, 0), (0, 0), (0, 0), (0, 0), (0, 0), (0, 0), (0, 0), (11, 0), (0, 0)] r_p 8) (bx_val [(0, 0), (0, 0), (0, 0), (0, 0), (0, 0), (0, 0), (0, 0), (0, 0), (11, 0), (0, 0)] r_p 9)
    rw [bx_val_x (n := 8) (e := (11, 0)) h0_ rfl, bx_val_x (n := 9) (e := (0, 0)) h0_ rfl]
    exact g.2.2.1
  · show rxmNU_1 S0 ws S_p (bx_val [(0, 0), (0, 0), (0, 0), (0, 0), (0, 0), (0, 0), (0, 0), (0, 0), (11, 0), (0, 0)] r_p 8) (bx_val [(0, 0), (0, 0), (0, 0), (0, 0), (0, 0), (0, 0), (0, 0), (0, 0), (11, 0), (0, 0)] r_p 9) < rxmNU_0 S0 ws S_p (r 8) (r 9)
    rw [bx_val_x (n := 8) (e := (11, 0)) h0_ rfl, bx_val_x (n := 9) (e := (0, 0)) h0_ rfl, ← hr_ 8 (by decide), ← hr_ 9 (by decide)]
    exact g.2.2.2
theorem rxcNU_0_2 {S0 : Nat → Int → Int} {ws : List Int} {S : Nat → Int → Int} {lo hi x10 x11 x12 : Int} (hP : rxPNU S0 ws) (hin : bx_same rxL (bx_mdl rxCNU.2.2.1) S0 S) (I0 : bx_Inv rxL S) (hinv : rxINU_0 S0 ws S lo hi) (l8 : (-9223372036854775808) ≤ lo) (u8 : lo ≤ 9223372036854775807) (l9 : (-9223372036854775808) ≤ hi) (u9 : hi ≤ 9223372036854775807) (l10 : (-9223372036854775808) ≤ x10) (u10 : x10 ≤ 9223372036854775807) (l11 : (-2147483648) ≤ x11) (u11 : x11 ≤ 2147483647) (l12 : 2 ≤ x12) (u12 : x12 ≤ 2) (f0 : x10 ≤ hi) (f1 : lo ≤ x10) (e1 : S 480 12 = x10) (e0 : S 480 11 = x12) : (True) ∧ (True) ∧ rxINU_1 S0 ws S x11 1 ∧ rxmNU_1 S0 ws S x11 1 < rxmNU_0 S0 ws S lo hi := by
  exact ⟨trivial, trivial, hinv.1, by unfold rxmNU_0 rxmNU_1; omega⟩
theorem rxgNU_0_2 {X : (Nat → Int → Int) → Prop} {S0 : Nat → Int → Int} {ws : List Int} (hP : rxPNU S0 ws) : bx_obC rxL X S0 rxCNU.2.2.1 (rxINU S0 ws) (rxmNU S0 ws) 0 rxzNU_0 rxoNU_0_2 := by
  intro S S_p r r_p hinv hX hin hsm_ hseg
  obtain ⟨I0, I1, h0_, hr_, b_, f_, d_⟩ := bx_cl (evs := [(0, (0, 480), (0, 11), .inr (0, (12, 0))), (0, (0, 480), (0, 12), .inr (1, (10, 0)))]) (fvs := [(1, (10, 0), (9, 0), (0, 0)), (1, (8, 0), (10, 0), (0, 0))]) hseg (by decide +kernel) (by decide +kernel)
  have hinv : rxINU_0 S0 ws S (r 8) (r 9) := hinv
  rw [← hr_ 8 (by decide), ← hr_ 9 (by decide)] at hinv
  obtain ⟨⟨l8, u8⟩, ⟨l9, u9⟩, ⟨l10, u10⟩, ⟨l11, u11⟩, ⟨l12, u12⟩, -⟩ := b_
  obtain ⟨f0, f1, -⟩ := f_
  obtain ⟨e0, ⟨e1, w_⟩⟩ := d_
  subst w_
  have g := rxcNU_0_2 hP hin I0 hinv l8 u8 l9 u9 l10 u10 l11 u11 l12 u12 f0 f1 e1 e0
  refine ⟨bx_narP_ok (l := []) g.1, bx_nfP_ok h0_ (fvs := []) (by decide +kernel) g.2.1, ?_, ?_⟩
  · show rxINU_1 S0 ws S_p (bx_val [(0, 0), (0, 0), (0, 0), (0, 0), (0, 0), (0, 0), (0, 0), (0, 0), (11, 0), (0, 1)] r_p 8) (bx_val [(0, 0), (0, 0), (0, 0), (0, 0), (0, 0), (0, 0), (0, 0), (0, 0), (11, 0), (0, 1)] r_p 9)
    rw [bx_val_x (n := 8) (e := (11, 0)) h0_ rfl, bx_val_x (n := 9) (e := (0, 1)) h0_ rfl]
    exact g.2.2.1
  · show rxmNU_1 S0 ws S_p (bx_val [(0, 0), (0, 0), (0, 0), (0, 0), (0, 0), (0, 0), (0, 0), (0, 0), (11, 0), (0, 1)] r_p 8) (bx_val [(0, 0), (0, 0), (0, 0), (0, 0), (0, 0), (0, 0), (0, 0), (0, 0), (11, 0), (0, 1)] r_p 9) < rxmNU_0 S0 ws S_p (r 8) (r 9)
    rw [bx_val_x (n := 8) (e := (11, 0)) h0_ rfl, bx_val_x (n := 9) (e := (0, 1)) h0_ rfl, ← hr_ 8 (by decide), ← hr_ 9 (by decide)]
    exact g.2.2.2
theorem rxcNU_0_3 {S0 : Nat → Int → Int} {ws : List Int} {S : Nat → Int → Int} {lo hi x10 x11 x12 : Int} (hP : rxPNU S0 ws) (hin : bx_same rxL (bx_mdl rxCNU.2.2.1) S0 S) (I0 : bx_Inv rxL S) (hinv : rxINU_0 S0 ws S lo hi) (l8 : (-9223372036854775808) ≤ lo) (u8 : lo ≤ 9223372036854775807) (l9 : (-9223372036854775808) ≤ hi) (u9 : hi ≤ 9223372036854775807) (l10 : (-9223372036854775808) ≤ x10) (u10 : x10 ≤ 9223372036854775807) (l11 : (-2147483648) ≤ x11) (u11 : x11 ≤ 2147483647) (l12 : 0 ≤ x12) (u12 : x12 ≤ 3) (f0 : x12 ≠ 2) (e1 : S 480 12 = x10) (e0 : S 480 11 = x12) : (True) ∧ (True) ∧ rxINU_1 S0 ws S x11 0 ∧ rxmNU_1 S0 ws S x11 0 < rxmNU_0 S0 ws S lo hi := by
  exact ⟨trivial, trivial, hinv.1, by unfold rxmNU_0 rxmNU_1; omega⟩
theorem rxgNU_0_3 {X : (Nat → Int → Int) → Prop} {S0 : Nat → Int → Int} {ws : List Int} (hP : rxPNU S0 ws) : bx_obC rxL X S0 rxCNU.2.2.1 (rxINU S0 ws) (rxmNU S0 ws) 0 rxzNU_0 rxoNU_0_3 := by
  intro S S_p r r_p hinv hX hin hsm_ hseg
  obtain ⟨I0, I1, h0_, hr_, b_, f_, d_⟩ := bx_cl (evs := [(0, (0, 480), (0, 11), .inr (0, (12, 0))), (0, (0, 480), (0, 12), .inr (1, (10, 0)))]) (fvs := [(3, (12, 0), (0, 2), (0, 0))]) hseg (by decide +kernel) (by decide +kernel)
  have hinv : rxINU_0 S0 ws S (r 8) (r 9) := hinv
  rw [← hr_ 8 (by decide), ← hr_ 9 (by decide)] at hinv
  obtain ⟨⟨l8, u8⟩, ⟨l9, u9⟩, ⟨l10, u10⟩, ⟨l11, u11⟩, ⟨l12, u12⟩, -⟩ := b_
  obtain ⟨f0, -⟩ := f_
  obtain ⟨e0, ⟨e1, w_⟩⟩ := d_
  subst w_
  have g := rxcNU_0_3 hP hin I0 hinv l8 u8 l9 u9 l10 u10 l11 u11 l12 u12 f0 e1 e0
  refine ⟨bx_narP_ok (l := []) g.1, bx_nfP_ok h0_ (fvs := []) (by decide +kernel) g.2.1, ?_, ?_⟩
  · show rxINU_1 S0 ws S_p (bx_val [(0, 0), (0, 0), (0, 0), (0, 0), (0, 0), (0, 0), (0, 0), (0, 0), (11, 0), (0, 0)] r_p 8) (bx_val [(0, 0), (0, 0), (0, 0), (0, 0), (0, 0), (0, 0), (0, 0), (0, 0), (11, 0), (0, 0)] r_p 9)
    rw [bx_val_x (n := 8) (e := (11, 0)) h0_ rfl, bx_val_x (n := 9) (e := (0, 0)) h0_ rfl]
    exact g.2.2.1
  · show rxmNU_1 S0 ws S_p (bx_val [(0, 0), (0, 0), (0, 0), (0, 0), (0, 0), (0, 0), (0, 0), (0, 0), (11, 0), (0, 0)] r_p 8) (bx_val [(0, 0), (0, 0), (0, 0), (0, 0), (0, 0), (0, 0), (0, 0), (0, 0), (11, 0), (0, 0)] r_p 9) < rxmNU_0 S0 ws S_p (r 8) (r 9)
    rw [bx_val_x (n := 8) (e := (11, 0)) h0_ rfl, bx_val_x (n := 9) (e := (0, 0)) h0_ rfl, ← hr_ 8 (by decide), ← hr_ 9 (by decide)]
    exact g.2.2.2
theorem rxdNU_2_0 {S0 : Nat → Int → Int} {ws : List Int} {S : Nat → Int → Int} {v is : Int} (hP : rxPNU S0 ws) (hin : bx_same rxL (bx_mdl rxCNU.2.2.1) S0 S) (hin2 : bx_same rxL (bx_mdl rxCNU.2.2.1) S S) (I0 : bx_Inv rxL S) (I1 : bx_Inv rxL S) (hinv : rxINU_2 S0 ws S v is) (l8 : (-2147483648) ≤ v) (u8 : v ≤ 2147483647) (l9 : 0 ≤ is) (u9 : is ≤ 1) : (True) ∧ rxPSNU S0 ws S (some v) := by
  exact ⟨trivial, hinv⟩
theorem rxfNU_2_0 {X : (Nat → Int → Int) → Prop} {S0 : Nat → Int → Int} {ws : List Int} (hP : rxPNU S0 ws) : bx_obE rxL X S0 rxCNU.2.2.1 (rxINU S0 ws) (rxPSNU S0 ws) 2 rxzNU_2 rxeNU_2_0 := by
  intro S S_p r r_p hinv hX hin hsm_ hseg
  obtain ⟨I0, I1, h0_, hr_, b_, f_, d_⟩ := bx_cl (evs := []) (fvs := []) hseg (by decide +kernel) (by decide +kernel)
  have hinv : rxINU_2 S0 ws S (r 8) (r 9) := hinv
  rw [← hr_ 8 (by decide), ← hr_ 9 (by decide)] at hinv
  obtain ⟨⟨l8, u8⟩, ⟨l9, u9⟩, -⟩ := b_
  have w_ := d_
  subst w_
  have g := rxdNU_2_0 hP hin hsm_ I0 I1 hinv l8 u8 l9 u9
  refine ⟨bx_narP_ok (l := []) g.1, ?_⟩
  show rxPSNU S0 ws S_p (some (bx_num r_p (.inr (0, (8, 0)))))
  rw [bx_xv_ok h0_]
  exact g.2
theorem rxgCNU {X : (Nat → Int → Int) → Prop} {S0 : Nat → Int → Int} {ws : List Int} (hP : rxPNU S0 ws) : bx_allI (fun i q => rxUNU q = true ∨ bx_allP (fun o => bx_obC rxL X S0 rxCNU.2.2.1 (rxINU S0 ws) (rxmNU S0 ws) i q.1 o) q.2.1) 0 rxYNU := ⟨Or.inr ⟨rxgNU_0_0 hP, rxgNU_0_1 hP, rxgNU_0_2 hP, rxgNU_0_3 hP, trivial⟩, Or.inl rfl, Or.inr trivial, trivial⟩
theorem rxgENU {X : (Nat → Int → Int) → Prop} {S0 : Nat → Int → Int} {ws : List Int} (hP : rxPNU S0 ws) : bx_allI (fun i q => rxUNU q = true ∨ bx_allP (fun E => bx_obE rxL X S0 rxCNU.2.2.1 (rxINU S0 ws) (rxPSNU S0 ws) i q.1 E) q.2.2) 0 rxYNU := ⟨Or.inr trivial, Or.inl rfl, Or.inr ⟨rxfNU_2_0 hP, trivial⟩, trivial⟩
theorem rxuNU {PX : State → Prop} {Dg : va_G} {A : Nat → Prop} {ad xa : Nat → Nat} {l : Launch} {X : (Nat → Int → Int) → Prop} (hPX : rx_PXOK rxNW A PX) (hX : ∀ S S1 : Nat → Int → Int, X S → bx_same rxL (bx_mdl rxCNU.2.2.1) S S1 → X S1) (hQMU : bx_ConP rxG rxNW rxAO PX Dg rxL X vwCl A ad l rxM265 rxCMU rxPMU rxPSMU) {S0 : Nat → Int → Int} {ws : List Int} (hP : rxPNU S0 ws) : ∀ (i : Nat) (q : bx_HE), rxYNU[i]? = some q → rxUNU q = true → ∀ {p : Program} {e : Env} {R : Room} {s : State} {m : MethodId} {args : Array Value} {below : List Frame} {meth : Method} {c : Code} {Q : State → Prop} {H0 : Heap}, rx_Fr rxG rxNW rxAO PX p s m args meth c rxM293 → (∀ q, H0.size ≤ q → A q) → H0 = s.heap → rxM293.2.2.2.2.2.2.1 ≤ R.cells → rxM293.2.2.2.2.2.2.2 ≤ R.slots → rxCNU.2.2.2.1 ≤ R.frames → rxCNU.2.2.2.1 * 40 ≤ R.locals → bx_Step p l e R s m args below meth c Q Dg rxL X vwCl A xa H0 ad rxM293 rxYNU (rxINU S0 ws) (rxmNU S0 ws) S0 rxCNU.2.2.1 i q := by
  intro i q hq hus p e R s m args below meth c Q H0 hF hA hH0 hmc hms hd hdl
  match i, hq with
  | 0, hq =>
    cases hq
    exact absurd (show false = true from hus) Bool.false_ne_true
  | 1, hq =>
    cases hq
    exact rx_stepC (ins := .invokevirtual 284) (len := 3) (i_p := 2) (M_p := rxM265) (d := rxCNU.2.2.2.1) (as := [.inr (3, (0, 480)), .inr (0, (9, 0))]) (t := []) (ct := rxCMU) hPX hF rfl hA hH0 hmc hms hd hdl (by decide +kernel) rfl rfl (by decide +kernel) (by decide +kernel) hQMU (by decide +kernel) rfl (Or.inl ⟨rfl, rfl, rfl⟩) (rxsNU_1 hP)
  | 2, hq =>
    cases hq
    exact absurd (show false = true from hus) Bool.false_ne_true
  | n + 3, hq => cases hq
theorem rxQNU {PX : State → Prop} {Dg : va_G} {A : Nat → Prop} {ad xa : Nat → Nat} {l : Launch} {X : (Nat → Int → Int) → Prop} (hPX : rx_PXOK rxNW A PX) (hsl : ∀ s : State, PX s → ∀ o idx n : Nat, rxSl o idx = some n → ∃ tx : String, vk_R (rxNm o) idx tx (ad n) s)
    (hX : ∀ S S_p : Nat → Int → Int, X S → bx_same rxL (bx_mdl rxCNU.2.2.1) S S_p → X S_p)
    (ih : ∀ (j2 : Nat) (ct2 : bx_Ct) (M2 : rx_Mt), ct2 ∈ rxCnE j2 → ct2.2.2.2.1 + 1 ≤ rxCNU.2.2.2.1 → rxT.2.2.2.2.2 j2 = some M2 → bx_Con rxG rxNW rxAO PX Dg rxL X vwCl A ad l M2 ct2) (hQMU : bx_ConP rxG rxNW rxAO PX Dg rxL X vwCl A ad l rxM265 rxCMU rxPMU rxPSMU) : bx_ConP rxG rxNW rxAO PX Dg rxL X vwCl A ad l rxM293 rxCNU rxPNU rxPSNU :=
  rxQof (xa := xa) (Cn := rxCnE) (f := 30000) (j := 293) (tab := rxYNU) (us := rxUNU) hPX hsl hX ih rfl rxYcNU rxINU rxmNU
    (fun S0 ws r I0 I ht0 ht as he he1 hX0 hI0 hP hs ha => by
      have e := he.symm.trans (show bx_ent0 rxNP rxCNU.1 bx_I0 [] = some ([(0, 0), (0, 0), (0, 0), (0, 0), (0, 0), (0, 0), (0, 0), (0, 0), ((-9223372036854775808), 9223372036854775807), ((-9223372036854775808), 9223372036854775807)], [], [.inr (3, (0, 480)), .inr (1, (8, 0)), .inr (1, (9, 0))]) from rfl)
      cases e
      subst ha
      have h0 : r 0 = 0 := hs.1
      show rxINU_0 S0 _ S0 (r 8) (r 9)
      refine ⟨rfl, ?_⟩
      simp only [List.map_cons, List.map_nil, bx_xv_ok h0]
      rfl)
    (fun S0 ws hP => rxuNU (xa := xa) hPX hX hQMU hP) (fun S0 ws hP => rxgCNU hP) (fun S0 ws hP => rxgENU hP)
end
section
noncomputable def rxCRPL : bx_Ct := ([(3, (1, 480, 0))], some (0, (0, (-2147483648), 2147483647)), [(12, 9), (12, 10), (12, 11), (12, 12), (12, 13), (12, 14)], 4, [])
noncomputable def rxIRPL_0 (S0 : Nat → Int → Int) (ws : List Int) (S : Nat → Int → Int) : Prop := S = S0 ∧ ws = [480]
noncomputable def rxmRPL_0 (S0 : Nat → Int → Int) (ws : List Int) (S : Nat → Int → Int) : Nat := 100
noncomputable def rxzRPL_0 : rx_Z := ([(0, 0), (0, 0), (0, 0), (0, 0), (0, 0), (0, 0), (0, 0), (0, 0)], [], [], 0, 0, 0, [(0, .inr (3, (0, 480)))], [])
noncomputable def rxIRPL_1 (S0 : Nat → Int → Int) (ws : List Int) (S : Nat → Int → Int) : Prop := S = S0
noncomputable def rxmRPL_1 (S0 : Nat → Int → Int) (ws : List Int) (S : Nat → Int → Int) : Nat := 90
noncomputable def rxzRPL_1 : rx_Z := ([(0, 0), (0, 0), (0, 0), (0, 0), (0, 0), (0, 0), (0, 0), (0, 0)], [], [], 0, 0, 11, [(0, .inr (3, (0, 480)))], [.inr (3, (0, 480))])
noncomputable def rxIRPL_2 (S0 : Nat → Int → Int) (ws : List Int) (S : Nat → Int → Int) : Prop := rxTk S ∧ rxSm S0 S ∧ S0 480 9 ≤ S 480 9
noncomputable def rxmRPL_2 (S0 : Nat → Int → Int) (ws : List Int) (S : Nat → Int → Int) : Nat := 80
noncomputable def rxzRPL_2 : rx_Z := ([(0, 0), (0, 0), (0, 0), (0, 0), (0, 0), (0, 0), (0, 0), (0, 0)], [], [], 0, 0, 14, [(0, .inr (3, (0, 480)))], [])
noncomputable def rxIRPL_3 (S0 : Nat → Int → Int) (ws : List Int) (S : Nat → Int → Int) : Prop := S = S0
noncomputable def rxmRPL_3 (S0 : Nat → Int → Int) (ws : List Int) (S : Nat → Int → Int) : Nat := 90
noncomputable def rxzRPL_3 : rx_Z := ([(0, 0), (0, 0), (0, 0), (0, 0), (0, 0), (0, 0), (0, 0), (0, 0)], [], [], 0, 0, 21, [(0, .inr (3, (0, 480)))], [.inr (1, (0, 5)), .inr (1, (0, 0)), .inr (3, (0, 480))])
noncomputable def rxIRPL_4 (S0 : Nat → Int → Int) (ws : List Int) (S : Nat → Int → Int) (v : Int) : Prop := rxTk S ∧ rxSm S0 S ∧ S0 480 9 ≤ S 480 9
noncomputable def rxmRPL_4 (S0 : Nat → Int → Int) (ws : List Int) (S : Nat → Int → Int) (v : Int) : Nat := 80
noncomputable def rxzRPL_4 : rx_Z := ([(0, 0), (0, 0), (0, 0), (0, 0), (0, 0), (0, 0), (0, 0), (0, 0), ((-2147483648), 2147483647)], [], [], 0, 0, 24, [(0, .inr (3, (0, 480)))], [.inr (0, (8, 0))])
noncomputable def rxoRPL_0_0 : bx_HO := (([(0, 0), (0, 0), (0, 0), (0, 0), (0, 0), (0, 0), (0, 0), (0, 0), (0, 3)], [(3, (8, 0), (0, 1))], [(((0, 0), 1851192626986356799632114105031551009123054124018230966928539648000000), .inr (0, (8, 0))), (((0, 480), 11), .inr (0, (8, 0)))], 0, 0, 21, [(0, .inr (3, (0, 480)))], [.inr (1, (0, 5)), .inr (1, (0, 0)), .inr (3, (0, 480))]), [], [], [(0, 0), (0, 0), (0, 0), (0, 0), (0, 0), (0, 0), (0, 0), (0, 0)], 3)
noncomputable def rxoRPL_0_1 : bx_HO := (([(0, 0), (0, 0), (0, 0), (0, 0), (0, 0), (0, 0), (0, 0), (0, 0), (1, 1), ((-9223372036854775808), 9223372036854775807)], [(3, (9, 0), (0, 1497))], [(((0, 0), 1851192626986356799832820811818326617396875588472066220482363392000000), .inr (1, (9, 0))), (((0, 480), 12), .inr (1, (9, 0))), (((0, 0), 1851192626986356799632114105031551009123054124018230966928539648000000), .inr (0, (8, 0))), (((0, 480), 11), .inr (0, (8, 0)))], 0, 0, 21, [(0, .inr (3, (0, 480)))], [.inr (1, (0, 5)), .inr (1, (0, 0)), .inr (3, (0, 480))]), [], [], [(0, 0), (0, 0), (0, 0), (0, 0), (0, 0), (0, 0), (0, 0), (0, 0)], 3)
noncomputable def rxoRPL_0_2 : bx_HO := (([(0, 0), (0, 0), (0, 0), (0, 0), (0, 0), (0, 0), (0, 0), (0, 0), (1, 1), (1497, 1497)], [], [(((0, 0), 1851192626986356799832820811818326617396875588472066220482363392000000), .inr (1, (9, 0))), (((0, 480), 12), .inr (1, (9, 0))), (((0, 0), 1851192626986356799632114105031551009123054124018230966928539648000000), .inr (0, (8, 0))), (((0, 480), 11), .inr (0, (8, 0)))], 0, 0, 11, [(0, .inr (3, (0, 480)))], [.inr (3, (0, 480))]), [], [], [(0, 0), (0, 0), (0, 0), (0, 0), (0, 0), (0, 0), (0, 0), (0, 0)], 1)
noncomputable def rxeRPL_2_0 : rx_End × List (Nat × Int × Int) := (([(0, 0), (0, 0), (0, 0), (0, 0), (0, 0), (0, 0), (0, 0), (0, 0)], [], [], some (.inr (0, (0, (-1))))), [])
noncomputable def rxeRPL_4_0 : rx_End × List (Nat × Int × Int) := (([(0, 0), (0, 0), (0, 0), (0, 0), (0, 0), (0, 0), (0, 0), (0, 0), ((-2147483648), 2147483647)], [], [], some (.inr (0, (8, 0)))), [])
noncomputable def rxYRPL : List bx_HE := [(rxzRPL_0, [rxoRPL_0_0, rxoRPL_0_1, rxoRPL_0_2], []), (rxzRPL_1, [], []), (rxzRPL_2, [], [rxeRPL_2_0]), (rxzRPL_3, [], []), (rxzRPL_4, [], [rxeRPL_4_0])]
noncomputable def rxURPL (q : bx_HE) : Bool := Nat.beq (rx_zpc q.1) 11 || Nat.beq (rx_zpc q.1) 21
noncomputable def rxYBRPL : bx_B := (rxV, rxNP, rxDmf, bx_mdH rxCRPL.2.2.1)
set_option maxRecDepth 100000 in
theorem rxYcRPL : bx_chkH rxYBRPL rxM294 rxCRPL rxYRPL (rxURPL, fun cut z => rx_ex2 (rxCT rxYBRPL rxCnE) cut 30000 rxCRPL.2.2.2.1 294 z) = true := by decide +kernel
noncomputable def rxIRPL (S0 : Nat → Int → Int) (ws : List Int) (i : Nat) : bx_SP := fun S r => match i with | 0 => rxIRPL_0 S0 ws S | 1 => rxIRPL_1 S0 ws S | 2 => rxIRPL_2 S0 ws S | 3 => rxIRPL_3 S0 ws S | 4 => rxIRPL_4 S0 ws S (r 8) | _ => False
noncomputable def rxmRPL (S0 : Nat → Int → Int) (ws : List Int) (i : Nat) (S : Nat → Int → Int) (r : Nat → Int) : Nat := match i with | 0 => rxmRPL_0 S0 ws S | 1 => rxmRPL_1 S0 ws S | 2 => rxmRPL_2 S0 ws S | 3 => rxmRPL_3 S0 ws S | 4 => rxmRPL_4 S0 ws S (r 8) | _ => 0
noncomputable def rxPRPL (S0 : Nat → Int → Int) (ws : List Int) : Prop := rxTk S0
noncomputable def rxPSRPL (S0 : Nat → Int → Int) (ws : List Int) (S : Nat → Int → Int) (w : Option Int) : Prop := rxTk S ∧ rxSm S0 S ∧ S0 480 9 ≤ S 480 9
theorem rxkRPL_1 {S0 : Nat → Int → Int} {ws : List Int} {S : Nat → Int → Int} (hP : rxPRPL S0 ws) (hin : bx_same rxL (bx_mdl rxCRPL.2.2.1) S0 S) (I0 : bx_Inv rxL S) (hinv : rxIRPL_1 S0 ws S)  : rxPNX S [480] ∧ ∀ (S_p : Nat → Int → Int), rxPSNX S [480] S_p none → bx_Inv rxL S_p → bx_same rxL (bx_mdl rxCNX.2.2.1) S S_p → rxIRPL_2 S0 ws S_p ∧ rxmRPL_2 S0 ws S_p < rxmRPL_1 S0 ws S := by
  have hinv : S = S0 := hinv
  subst hinv
  have hT : rxTk S := hP
  have t1 := hT.2.1
  refine ⟨hT.2.2.1, fun S_p hq I1 hsm => ⟨⟨hq.2.1, rxSm_of hsm (by decide +kernel), ?_⟩, by unfold rxmRPL_1 rxmRPL_2; omega⟩⟩
  have := hq.2.2
  omega
theorem rxsRPL_1 {X : (Nat → Int → Int) → Prop} {S0 : Nat → Int → Int} {ws : List Int} (hP : rxPRPL S0 ws) : rx_obK X S0 rxCRPL.2.2.1 rxCNX.2.2.1 (rxIRPL S0 ws) (rxmRPL S0 ws) 1 2 rxzRPL_1 rxzRPL_2 [.inr (3, (0, 480))] none rxPNX rxPSNX := by
  intro S r hinv hXS I0 hin hs_ hf_
  have b_ := bx_bds_sat hs_
  have f_ := bx_fcl_ok hs_.1 hf_
  have g := rxkRPL_1 hP hin I0 hinv 
  have ea : List.map (bx_num r) [.inr (3, (0, 480))] = [480] := by
    simp only [List.map_cons, List.map_nil, bx_xv_ok hs_.1]
    rfl
  rw [ea]
  refine ⟨g.1, fun S_p w r_p hPS hX_p I1 hsm hr hw hs_p => ?_⟩
  have hw : w = none := hPS.1
  subst hw
  have g2 := g.2 S_p hPS I1 hsm
  show rxIRPL_2 S0 ws S_p ∧ rxmRPL_2 S0 ws S_p < _
  exact g2
theorem rxkRPL_3 {S0 : Nat → Int → Int} {ws : List Int} {S : Nat → Int → Int} (hP : rxPRPL S0 ws) (hin : bx_same rxL (bx_mdl rxCRPL.2.2.1) S0 S) (I0 : bx_Inv rxL S) (hinv : rxIRPL_3 S0 ws S)  : rxPNU S [480, 0, 5] ∧ ∀ (S_p : Nat → Int → Int) (v : Int), (-2147483648) ≤ v → v ≤ 2147483647 → rxPSNU S [480, 0, 5] S_p (some v) → bx_Inv rxL S_p → bx_same rxL (bx_mdl rxCNU.2.2.1) S S_p → rxIRPL_4 S0 ws S_p v ∧ rxmRPL_4 S0 ws S_p v < rxmRPL_3 S0 ws S := by
  have hinv : S = S0 := hinv
  subst hinv
  exact ⟨hP, fun S_p v l u hq I1 hsm => ⟨hq, by unfold rxmRPL_3 rxmRPL_4; omega⟩⟩
theorem rxsRPL_3 {X : (Nat → Int → Int) → Prop} {S0 : Nat → Int → Int} {ws : List Int} (hP : rxPRPL S0 ws) : rx_obK X S0 rxCRPL.2.2.1 rxCNU.2.2.1 (rxIRPL S0 ws) (rxmRPL S0 ws) 3 4 rxzRPL_3 rxzRPL_4 [.inr (3, (0, 480)), .inr (1, (0, 0)), .inr (1, (0, 5))] (some 8) rxPNU rxPSNU := by
  intro S r hinv hXS I0 hin hs_ hf_
  have b_ := bx_bds_sat hs_
  have f_ := bx_fcl_ok hs_.1 hf_
  have g := rxkRPL_3 hP hin I0 hinv 
  have ea : List.map (bx_num r) [.inr (3, (0, 480)), .inr (1, (0, 0)), .inr (1, (0, 5))] = [480, 0, 5] := by
    simp only [List.map_cons, List.map_nil, bx_xv_ok hs_.1]
    rfl
  rw [ea]
  refine ⟨g.1, fun S_p w r_p hPS hX_p I1 hsm hr hw hs_p => ?_⟩
  have hw := hw _ rfl
  subst hw
  have b_p := hs_p.2.2 8 _ _ rfl
  have g2 := g.2 S_p (r_p 8) b_p.1 b_p.2 hPS I1 hsm
  show rxIRPL_4 S0 ws S_p (r_p 8) ∧ rxmRPL_4 S0 ws S_p (r_p 8) < _
  exact g2
theorem rxcRPL_0_0 {S0 : Nat → Int → Int} {ws : List Int} {S : Nat → Int → Int} {x8 : Int} (hP : rxPRPL S0 ws) (hin : bx_same rxL (bx_mdl rxCRPL.2.2.1) S0 S) (I0 : bx_Inv rxL S) (hinv : rxIRPL_0 S0 ws S) (l8 : 0 ≤ x8) (u8 : x8 ≤ 3) (f0 : x8 ≠ 1) (e0 : S 480 11 = x8) : (True) ∧ (True) ∧ rxIRPL_3 S0 ws S ∧ rxmRPL_3 S0 ws S < rxmRPL_0 S0 ws S := by
  exact ⟨trivial, trivial, hinv.1, by unfold rxmRPL_0 rxmRPL_3; omega⟩
theorem rxgRPL_0_0 {X : (Nat → Int → Int) → Prop} {S0 : Nat → Int → Int} {ws : List Int} (hP : rxPRPL S0 ws) : bx_obC rxL X S0 rxCRPL.2.2.1 (rxIRPL S0 ws) (rxmRPL S0 ws) 0 rxzRPL_0 rxoRPL_0_0 := by
  intro S S_p r r_p hinv hX hin hsm_ hseg
  obtain ⟨I0, I1, h0_, hr_, b_, f_, d_⟩ := bx_cl (evs := [(0, (0, 480), (0, 11), .inr (0, (8, 0)))]) (fvs := [(3, (8, 0), (0, 1), (0, 0))]) hseg (by decide +kernel) (by decide +kernel)
  have hinv : rxIRPL_0 S0 ws S := hinv
  obtain ⟨⟨l8, u8⟩, -⟩ := b_
  obtain ⟨f0, -⟩ := f_
  obtain ⟨e0, w_⟩ := d_
  subst w_
  have g := rxcRPL_0_0 hP hin I0 hinv l8 u8 f0 e0
  refine ⟨bx_narP_ok (l := []) g.1, bx_nfP_ok h0_ (fvs := []) (by decide +kernel) g.2.1, ?_, ?_⟩
  · show rxIRPL_3 S0 ws S_p
    exact g.2.2.1
  · show rxmRPL_3 S0 ws S_p < rxmRPL_0 S0 ws S_p
    exact g.2.2.2
theorem rxcRPL_0_1 {S0 : Nat → Int → Int} {ws : List Int} {S : Nat → Int → Int} {x8 x9 : Int} (hP : rxPRPL S0 ws) (hin : bx_same rxL (bx_mdl rxCRPL.2.2.1) S0 S) (I0 : bx_Inv rxL S) (hinv : rxIRPL_0 S0 ws S) (l8 : 1 ≤ x8) (u8 : x8 ≤ 1) (l9 : (-9223372036854775808) ≤ x9) (u9 : x9 ≤ 9223372036854775807) (f0 : x9 ≠ 1497) (e1 : S 480 11 = x8) (e0 : S 480 12 = x9) : (True) ∧ (True) ∧ rxIRPL_3 S0 ws S ∧ rxmRPL_3 S0 ws S < rxmRPL_0 S0 ws S := by
  exact ⟨trivial, trivial, hinv.1, by unfold rxmRPL_0 rxmRPL_3; omega⟩
theorem rxgRPL_0_1 {X : (Nat → Int → Int) → Prop} {S0 : Nat → Int → Int} {ws : List Int} (hP : rxPRPL S0 ws) : bx_obC rxL X S0 rxCRPL.2.2.1 (rxIRPL S0 ws) (rxmRPL S0 ws) 0 rxzRPL_0 rxoRPL_0_1 := by
  intro S S_p r r_p hinv hX hin hsm_ hseg
  obtain ⟨I0, I1, h0_, hr_, b_, f_, d_⟩ := bx_cl (evs := [(0, (0, 480), (0, 12), .inr (1, (9, 0))), (0, (0, 480), (0, 11), .inr (0, (8, 0)))]) (fvs := [(3, (9, 0), (0, 1497), (0, 0))]) hseg (by decide +kernel) (by decide +kernel)
  have hinv : rxIRPL_0 S0 ws S := hinv
  obtain ⟨⟨l8, u8⟩, ⟨l9, u9⟩, -⟩ := b_
  obtain ⟨f0, -⟩ := f_
  obtain ⟨e0, ⟨e1, w_⟩⟩ := d_
  subst w_
  have g := rxcRPL_0_1 hP hin I0 hinv l8 u8 l9 u9 f0 e1 e0
  refine ⟨bx_narP_ok (l := []) g.1, bx_nfP_ok h0_ (fvs := []) (by decide +kernel) g.2.1, ?_, ?_⟩
  · show rxIRPL_3 S0 ws S_p
    exact g.2.2.1
  · show rxmRPL_3 S0 ws S_p < rxmRPL_0 S0 ws S_p
    exact g.2.2.2
theorem rxcRPL_0_2 {S0 : Nat → Int → Int} {ws : List Int} {S : Nat → Int → Int} {x8 x9 : Int} (hP : rxPRPL S0 ws) (hin : bx_same rxL (bx_mdl rxCRPL.2.2.1) S0 S) (I0 : bx_Inv rxL S) (hinv : rxIRPL_0 S0 ws S) (l8 : 1 ≤ x8) (u8 : x8 ≤ 1) (l9 : 1497 ≤ x9) (u9 : x9 ≤ 1497) (e1 : S 480 11 = x8) (e0 : S 480 12 = x9) : (True) ∧ (True) ∧ rxIRPL_1 S0 ws S ∧ rxmRPL_1 S0 ws S < rxmRPL_0 S0 ws S := by
  exact ⟨trivial, trivial, hinv.1, by unfold rxmRPL_0 rxmRPL_1; omega⟩
theorem rxgRPL_0_2 {X : (Nat → Int → Int) → Prop} {S0 : Nat → Int → Int} {ws : List Int} (hP : rxPRPL S0 ws) : bx_obC rxL X S0 rxCRPL.2.2.1 (rxIRPL S0 ws) (rxmRPL S0 ws) 0 rxzRPL_0 rxoRPL_0_2 := by
  intro S S_p r r_p hinv hX hin hsm_ hseg
  obtain ⟨I0, I1, h0_, hr_, b_, f_, d_⟩ := bx_cl (evs := [(0, (0, 480), (0, 12), .inr (1, (9, 0))), (0, (0, 480), (0, 11), .inr (0, (8, 0)))]) (fvs := []) hseg (by decide +kernel) (by decide +kernel)
  have hinv : rxIRPL_0 S0 ws S := hinv
  obtain ⟨⟨l8, u8⟩, ⟨l9, u9⟩, -⟩ := b_
  obtain ⟨e0, ⟨e1, w_⟩⟩ := d_
  subst w_
  have g := rxcRPL_0_2 hP hin I0 hinv l8 u8 l9 u9 e1 e0
  refine ⟨bx_narP_ok (l := []) g.1, bx_nfP_ok h0_ (fvs := []) (by decide +kernel) g.2.1, ?_, ?_⟩
  · show rxIRPL_1 S0 ws S_p
    exact g.2.2.1
  · show rxmRPL_1 S0 ws S_p < rxmRPL_0 S0 ws S_p
    exact g.2.2.2
theorem rxdRPL_2_0 {S0 : Nat → Int → Int} {ws : List Int} {S : Nat → Int → Int} (hP : rxPRPL S0 ws) (hin : bx_same rxL (bx_mdl rxCRPL.2.2.1) S0 S) (hin2 : bx_same rxL (bx_mdl rxCRPL.2.2.1) S S) (I0 : bx_Inv rxL S) (I1 : bx_Inv rxL S) (hinv : rxIRPL_2 S0 ws S)  : (True) ∧ rxPSRPL S0 ws S (some ((-1))) := by
  exact ⟨trivial, hinv⟩
theorem rxfRPL_2_0 {X : (Nat → Int → Int) → Prop} {S0 : Nat → Int → Int} {ws : List Int} (hP : rxPRPL S0 ws) : bx_obE rxL X S0 rxCRPL.2.2.1 (rxIRPL S0 ws) (rxPSRPL S0 ws) 2 rxzRPL_2 rxeRPL_2_0 := by
  intro S S_p r r_p hinv hX hin hsm_ hseg
  obtain ⟨I0, I1, h0_, hr_, b_, f_, d_⟩ := bx_cl (evs := []) (fvs := []) hseg (by decide +kernel) (by decide +kernel)
  have hinv : rxIRPL_2 S0 ws S := hinv
  have w_ := d_
  subst w_
  have g := rxdRPL_2_0 hP hin hsm_ I0 I1 hinv 
  refine ⟨bx_narP_ok (l := []) g.1, ?_⟩
  show rxPSRPL S0 ws S_p (some (bx_num r_p (.inr (0, (0, (-1))))))
  rw [bx_xv_ok h0_]
  exact g.2
theorem rxdRPL_4_0 {S0 : Nat → Int → Int} {ws : List Int} {S : Nat → Int → Int} {v : Int} (hP : rxPRPL S0 ws) (hin : bx_same rxL (bx_mdl rxCRPL.2.2.1) S0 S) (hin2 : bx_same rxL (bx_mdl rxCRPL.2.2.1) S S) (I0 : bx_Inv rxL S) (I1 : bx_Inv rxL S) (hinv : rxIRPL_4 S0 ws S v) (l8 : (-2147483648) ≤ v) (u8 : v ≤ 2147483647) : (True) ∧ rxPSRPL S0 ws S (some v) := by
  exact ⟨trivial, hinv⟩
theorem rxfRPL_4_0 {X : (Nat → Int → Int) → Prop} {S0 : Nat → Int → Int} {ws : List Int} (hP : rxPRPL S0 ws) : bx_obE rxL X S0 rxCRPL.2.2.1 (rxIRPL S0 ws) (rxPSRPL S0 ws) 4 rxzRPL_4 rxeRPL_4_0 := by
  intro S S_p r r_p hinv hX hin hsm_ hseg
  obtain ⟨I0, I1, h0_, hr_, b_, f_, d_⟩ := bx_cl (evs := []) (fvs := []) hseg (by decide +kernel) (by decide +kernel)
  have hinv : rxIRPL_4 S0 ws S (r 8) := hinv
  rw [← hr_ 8 (by decide)] at hinv
  obtain ⟨⟨l8, u8⟩, -⟩ := b_
  have w_ := d_
  subst w_
  have g := rxdRPL_4_0 hP hin hsm_ I0 I1 hinv l8 u8
  refine ⟨bx_narP_ok (l := []) g.1, ?_⟩
  show rxPSRPL S0 ws S_p (some (bx_num r_p (.inr (0, (8, 0)))))
  rw [bx_xv_ok h0_]
  exact g.2
theorem rxgCRPL {X : (Nat → Int → Int) → Prop} {S0 : Nat → Int → Int} {ws : List Int} (hP : rxPRPL S0 ws) : bx_allI (fun i q => rxURPL q = true ∨ bx_allP (fun o => bx_obC rxL X S0 rxCRPL.2.2.1 (rxIRPL S0 ws) (rxmRPL S0 ws) i q.1 o) q.2.1) 0 rxYRPL := ⟨Or.inr ⟨rxgRPL_0_0 hP, rxgRPL_0_1 hP, rxgRPL_0_2 hP, trivial⟩, Or.inl rfl, Or.inr trivial, Or.inl rfl, Or.inr trivial, trivial⟩
theorem rxgERPL {X : (Nat → Int → Int) → Prop} {S0 : Nat → Int → Int} {ws : List Int} (hP : rxPRPL S0 ws) : bx_allI (fun i q => rxURPL q = true ∨ bx_allP (fun E => bx_obE rxL X S0 rxCRPL.2.2.1 (rxIRPL S0 ws) (rxPSRPL S0 ws) i q.1 E) q.2.2) 0 rxYRPL := ⟨Or.inr trivial, Or.inl rfl, Or.inr ⟨rxfRPL_2_0 hP, trivial⟩, Or.inl rfl, Or.inr ⟨rxfRPL_4_0 hP, trivial⟩, trivial⟩
theorem rxuRPL {PX : State → Prop} {Dg : va_G} {A : Nat → Prop} {ad xa : Nat → Nat} {l : Launch} {X : (Nat → Int → Int) → Prop} (hPX : rx_PXOK rxNW A PX) (hX : ∀ S S1 : Nat → Int → Int, X S → bx_same rxL (bx_mdl rxCRPL.2.2.1) S S1 → X S1) (hQNX : bx_ConP rxG rxNW rxAO PX Dg rxL X vwCl A ad l rxM264 rxCNX rxPNX rxPSNX) (hQNU : bx_ConP rxG rxNW rxAO PX Dg rxL X vwCl A ad l rxM293 rxCNU rxPNU rxPSNU) {S0 : Nat → Int → Int} {ws : List Int} (hP : rxPRPL S0 ws) : ∀ (i : Nat) (q : bx_HE), rxYRPL[i]? = some q → rxURPL q = true → ∀ {p : Program} {e : Env} {R : Room} {s : State} {m : MethodId} {args : Array Value} {below : List Frame} {meth : Method} {c : Code} {Q : State → Prop} {H0 : Heap}, rx_Fr rxG rxNW rxAO PX p s m args meth c rxM294 → (∀ q, H0.size ≤ q → A q) → H0 = s.heap → rxM294.2.2.2.2.2.2.1 ≤ R.cells → rxM294.2.2.2.2.2.2.2 ≤ R.slots → rxCRPL.2.2.2.1 ≤ R.frames → rxCRPL.2.2.2.1 * 40 ≤ R.locals → bx_Step p l e R s m args below meth c Q Dg rxL X vwCl A xa H0 ad rxM294 rxYRPL (rxIRPL S0 ws) (rxmRPL S0 ws) S0 rxCRPL.2.2.1 i q := by
  intro i q hq hus p e R s m args below meth c Q H0 hF hA hH0 hmc hms hd hdl
  match i, hq with
  | 0, hq =>
    cases hq
    exact absurd (show false = true from hus) Bool.false_ne_true
  | 1, hq =>
    cases hq
    exact rx_stepC (ins := .invokevirtual 253) (len := 3) (i_p := 2) (M_p := rxM264) (d := rxCRPL.2.2.2.1) (as := [.inr (3, (0, 480))]) (t := []) (ct := rxCNX) hPX hF rfl hA hH0 hmc hms hd hdl (by decide +kernel) rfl rfl (by decide +kernel) (by decide +kernel) hQNX (by decide +kernel) rfl (Or.inl ⟨rfl, rfl, rfl⟩) (rxsRPL_1 hP)
  | 2, hq =>
    cases hq
    exact absurd (show false = true from hus) Bool.false_ne_true
  | 3, hq =>
    cases hq
    exact rx_stepC (ins := .invokevirtual 446) (len := 3) (i_p := 4) (M_p := rxM293) (d := rxCRPL.2.2.2.1) (as := [.inr (3, (0, 480)), .inr (1, (0, 0)), .inr (1, (0, 5))]) (t := []) (ct := rxCNU) hPX hF rfl hA hH0 hmc hms hd hdl (by decide +kernel) rfl rfl (by decide +kernel) (by decide +kernel) hQNU (by decide +kernel) rfl (Or.inr ⟨_, _, _, 1, rfl, rfl, by omega, rfl, rfl, rfl⟩) (rxsRPL_3 hP)
  | 4, hq =>
    cases hq
    exact absurd (show false = true from hus) Bool.false_ne_true
  | n + 5, hq => cases hq
theorem rxQRPL {PX : State → Prop} {Dg : va_G} {A : Nat → Prop} {ad xa : Nat → Nat} {l : Launch} {X : (Nat → Int → Int) → Prop} (hPX : rx_PXOK rxNW A PX) (hsl : ∀ s : State, PX s → ∀ o idx n : Nat, rxSl o idx = some n → ∃ tx : String, vk_R (rxNm o) idx tx (ad n) s)
    (hX : ∀ S S_p : Nat → Int → Int, X S → bx_same rxL (bx_mdl rxCRPL.2.2.1) S S_p → X S_p)
    (ih : ∀ (j2 : Nat) (ct2 : bx_Ct) (M2 : rx_Mt), ct2 ∈ rxCnE j2 → ct2.2.2.2.1 + 1 ≤ rxCRPL.2.2.2.1 → rxT.2.2.2.2.2 j2 = some M2 → bx_Con rxG rxNW rxAO PX Dg rxL X vwCl A ad l M2 ct2) (hQNX : bx_ConP rxG rxNW rxAO PX Dg rxL X vwCl A ad l rxM264 rxCNX rxPNX rxPSNX) (hQNU : bx_ConP rxG rxNW rxAO PX Dg rxL X vwCl A ad l rxM293 rxCNU rxPNU rxPSNU) : bx_ConP rxG rxNW rxAO PX Dg rxL X vwCl A ad l rxM294 rxCRPL rxPRPL rxPSRPL :=
  rxQof (xa := xa) (Cn := rxCnE) (f := 30000) (j := 294) (tab := rxYRPL) (us := rxURPL) hPX hsl hX ih rfl rxYcRPL rxIRPL rxmRPL
    (fun S0 ws r I0 I ht0 ht as he he1 hX0 hI0 hP hs ha => by
      have e := he.symm.trans (show bx_ent0 rxNP rxCRPL.1 bx_I0 [] = some ([(0, 0), (0, 0), (0, 0), (0, 0), (0, 0), (0, 0), (0, 0), (0, 0)], [], [.inr (3, (0, 480))]) from rfl)
      cases e
      subst ha
      have h0 : r 0 = 0 := hs.1
      show rxIRPL_0 S0 _ S0
      refine ⟨rfl, ?_⟩
      simp only [List.map_cons, List.map_nil, bx_xv_ok h0]
      rfl)
    (fun S0 ws hP => rxuRPL (xa := xa) hPX hX hQNX hQNU hP) (fun S0 ws hP => rxgCRPL hP) (fun S0 ws hP => rxgERPL hP)
end
