section
noncomputable def rxCBG : bx_Ct := ([(3, (1, 480, 0))], none, [(12, 9), (12, 10), (12, 11), (12, 12), (12, 13), (12, 14)], 2, [])
noncomputable def rxIBG_0 (S0 : Nat → Int → Int) (ws : List Int) (S : Nat → Int → Int) : Prop := S = S0 ∧ ws = [480]
noncomputable def rxmBG_0 (S0 : Nat → Int → Int) (ws : List Int) (S : Nat → Int → Int) : Nat := 100
noncomputable def rxzBG_0 : rx_Z := ([(0, 0), (0, 0), (0, 0), (0, 0), (0, 0), (0, 0), (0, 0), (0, 0)], [], [], 0, 0, 0, [(0, .inr (3, (0, 480)))], [])
noncomputable def rxIBG_1 (S0 : Nat → Int → Int) (ws : List Int) (S : Nat → Int → Int) : Prop := S 480 10 = 0 ∧ S 480 14 = 0
noncomputable def rxmBG_1 (S0 : Nat → Int → Int) (ws : List Int) (S : Nat → Int → Int) : Nat := 90
noncomputable def rxzBG_1 : rx_Z := ([(0, 0), (0, 0), (0, 0), (0, 0), (0, 0), (0, 0), (0, 0), (0, 0)], [], [], 0, 0, 16, [(0, .inr (3, (0, 480)))], [.inr (3, (0, 480))])
noncomputable def rxIBG_2 (S0 : Nat → Int → Int) (ws : List Int) (S : Nat → Int → Int) : Prop := rxTk S ∧ S 480 14 = 0
noncomputable def rxmBG_2 (S0 : Nat → Int → Int) (ws : List Int) (S : Nat → Int → Int) : Nat := 80
noncomputable def rxzBG_2 : rx_Z := ([(0, 0), (0, 0), (0, 0), (0, 0), (0, 0), (0, 0), (0, 0), (0, 0)], [], [], 0, 0, 19, [(0, .inr (3, (0, 480)))], [])
noncomputable def rxoBG_0_0 : bx_HO := (([(0, 0), (0, 0), (0, 0), (0, 0), (0, 0), (0, 0), (0, 0), (0, 0)], [], [(((0, 0), 1851192626986356800033527518605102225670697052925901474036187139000000), .inr (0, (0, (-1)))), (((0, 480), 13), .inr (0, (0, (-1)))), (((0, 0), 1851192626986356800234234225391877833944518517379736727590010883000000), .inr (0, (0, 0))), (((0, 480), 14), .inr (0, (0, 0))), (((0, 0), 1851192626986356799431407398244775400849232659564395713374715907000000), .inr (0, (0, 0))), (((0, 480), 10), .inr (0, (0, 0)))], 0, 0, 16, [(0, .inr (3, (0, 480)))], [.inr (3, (0, 480))]), [], [], [(0, 0), (0, 0), (0, 0), (0, 0), (0, 0), (0, 0), (0, 0), (0, 0)], 1)
noncomputable def rxeBG_2_0 : rx_End × List (Nat × Int × Int) := (([(0, 0), (0, 0), (0, 0), (0, 0), (0, 0), (0, 0), (0, 0), (0, 0)], [], [], none), [])
noncomputable def rxYBG : List bx_HE := [(rxzBG_0, [rxoBG_0_0], []), (rxzBG_1, [], []), (rxzBG_2, [], [rxeBG_2_0])]
noncomputable def rxUBG (q : bx_HE) : Bool := Nat.beq (rx_zpc q.1) 16
noncomputable def rxYBBG : bx_B := (rxV, rxNP, rxDmf, bx_mdH rxCBG.2.2.1)
set_option maxRecDepth 100000 in
theorem rxYcBG : bx_chkH rxYBBG rxM281 rxCBG rxYBG (rxUBG, fun cut z => rx_ex2 (rxCT rxYBBG rxCnE) cut 30000 rxCBG.2.2.2.1 281 z) = true := by decide +kernel
noncomputable def rxIBG (S0 : Nat → Int → Int) (ws : List Int) (i : Nat) : bx_SP := fun S r => match i with | 0 => rxIBG_0 S0 ws S | 1 => rxIBG_1 S0 ws S | 2 => rxIBG_2 S0 ws S | _ => False
noncomputable def rxmBG (S0 : Nat → Int → Int) (ws : List Int) (i : Nat) (S : Nat → Int → Int) (r : Nat → Int) : Nat := match i with | 0 => rxmBG_0 S0 ws S | 1 => rxmBG_1 S0 ws S | 2 => rxmBG_2 S0 ws S | _ => 0
noncomputable def rxPBG (S0 : Nat → Int → Int) (ws : List Int) : Prop := True
noncomputable def rxPSBG (S0 : Nat → Int → Int) (ws : List Int) (S : Nat → Int → Int) (w : Option Int) : Prop := w = none ∧ rxTk S ∧ S 480 14 = 0
theorem rxkBG_1 {S0 : Nat → Int → Int} {ws : List Int} {S : Nat → Int → Int} (hP : rxPBG S0 ws) (hin : bx_same rxL (bx_mdl rxCBG.2.2.1) S0 S) (I0 : bx_Inv rxL S) (hinv : rxIBG_1 S0 ws S)  : rxPNX S [480] ∧ ∀ (S_p : Nat → Int → Int), rxPSNX S [480] S_p none → bx_Inv rxL S_p → bx_same rxL (bx_mdl rxCNX.2.2.1) S S_p → rxIBG_2 S0 ws S_p ∧ rxmBG_2 S0 ws S_p < rxmBG_1 S0 ws S := by
  obtain ⟨h1, h2⟩ := hinv
  have b8 := rxBox8 I0
  refine ⟨by show S 480 10 ≤ S 480 8; omega, fun S_p hq I1 hsm => ⟨⟨hq.2.1, ?_⟩, by unfold rxmBG_1 rxmBG_2; omega⟩⟩
  exact (rx_sameO hsm (p := 480) (j := 14) rfl (by omega) (by decide +kernel) (by decide)).trans h2
theorem rxsBG_1 {X : (Nat → Int → Int) → Prop} {S0 : Nat → Int → Int} {ws : List Int} (hP : rxPBG S0 ws) : rx_obK X S0 rxCBG.2.2.1 rxCNX.2.2.1 (rxIBG S0 ws) (rxmBG S0 ws) 1 2 rxzBG_1 rxzBG_2 [.inr (3, (0, 480))] none rxPNX rxPSNX := by
  intro S r hinv hXS I0 hin hs_ hf_
  have b_ := bx_bds_sat hs_
  have f_ := bx_fcl_ok hs_.1 hf_
  have g := rxkBG_1 hP hin I0 hinv 
  have ea : List.map (bx_num r) [.inr (3, (0, 480))] = [480] := by
    simp only [List.map_cons, List.map_nil, bx_xv_ok hs_.1]
    rfl
  rw [ea]
  refine ⟨g.1, fun S_p w r_p hPS hX_p I1 hsm hr hw hs_p => ?_⟩
  have hw : w = none := hPS.1
  subst hw
  have g2 := g.2 S_p hPS I1 hsm
  show rxIBG_2 S0 ws S_p ∧ rxmBG_2 S0 ws S_p < _
  exact g2
theorem rxcBG_0_0 {S0 : Nat → Int → Int} {ws : List Int} {S : Nat → Int → Int} (hP : rxPBG S0 ws) (hin : bx_same rxL (bx_mdl rxCBG.2.2.1) S0 S) (I0 : bx_Inv rxL S) (hinv : rxIBG_0 S0 ws S)  : (True) ∧ (True) ∧ rxIBG_1 S0 ws (bx_up (bx_up (bx_up S 480 10 0) 480 14 0) 480 13 ((-1))) ∧ rxmBG_1 S0 ws (bx_up (bx_up (bx_up S 480 10 0) 480 14 0) 480 13 ((-1))) < rxmBG_0 S0 ws S := by
  obtain ⟨rfl, hw⟩ := hinv
  exact ⟨trivial, trivial, ⟨by simp [bx_up], by simp [bx_up]⟩, by unfold rxmBG_0 rxmBG_1; omega⟩
theorem rxgBG_0_0 {X : (Nat → Int → Int) → Prop} {S0 : Nat → Int → Int} {ws : List Int} (hP : rxPBG S0 ws) : bx_obC rxL X S0 rxCBG.2.2.1 (rxIBG S0 ws) (rxmBG S0 ws) 0 rxzBG_0 rxoBG_0_0 := by
  intro S S_p r r_p hinv hX hin hsm_ hseg
  obtain ⟨I0, I1, h0_, hr_, b_, f_, d_⟩ := bx_cl (evs := [(1, (0, 480), (0, 13), .inr (0, (0, (-1)))), (1, (0, 480), (0, 14), .inr (0, (0, 0))), (1, (0, 480), (0, 10), .inr (0, (0, 0)))]) (fvs := []) hseg (by decide +kernel) (by decide +kernel)
  have hinv : rxIBG_0 S0 ws S := hinv
  obtain ⟨T0, ⟨T1, ⟨T2, w_, w2⟩, w1⟩, w0⟩ := d_
  subst w0
  subst w1
  subst w2
  subst w_
  have g := rxcBG_0_0 hP hin I0 hinv 
  refine ⟨bx_narP_ok (l := []) g.1, bx_nfP_ok h0_ (fvs := []) (by decide +kernel) g.2.1, ?_, ?_⟩
  · show rxIBG_1 S0 ws (bx_up (bx_up (bx_up T2 480 (10) (0)) 480 (14) (0)) 480 (13) ((-1)))
    exact g.2.2.1
  · show rxmBG_1 S0 ws (bx_up (bx_up (bx_up T2 480 (10) (0)) 480 (14) (0)) 480 (13) ((-1))) < rxmBG_0 S0 ws T2
    exact g.2.2.2
theorem rxdBG_2_0 {S0 : Nat → Int → Int} {ws : List Int} {S : Nat → Int → Int} (hP : rxPBG S0 ws) (hin : bx_same rxL (bx_mdl rxCBG.2.2.1) S0 S) (hin2 : bx_same rxL (bx_mdl rxCBG.2.2.1) S S) (I0 : bx_Inv rxL S) (I1 : bx_Inv rxL S) (hinv : rxIBG_2 S0 ws S)  : (True) ∧ rxPSBG S0 ws S none := by
  exact ⟨trivial, rfl, hinv.1, hinv.2⟩
theorem rxfBG_2_0 {X : (Nat → Int → Int) → Prop} {S0 : Nat → Int → Int} {ws : List Int} (hP : rxPBG S0 ws) : bx_obE rxL X S0 rxCBG.2.2.1 (rxIBG S0 ws) (rxPSBG S0 ws) 2 rxzBG_2 rxeBG_2_0 := by
  intro S S_p r r_p hinv hX hin hsm_ hseg
  obtain ⟨I0, I1, h0_, hr_, b_, f_, d_⟩ := bx_cl (evs := []) (fvs := []) hseg (by decide +kernel) (by decide +kernel)
  have hinv : rxIBG_2 S0 ws S := hinv
  have w_ := d_
  subst w_
  have g := rxdBG_2_0 hP hin hsm_ I0 I1 hinv 
  refine ⟨bx_narP_ok (l := []) g.1, ?_⟩
  exact g.2
theorem rxgCBG {X : (Nat → Int → Int) → Prop} {S0 : Nat → Int → Int} {ws : List Int} (hP : rxPBG S0 ws) : bx_allI (fun i q => rxUBG q = true ∨ bx_allP (fun o => bx_obC rxL X S0 rxCBG.2.2.1 (rxIBG S0 ws) (rxmBG S0 ws) i q.1 o) q.2.1) 0 rxYBG := ⟨Or.inr ⟨rxgBG_0_0 hP, trivial⟩, Or.inl rfl, Or.inr trivial, trivial⟩
theorem rxgEBG {X : (Nat → Int → Int) → Prop} {S0 : Nat → Int → Int} {ws : List Int} (hP : rxPBG S0 ws) : bx_allI (fun i q => rxUBG q = true ∨ bx_allP (fun E => bx_obE rxL X S0 rxCBG.2.2.1 (rxIBG S0 ws) (rxPSBG S0 ws) i q.1 E) q.2.2) 0 rxYBG := ⟨Or.inr trivial, Or.inl rfl, Or.inr ⟨rxfBG_2_0 hP, trivial⟩, trivial⟩
theorem rxuBG {PX : State → Prop} {Dg : va_G} {A : Nat → Prop} {ad xa : Nat → Nat} {l : Launch} {X : (Nat → Int → Int) → Prop} (hPX : rx_PXOK rxNW A PX) (hX : ∀ S S1 : Nat → Int → Int, X S → bx_same rxL (bx_mdl rxCBG.2.2.1) S S1 → X S1) (hQNX : bx_ConP rxG rxNW rxAO PX Dg rxL X vwCl A ad l rxM264 rxCNX rxPNX rxPSNX) {S0 : Nat → Int → Int} {ws : List Int} (hP : rxPBG S0 ws) : ∀ (i : Nat) (q : bx_HE), rxYBG[i]? = some q → rxUBG q = true → ∀ {p : Program} {e : Env} {R : Room} {s : State} {m : MethodId} {args : Array Value} {below : List Frame} {meth : Method} {c : Code} {Q : State → Prop} {H0 : Heap}, rx_Fr rxG rxNW rxAO PX p s m args meth c rxM281 → (∀ q, H0.size ≤ q → A q) → H0 = s.heap → rxM281.2.2.2.2.2.2.1 ≤ R.cells → rxM281.2.2.2.2.2.2.2 ≤ R.slots → rxCBG.2.2.2.1 ≤ R.frames → rxCBG.2.2.2.1 * 40 ≤ R.locals → bx_Step p l e R s m args below meth c Q Dg rxL X vwCl A xa H0 ad rxM281 rxYBG (rxIBG S0 ws) (rxmBG S0 ws) S0 rxCBG.2.2.1 i q := by
  intro i q hq hus p e R s m args below meth c Q H0 hF hA hH0 hmc hms hd hdl
  match i, hq with
  | 0, hq =>
    cases hq
    exact absurd (show false = true from hus) Bool.false_ne_true
  | 1, hq =>
    cases hq
    exact rx_stepC (ins := .invokevirtual 253) (len := 3) (i_p := 2) (M_p := rxM264) (d := rxCBG.2.2.2.1) (as := [.inr (3, (0, 480))]) (t := []) (ct := rxCNX) hPX hF rfl hA hH0 hmc hms hd hdl (by decide +kernel) rfl rfl (by decide +kernel) (by decide +kernel) hQNX (by decide +kernel) rfl (Or.inl ⟨rfl, rfl, rfl⟩) (rxsBG_1 hP)
  | 2, hq =>
    cases hq
    exact absurd (show false = true from hus) Bool.false_ne_true
  | n + 3, hq => cases hq
theorem rxQBG {PX : State → Prop} {Dg : va_G} {A : Nat → Prop} {ad xa : Nat → Nat} {l : Launch} {X : (Nat → Int → Int) → Prop} (hPX : rx_PXOK rxNW A PX) (hsl : ∀ s : State, PX s → ∀ o idx n : Nat, rxSl o idx = some n → ∃ tx : String, vk_R (rxNm o) idx tx (ad n) s)
    (hX : ∀ S S_p : Nat → Int → Int, X S → bx_same rxL (bx_mdl rxCBG.2.2.1) S S_p → X S_p)
    (ih : ∀ (j2 : Nat) (ct2 : bx_Ct) (M2 : rx_Mt), ct2 ∈ rxCnE j2 → ct2.2.2.2.1 + 1 ≤ rxCBG.2.2.2.1 → rxT.2.2.2.2.2 j2 = some M2 → bx_Con rxG rxNW rxAO PX Dg rxL X vwCl A ad l M2 ct2) (hQNX : bx_ConP rxG rxNW rxAO PX Dg rxL X vwCl A ad l rxM264 rxCNX rxPNX rxPSNX) : bx_ConP rxG rxNW rxAO PX Dg rxL X vwCl A ad l rxM281 rxCBG rxPBG rxPSBG :=
  rxQof (xa := xa) (Cn := rxCnE) (f := 30000) (j := 281) (tab := rxYBG) (us := rxUBG) hPX hsl hX ih rfl rxYcBG rxIBG rxmBG
    (fun S0 ws r I0 I ht0 ht as he he1 hX0 hI0 hP hs ha => by
      have e := he.symm.trans (show bx_ent0 rxNP rxCBG.1 bx_I0 [] = some ([(0, 0), (0, 0), (0, 0), (0, 0), (0, 0), (0, 0), (0, 0), (0, 0)], [], [.inr (3, (0, 480))]) from rfl)
      cases e
      subst ha
      have h0 : r 0 = 0 := hs.1
      show rxIBG_0 S0 _ S0
      refine ⟨rfl, ?_⟩
      simp only [List.map_cons, List.map_nil, bx_xv_ok h0]
      rfl)
    (fun S0 ws hP => rxuBG (xa := xa) hPX hX hQNX hP) (fun S0 ws hP => rxgCBG hP) (fun S0 ws hP => rxgEBG hP)
end
section
noncomputable def rxCBX : bx_Ct := ([(3, (1, 480, 0)), (0, (0, 0, 1))], none, [(12, 9), (12, 10), (12, 11), (12, 12), (12, 13), (12, 14), (12, 15), (12, 16), (12, 18), (12, 21)], 3, [])
noncomputable def rxIBX_0 (S0 : Nat → Int → Int) (ws : List Int) (S : Nat → Int → Int) (z : Int) : Prop := S = S0 ∧ ws = [480, z]
noncomputable def rxmBX_0 (S0 : Nat → Int → Int) (ws : List Int) (S : Nat → Int → Int) (z : Int) : Nat := 100
noncomputable def rxzBX_0 : rx_Z := ([(0, 0), (0, 0), (0, 0), (0, 0), (0, 0), (0, 0), (0, 0), (0, 0), (0, 1)], [], [], 0, 0, 0, [(0, .inr (3, (0, 480))), (1, .inr (0, (8, 0)))], [])
noncomputable def rxIBX_1 (S0 : Nat → Int → Int) (ws : List Int) (S : Nat → Int → Int) : Prop := ∃ z : Int, ws = [480, z] ∧ S 480 15 = z
noncomputable def rxmBX_1 (S0 : Nat → Int → Int) (ws : List Int) (S : Nat → Int → Int) : Nat := 90
noncomputable def rxzBX_1 : rx_Z := ([(0, 0), (0, 0), (0, 0), (0, 0), (0, 0), (0, 0), (0, 0), (0, 0)], [], [], 0, 0, 6, [(0, .inr (3, (0, 480)))], [.inr (3, (0, 480))])
noncomputable def rxIBX_2 (S0 : Nat → Int → Int) (ws : List Int) (S : Nat → Int → Int) : Prop := rxTk S ∧ S 480 14 = 0 ∧ ∃ z : Int, ws = [480, z] ∧ S 480 15 = z
noncomputable def rxmBX_2 (S0 : Nat → Int → Int) (ws : List Int) (S : Nat → Int → Int) : Nat := 80
noncomputable def rxzBX_2 : rx_Z := ([(0, 0), (0, 0), (0, 0), (0, 0), (0, 0), (0, 0), (0, 0), (0, 0)], [], [], 0, 0, 9, [(0, .inr (3, (0, 480)))], [])
noncomputable def rxoBX_0_0 : bx_HO := (([(0, 0), (0, 0), (0, 0), (0, 0), (0, 0), (0, 0), (0, 0), (0, 0), (0, 1)], [], [(((0, 0), 1851192626986356800434940932178653442218339981833571981143834627000000), .inr (0, (8, 0))), (((0, 480), 15), .inr (0, (8, 0)))], 0, 0, 6, [(0, .inr (3, (0, 480))), (1, .inr (0, (8, 0)))], [.inr (3, (0, 480))]), [], [], [(0, 0), (0, 0), (0, 0), (0, 0), (0, 0), (0, 0), (0, 0), (0, 0)], 1)
noncomputable def rxeBX_2_0 : rx_End × List (Nat × Int × Int) := (([(0, 0), (0, 0), (0, 0), (0, 0), (0, 0), (0, 0), (0, 0), (0, 0)], [], [(((0, 0), 1851192626986356801639181172899307091861268768556583502466777091000000), .inr (0, (0, 0))), (((0, 480), 21), .inr (0, (0, 0))), (((0, 0), 1851192626986356801037061052538980267039804375195077741805305859000000), .inr (0, (0, 0))), (((0, 480), 18), .inr (0, (0, 0))), (((0, 0), 1851192626986356800635647638965429050492161446287407234697658371000000), .inr (0, (0, 0))), (((0, 480), 16), .inr (0, (0, 0)))], none), [])
noncomputable def rxYBX : List bx_HE := [(rxzBX_0, [rxoBX_0_0], []), (rxzBX_1, [], []), (rxzBX_2, [], [rxeBX_2_0])]
noncomputable def rxUBX (q : bx_HE) : Bool := Nat.beq (rx_zpc q.1) 6
noncomputable def rxYBBX : bx_B := (rxV, rxNP, rxDmf, bx_mdH rxCBX.2.2.1)
set_option maxRecDepth 100000 in
theorem rxYcBX : bx_chkH rxYBBX rxM283 rxCBX rxYBX (rxUBX, fun cut z => rx_ex2 (rxCT rxYBBX rxCnE) cut 30000 rxCBX.2.2.2.1 283 z) = true := by decide +kernel
noncomputable def rxIBX (S0 : Nat → Int → Int) (ws : List Int) (i : Nat) : bx_SP := fun S r => match i with | 0 => rxIBX_0 S0 ws S (r 8) | 1 => rxIBX_1 S0 ws S | 2 => rxIBX_2 S0 ws S | _ => False
noncomputable def rxmBX (S0 : Nat → Int → Int) (ws : List Int) (i : Nat) (S : Nat → Int → Int) (r : Nat → Int) : Nat := match i with | 0 => rxmBX_0 S0 ws S (r 8) | 1 => rxmBX_1 S0 ws S | 2 => rxmBX_2 S0 ws S | _ => 0
noncomputable def rxPBX (S0 : Nat → Int → Int) (ws : List Int) : Prop := True
noncomputable def rxPSBX (S0 : Nat → Int → Int) (ws : List Int) (S : Nat → Int → Int) (w : Option Int) : Prop := w = none ∧ rxTk S ∧ S 480 14 = 0 ∧ S 480 16 = 0 ∧ S 480 18 = 0 ∧ ∃ z : Int, ws = [480, z] ∧ S 480 15 = z
theorem rxkBX_1 {S0 : Nat → Int → Int} {ws : List Int} {S : Nat → Int → Int} (hP : rxPBX S0 ws) (hin : bx_same rxL (bx_mdl rxCBX.2.2.1) S0 S) (I0 : bx_Inv rxL S) (hinv : rxIBX_1 S0 ws S)  : rxPBG S [480] ∧ ∀ (S_p : Nat → Int → Int), rxPSBG S [480] S_p none → bx_Inv rxL S_p → bx_same rxL (bx_mdl rxCBG.2.2.1) S S_p → rxIBX_2 S0 ws S_p ∧ rxmBX_2 S0 ws S_p < rxmBX_1 S0 ws S := by
  obtain ⟨z, hw, h2⟩ := hinv
  refine ⟨trivial, fun S_p hq I1 hsm => ⟨⟨hq.2.1, hq.2.2, z, hw, ?_⟩, by unfold rxmBX_1 rxmBX_2; omega⟩⟩
  exact (rx_sameO hsm (p := 480) (j := 15) rfl (by omega) (by decide +kernel) (by decide)).trans h2
theorem rxsBX_1 {X : (Nat → Int → Int) → Prop} {S0 : Nat → Int → Int} {ws : List Int} (hP : rxPBX S0 ws) : rx_obK X S0 rxCBX.2.2.1 rxCBG.2.2.1 (rxIBX S0 ws) (rxmBX S0 ws) 1 2 rxzBX_1 rxzBX_2 [.inr (3, (0, 480))] none rxPBG rxPSBG := by
  intro S r hinv hXS I0 hin hs_ hf_
  have b_ := bx_bds_sat hs_
  have f_ := bx_fcl_ok hs_.1 hf_
  have g := rxkBX_1 hP hin I0 hinv 
  have ea : List.map (bx_num r) [.inr (3, (0, 480))] = [480] := by
    simp only [List.map_cons, List.map_nil, bx_xv_ok hs_.1]
    rfl
  rw [ea]
  refine ⟨g.1, fun S_p w r_p hPS hX_p I1 hsm hr hw hs_p => ?_⟩
  have hw : w = none := hPS.1
  subst hw
  have g2 := g.2 S_p hPS I1 hsm
  show rxIBX_2 S0 ws S_p ∧ rxmBX_2 S0 ws S_p < _
  exact g2
theorem rxcBX_0_0 {S0 : Nat → Int → Int} {ws : List Int} {S : Nat → Int → Int} {z : Int} (hP : rxPBX S0 ws) (hin : bx_same rxL (bx_mdl rxCBX.2.2.1) S0 S) (I0 : bx_Inv rxL S) (hinv : rxIBX_0 S0 ws S z) (l8 : 0 ≤ z) (u8 : z ≤ 1) : (True) ∧ (True) ∧ rxIBX_1 S0 ws (bx_up S 480 15 z) ∧ rxmBX_1 S0 ws (bx_up S 480 15 z) < rxmBX_0 S0 ws S z := by
  obtain ⟨rfl, hw⟩ := hinv
  exact ⟨trivial, trivial, ⟨z, hw, by simp [bx_up]⟩, by unfold rxmBX_0 rxmBX_1; omega⟩
theorem rxgBX_0_0 {X : (Nat → Int → Int) → Prop} {S0 : Nat → Int → Int} {ws : List Int} (hP : rxPBX S0 ws) : bx_obC rxL X S0 rxCBX.2.2.1 (rxIBX S0 ws) (rxmBX S0 ws) 0 rxzBX_0 rxoBX_0_0 := by
  intro S S_p r r_p hinv hX hin hsm_ hseg
  obtain ⟨I0, I1, h0_, hr_, b_, f_, d_⟩ := bx_cl (evs := [(1, (0, 480), (0, 15), .inr (0, (8, 0)))]) (fvs := []) hseg (by decide +kernel) (by decide +kernel)
  have hinv : rxIBX_0 S0 ws S (r 8) := hinv
  rw [← hr_ 8 (by decide)] at hinv
  obtain ⟨⟨l8, u8⟩, -⟩ := b_
  obtain ⟨T0, w_, w0⟩ := d_
  subst w0
  subst w_
  have g := rxcBX_0_0 hP hin I0 hinv l8 u8
  refine ⟨bx_narP_ok (l := []) g.1, bx_nfP_ok h0_ (fvs := []) (by decide +kernel) g.2.1, ?_, ?_⟩
  · show rxIBX_1 S0 ws (bx_up T0 480 (15) (r_p 8))
    exact g.2.2.1
  · show rxmBX_1 S0 ws (bx_up T0 480 (15) (r_p 8)) < rxmBX_0 S0 ws T0 (r 8)
    rw [← hr_ 8 (by decide)]
    exact g.2.2.2
theorem rxdBX_2_0 {S0 : Nat → Int → Int} {ws : List Int} {S : Nat → Int → Int} (hP : rxPBX S0 ws) (hin : bx_same rxL (bx_mdl rxCBX.2.2.1) S0 S) (hin2 : bx_same rxL (bx_mdl rxCBX.2.2.1) S (bx_up (bx_up (bx_up S 480 16 0) 480 18 0) 480 21 0)) (I0 : bx_Inv rxL S) (I1 : bx_Inv rxL (bx_up (bx_up (bx_up S 480 16 0) 480 18 0) 480 21 0)) (hinv : rxIBX_2 S0 ws S)  : (True) ∧ rxPSBX S0 ws (bx_up (bx_up (bx_up S 480 16 0) 480 18 0) 480 21 0) none := by
  obtain ⟨h1, h2, z, hw, h3⟩ := hinv
  refine ⟨trivial, rfl, ?_, by simp [bx_up]; exact h2, by simp [bx_up], by simp [bx_up], z, hw, by simp [bx_up]; exact h3⟩
  unfold rxTk at h1 ⊢
  simp [bx_up]
  omega
theorem rxfBX_2_0 {X : (Nat → Int → Int) → Prop} {S0 : Nat → Int → Int} {ws : List Int} (hP : rxPBX S0 ws) : bx_obE rxL X S0 rxCBX.2.2.1 (rxIBX S0 ws) (rxPSBX S0 ws) 2 rxzBX_2 rxeBX_2_0 := by
  intro S S_p r r_p hinv hX hin hsm_ hseg
  obtain ⟨I0, I1, h0_, hr_, b_, f_, d_⟩ := bx_cl (evs := [(1, (0, 480), (0, 21), .inr (0, (0, 0))), (1, (0, 480), (0, 18), .inr (0, (0, 0))), (1, (0, 480), (0, 16), .inr (0, (0, 0)))]) (fvs := []) hseg (by decide +kernel) (by decide +kernel)
  have hinv : rxIBX_2 S0 ws S := hinv
  obtain ⟨T0, ⟨T1, ⟨T2, w_, w2⟩, w1⟩, w0⟩ := d_
  subst w0
  subst w1
  subst w2
  subst w_
  have g := rxdBX_2_0 hP hin hsm_ I0 I1 hinv 
  refine ⟨bx_narP_ok (l := []) g.1, ?_⟩
  exact g.2
theorem rxgCBX {X : (Nat → Int → Int) → Prop} {S0 : Nat → Int → Int} {ws : List Int} (hP : rxPBX S0 ws) : bx_allI (fun i q => rxUBX q = true ∨ bx_allP (fun o => bx_obC rxL X S0 rxCBX.2.2.1 (rxIBX S0 ws) (rxmBX S0 ws) i q.1 o) q.2.1) 0 rxYBX := ⟨Or.inr ⟨rxgBX_0_0 hP, trivial⟩, Or.inl rfl, Or.inr trivial, trivial⟩
theorem rxgEBX {X : (Nat → Int → Int) → Prop} {S0 : Nat → Int → Int} {ws : List Int} (hP : rxPBX S0 ws) : bx_allI (fun i q => rxUBX q = true ∨ bx_allP (fun E => bx_obE rxL X S0 rxCBX.2.2.1 (rxIBX S0 ws) (rxPSBX S0 ws) i q.1 E) q.2.2) 0 rxYBX := ⟨Or.inr trivial, Or.inl rfl, Or.inr ⟨rxfBX_2_0 hP, trivial⟩, trivial⟩
theorem rxuBX {PX : State → Prop} {Dg : va_G} {A : Nat → Prop} {ad xa : Nat → Nat} {l : Launch} {X : (Nat → Int → Int) → Prop} (hPX : rx_PXOK rxNW A PX) (hX : ∀ S S1 : Nat → Int → Int, X S → bx_same rxL (bx_mdl rxCBX.2.2.1) S S1 → X S1) (hQBG : bx_ConP rxG rxNW rxAO PX Dg rxL X vwCl A ad l rxM281 rxCBG rxPBG rxPSBG) {S0 : Nat → Int → Int} {ws : List Int} (hP : rxPBX S0 ws) : ∀ (i : Nat) (q : bx_HE), rxYBX[i]? = some q → rxUBX q = true → ∀ {p : Program} {e : Env} {R : Room} {s : State} {m : MethodId} {args : Array Value} {below : List Frame} {meth : Method} {c : Code} {Q : State → Prop} {H0 : Heap}, rx_Fr rxG rxNW rxAO PX p s m args meth c rxM283 → (∀ q, H0.size ≤ q → A q) → H0 = s.heap → rxM283.2.2.2.2.2.2.1 ≤ R.cells → rxM283.2.2.2.2.2.2.2 ≤ R.slots → rxCBX.2.2.2.1 ≤ R.frames → rxCBX.2.2.2.1 * 40 ≤ R.locals → bx_Step p l e R s m args below meth c Q Dg rxL X vwCl A xa H0 ad rxM283 rxYBX (rxIBX S0 ws) (rxmBX S0 ws) S0 rxCBX.2.2.1 i q := by
  intro i q hq hus p e R s m args below meth c Q H0 hF hA hH0 hmc hms hd hdl
  match i, hq with
  | 0, hq =>
    cases hq
    exact absurd (show false = true from hus) Bool.false_ne_true
  | 1, hq =>
    cases hq
    exact rx_stepC (ins := .invokevirtual 371) (len := 3) (i_p := 2) (M_p := rxM281) (d := rxCBX.2.2.2.1) (as := [.inr (3, (0, 480))]) (t := []) (ct := rxCBG) hPX hF rfl hA hH0 hmc hms hd hdl (by decide +kernel) rfl rfl (by decide +kernel) (by decide +kernel) hQBG (by decide +kernel) rfl (Or.inl ⟨rfl, rfl, rfl⟩) (rxsBX_1 hP)
  | 2, hq =>
    cases hq
    exact absurd (show false = true from hus) Bool.false_ne_true
  | n + 3, hq => cases hq
theorem rxQBX {PX : State → Prop} {Dg : va_G} {A : Nat → Prop} {ad xa : Nat → Nat} {l : Launch} {X : (Nat → Int → Int) → Prop} (hPX : rx_PXOK rxNW A PX) (hsl : ∀ s : State, PX s → ∀ o idx n : Nat, rxSl o idx = some n → ∃ tx : String, vk_R (rxNm o) idx tx (ad n) s)
    (hX : ∀ S S_p : Nat → Int → Int, X S → bx_same rxL (bx_mdl rxCBX.2.2.1) S S_p → X S_p)
    (ih : ∀ (j2 : Nat) (ct2 : bx_Ct) (M2 : rx_Mt), ct2 ∈ rxCnE j2 → ct2.2.2.2.1 + 1 ≤ rxCBX.2.2.2.1 → rxT.2.2.2.2.2 j2 = some M2 → bx_Con rxG rxNW rxAO PX Dg rxL X vwCl A ad l M2 ct2) (hQBG : bx_ConP rxG rxNW rxAO PX Dg rxL X vwCl A ad l rxM281 rxCBG rxPBG rxPSBG) : bx_ConP rxG rxNW rxAO PX Dg rxL X vwCl A ad l rxM283 rxCBX rxPBX rxPSBX :=
  rxQof (xa := xa) (Cn := rxCnE) (f := 30000) (j := 283) (tab := rxYBX) (us := rxUBX) hPX hsl hX ih rfl rxYcBX rxIBX rxmBX
    (fun S0 ws r I0 I ht0 ht as he he1 hX0 hI0 hP hs ha => by
      have e := he.symm.trans (show bx_ent0 rxNP rxCBX.1 bx_I0 [] = some ([(0, 0), (0, 0), (0, 0), (0, 0), (0, 0), (0, 0), (0, 0), (0, 0), (0, 1)], [], [.inr (3, (0, 480)), .inr (0, (8, 0))]) from rfl)
      cases e
      subst ha
      have h0 : r 0 = 0 := hs.1
      show rxIBX_0 S0 _ S0 (r 8)
      refine ⟨rfl, ?_⟩
      simp only [List.map_cons, List.map_nil, bx_xv_ok h0]
      rfl)
    (fun S0 ws hP => rxuBX (xa := xa) hPX hX hQBG hP) (fun S0 ws hP => rxgCBX hP) (fun S0 ws hP => rxgEBX hP)
end
section
noncomputable def rxCET : bx_Ct := ([(3, (1, 480, 0))], none, [(12, 8), (12, 9), (12, 10), (12, 11), (12, 12), (12, 13), (12, 14), (12, 15)], 4, [])
noncomputable def rxIET_0 (S0 : Nat → Int → Int) (ws : List Int) (S : Nat → Int → Int) : Prop := S = S0 ∧ ws = [480]
noncomputable def rxmET_0 (S0 : Nat → Int → Int) (ws : List Int) (S : Nat → Int → Int) : Nat := 100
noncomputable def rxzET_0 : rx_Z := ([(0, 0), (0, 0), (0, 0), (0, 0), (0, 0), (0, 0), (0, 0), (0, 0)], [], [], 0, 0, 0, [(0, .inr (3, (0, 480)))], [])
noncomputable def rxIET_1 (S0 : Nat → Int → Int) (ws : List Int) (S : Nat → Int → Int) : Prop := S = S0
noncomputable def rxmET_1 (S0 : Nat → Int → Int) (ws : List Int) (S : Nat → Int → Int) : Nat := 90
noncomputable def rxzET_1 : rx_Z := ([(0, 0), (0, 0), (0, 0), (0, 0), (0, 0), (0, 0), (0, 0), (0, 0)], [], [], 0, 0, 16, [(0, .inr (3, (0, 480)))], [.inr (0, (0, 0)), .inr (3, (0, 480))])
noncomputable def rxIET_2 (S0 : Nat → Int → Int) (ws : List Int) (S : Nat → Int → Int) : Prop := S 480 14 = 1
noncomputable def rxmET_2 (S0 : Nat → Int → Int) (ws : List Int) (S : Nat → Int → Int) : Nat := 80
noncomputable def rxzET_2 : rx_Z := ([(0, 0), (0, 0), (0, 0), (0, 0), (0, 0), (0, 0), (0, 0), (0, 0)], [], [], 0, 0, 19, [(0, .inr (3, (0, 480)))], [])
noncomputable def rxoET_0_0 : bx_HO := (([(0, 0), (0, 0), (0, 0), (0, 0), (0, 0), (0, 0), (0, 0), (0, 0), (0, 0), (1, 3)], [(3, (9, 0), (0, 0))], [(((0, 0), 1851192626986356799632114105031551009123054124018230966928539648000000), .inr (0, (9, 0))), (((0, 480), 11), .inr (0, (9, 0))), (((0, 0), 1851192626986356800234234225391877833944518517379736727590010880000000), .inr (0, (8, 0))), (((0, 480), 14), .inr (0, (8, 0)))], 0, 0, 16, [(0, .inr (3, (0, 480)))], [.inr (0, (0, 0)), .inr (3, (0, 480))]), [], [], [(0, 0), (0, 0), (0, 0), (0, 0), (0, 0), (0, 0), (0, 0), (0, 0)], 1)
noncomputable def rxeET_0_0 : rx_End × List (Nat × Int × Int) := (([(0, 0), (0, 0), (0, 0), (0, 0), (0, 0), (0, 0), (0, 0), (0, 0), (0, 0), (0, 0)], [], [(((0, 0), 1851192626986356799029993984671224184301589730656725206267068419000000), .inr (0, (0, 0))), (((0, 480), 8), .inr (0, (0, 0))), (((0, 0), 1851192626986356800434940932178653442218339981833571981143834627000000), .inr (0, (0, 0))), (((0, 480), 15), .inr (0, (0, 0))), (((0, 0), 1851192626986356799632114105031551009123054124018230966928539648000000), .inr (0, (9, 0))), (((0, 480), 11), .inr (0, (9, 0))), (((0, 0), 1851192626986356800234234225391877833944518517379736727590010880000000), .inr (0, (8, 0))), (((0, 480), 14), .inr (0, (8, 0)))], none), [])
noncomputable def rxeET_0_1 : rx_End × List (Nat × Int × Int) := (([(0, 0), (0, 0), (0, 0), (0, 0), (0, 0), (0, 0), (0, 0), (0, 0), (1, 1)], [(3, (8, 0), (0, 0))], [(((0, 0), 1851192626986356799029993984671224184301589730656725206267068419000000), .inr (0, (0, 0))), (((0, 480), 8), .inr (0, (0, 0))), (((0, 0), 1851192626986356800434940932178653442218339981833571981143834627000000), .inr (0, (0, 0))), (((0, 480), 15), .inr (0, (0, 0))), (((0, 0), 1851192626986356800234234225391877833944518517379736727590010880000000), .inr (0, (8, 0))), (((0, 480), 14), .inr (0, (8, 0)))], none), [])
noncomputable def rxeET_2_0 : rx_End × List (Nat × Int × Int) := (([(0, 0), (0, 0), (0, 0), (0, 0), (0, 0), (0, 0), (0, 0), (0, 0)], [], [(((0, 0), 1851192626986356799029993984671224184301589730656725206267068419000000), .inr (0, (0, 0))), (((0, 480), 8), .inr (0, (0, 0))), (((0, 0), 1851192626986356800434940932178653442218339981833571981143834627000000), .inr (0, (0, 0))), (((0, 480), 15), .inr (0, (0, 0)))], none), [])
noncomputable def rxYET : List bx_HE := [(rxzET_0, [rxoET_0_0], [rxeET_0_0, rxeET_0_1]), (rxzET_1, [], []), (rxzET_2, [], [rxeET_2_0])]
noncomputable def rxUET (q : bx_HE) : Bool := Nat.beq (rx_zpc q.1) 16
noncomputable def rxYBET : bx_B := (rxV, rxNP, rxDmf, bx_mdH rxCET.2.2.1)
set_option maxRecDepth 100000 in
theorem rxYcET : bx_chkH rxYBET rxM285 rxCET rxYET (rxUET, fun cut z => rx_ex2 (rxCT rxYBET rxCnE) cut 30000 rxCET.2.2.2.1 285 z) = true := by decide +kernel
noncomputable def rxIET (S0 : Nat → Int → Int) (ws : List Int) (i : Nat) : bx_SP := fun S r => match i with | 0 => rxIET_0 S0 ws S | 1 => rxIET_1 S0 ws S | 2 => rxIET_2 S0 ws S | _ => False
noncomputable def rxmET (S0 : Nat → Int → Int) (ws : List Int) (i : Nat) (S : Nat → Int → Int) (r : Nat → Int) : Nat := match i with | 0 => rxmET_0 S0 ws S | 1 => rxmET_1 S0 ws S | 2 => rxmET_2 S0 ws S | _ => 0
noncomputable def rxPET (S0 : Nat → Int → Int) (ws : List Int) : Prop := rxTk S0
noncomputable def rxPSET (S0 : Nat → Int → Int) (ws : List Int) (S : Nat → Int → Int) (w : Option Int) : Prop := w = none ∧ S 480 15 = 0 ∧ (S 480 14 = 0 → S0 480 14 = 0)
theorem rxkET_1 {S0 : Nat → Int → Int} {ws : List Int} {S : Nat → Int → Int} (hP : rxPET S0 ws) (hin : bx_same rxL (bx_mdl rxCET.2.2.1) S0 S) (I0 : bx_Inv rxL S) (hinv : rxIET_1 S0 ws S)  : rxPMU S [480, 0] ∧ ∀ (S_p : Nat → Int → Int), rxPSMU S [480, 0] S_p none → bx_Inv rxL S_p → bx_same rxL (bx_mdl rxCMU.2.2.1) S S_p → rxIET_2 S0 ws S_p ∧ rxmET_2 S0 ws S_p < rxmET_1 S0 ws S := by
  subst hinv
  refine ⟨hP, fun S_p hq I1 hsm => ⟨?_, by unfold rxmET_1 rxmET_2; omega⟩⟩
  obtain ⟨-, -, is_p, hw2, hc⟩ := hq
  have he : (0 : Int) = is_p := Option.some.inj (congrArg (fun l => l[1]?) hw2)
  rcases hc with ⟨c1, c2, c3, c4⟩ | ⟨c1, c2, c3⟩
  · omega
  · exact c2
theorem rxsET_1 {X : (Nat → Int → Int) → Prop} {S0 : Nat → Int → Int} {ws : List Int} (hP : rxPET S0 ws) : rx_obK X S0 rxCET.2.2.1 rxCMU.2.2.1 (rxIET S0 ws) (rxmET S0 ws) 1 2 rxzET_1 rxzET_2 [.inr (3, (0, 480)), .inr (0, (0, 0))] none rxPMU rxPSMU := by
  intro S r hinv hXS I0 hin hs_ hf_
  have b_ := bx_bds_sat hs_
  have f_ := bx_fcl_ok hs_.1 hf_
  have g := rxkET_1 hP hin I0 hinv 
  have ea : List.map (bx_num r) [.inr (3, (0, 480)), .inr (0, (0, 0))] = [480, 0] := by
    simp only [List.map_cons, List.map_nil, bx_xv_ok hs_.1]
    rfl
  rw [ea]
  refine ⟨g.1, fun S_p w r_p hPS hX_p I1 hsm hr hw hs_p => ?_⟩
  have hw : w = none := hPS.1
  subst hw
  have g2 := g.2 S_p hPS I1 hsm
  show rxIET_2 S0 ws S_p ∧ rxmET_2 S0 ws S_p < _
  exact g2
theorem rxcET_0_0 {S0 : Nat → Int → Int} {ws : List Int} {S : Nat → Int → Int} {x8 x9 : Int} (hP : rxPET S0 ws) (hin : bx_same rxL (bx_mdl rxCET.2.2.1) S0 S) (I0 : bx_Inv rxL S) (hinv : rxIET_0 S0 ws S) (l8 : 0 ≤ x8) (u8 : x8 ≤ 0) (l9 : 1 ≤ x9) (u9 : x9 ≤ 3) (f0 : x9 ≠ 0) (e1 : S 480 14 = x8) (e0 : S 480 11 = x9) : (True) ∧ (True) ∧ rxIET_1 S0 ws S ∧ rxmET_1 S0 ws S < rxmET_0 S0 ws S := by
  exact ⟨trivial, trivial, hinv.1, by unfold rxmET_0 rxmET_1; omega⟩
theorem rxgET_0_0 {X : (Nat → Int → Int) → Prop} {S0 : Nat → Int → Int} {ws : List Int} (hP : rxPET S0 ws) : bx_obC rxL X S0 rxCET.2.2.1 (rxIET S0 ws) (rxmET S0 ws) 0 rxzET_0 rxoET_0_0 := by
  intro S S_p r r_p hinv hX hin hsm_ hseg
  obtain ⟨I0, I1, h0_, hr_, b_, f_, d_⟩ := bx_cl (evs := [(0, (0, 480), (0, 11), .inr (0, (9, 0))), (0, (0, 480), (0, 14), .inr (0, (8, 0)))]) (fvs := [(3, (9, 0), (0, 0), (0, 0))]) hseg (by decide +kernel) (by decide +kernel)
  have hinv : rxIET_0 S0 ws S := hinv
  obtain ⟨⟨l8, u8⟩, ⟨l9, u9⟩, -⟩ := b_
  obtain ⟨f0, -⟩ := f_
  obtain ⟨e0, ⟨e1, w_⟩⟩ := d_
  subst w_
  have g := rxcET_0_0 hP hin I0 hinv l8 u8 l9 u9 f0 e1 e0
  refine ⟨bx_narP_ok (l := []) g.1, bx_nfP_ok h0_ (fvs := []) (by decide +kernel) g.2.1, ?_, ?_⟩
  · show rxIET_1 S0 ws S_p
    exact g.2.2.1
  · show rxmET_1 S0 ws S_p < rxmET_0 S0 ws S_p
    exact g.2.2.2
theorem rxdET_0_0 {S0 : Nat → Int → Int} {ws : List Int} {S : Nat → Int → Int} {x8 x9 : Int} (hP : rxPET S0 ws) (hin : bx_same rxL (bx_mdl rxCET.2.2.1) S0 S) (hin2 : bx_same rxL (bx_mdl rxCET.2.2.1) S (bx_up (bx_up S 480 15 0) 480 8 0)) (I0 : bx_Inv rxL S) (I1 : bx_Inv rxL (bx_up (bx_up S 480 15 0) 480 8 0)) (hinv : rxIET_0 S0 ws S) (l8 : 0 ≤ x8) (u8 : x8 ≤ 0) (l9 : 0 ≤ x9) (u9 : x9 ≤ 0) (e3 : S 480 14 = x8) (e2 : S 480 11 = x9) : (True) ∧ rxPSET S0 ws (bx_up (bx_up S 480 15 0) 480 8 0) none := by
  obtain ⟨rfl, -⟩ := hinv
  refine ⟨trivial, rfl, by simp [bx_up], fun q => ?_⟩
  simp [bx_up] at q
  omega
theorem rxfET_0_0 {X : (Nat → Int → Int) → Prop} {S0 : Nat → Int → Int} {ws : List Int} (hP : rxPET S0 ws) : bx_obE rxL X S0 rxCET.2.2.1 (rxIET S0 ws) (rxPSET S0 ws) 0 rxzET_0 rxeET_0_0 := by
  intro S S_p r r_p hinv hX hin hsm_ hseg
  obtain ⟨I0, I1, h0_, hr_, b_, f_, d_⟩ := bx_cl (evs := [(1, (0, 480), (0, 8), .inr (0, (0, 0))), (1, (0, 480), (0, 15), .inr (0, (0, 0))), (0, (0, 480), (0, 11), .inr (0, (9, 0))), (0, (0, 480), (0, 14), .inr (0, (8, 0)))]) (fvs := []) hseg (by decide +kernel) (by decide +kernel)
  have hinv : rxIET_0 S0 ws S := hinv
  obtain ⟨⟨l8, u8⟩, ⟨l9, u9⟩, -⟩ := b_
  obtain ⟨T0, ⟨T1, ⟨e2, ⟨e3, w_⟩⟩, w1⟩, w0⟩ := d_
  subst w0
  subst w1
  subst w_
  have g := rxdET_0_0 hP hin hsm_ I0 I1 hinv l8 u8 l9 u9 e3 e2
  refine ⟨bx_narP_ok (l := []) g.1, ?_⟩
  exact g.2
theorem rxdET_0_1 {S0 : Nat → Int → Int} {ws : List Int} {S : Nat → Int → Int} {x8 : Int} (hP : rxPET S0 ws) (hin : bx_same rxL (bx_mdl rxCET.2.2.1) S0 S) (hin2 : bx_same rxL (bx_mdl rxCET.2.2.1) S (bx_up (bx_up S 480 15 0) 480 8 0)) (I0 : bx_Inv rxL S) (I1 : bx_Inv rxL (bx_up (bx_up S 480 15 0) 480 8 0)) (hinv : rxIET_0 S0 ws S) (l8 : 1 ≤ x8) (u8 : x8 ≤ 1) (f0 : x8 ≠ 0) (e2 : S 480 14 = x8) : (True) ∧ rxPSET S0 ws (bx_up (bx_up S 480 15 0) 480 8 0) none := by
  obtain ⟨rfl, -⟩ := hinv
  refine ⟨trivial, rfl, by simp [bx_up], fun q => ?_⟩
  simp [bx_up] at q
  omega
theorem rxfET_0_1 {X : (Nat → Int → Int) → Prop} {S0 : Nat → Int → Int} {ws : List Int} (hP : rxPET S0 ws) : bx_obE rxL X S0 rxCET.2.2.1 (rxIET S0 ws) (rxPSET S0 ws) 0 rxzET_0 rxeET_0_1 := by
  intro S S_p r r_p hinv hX hin hsm_ hseg
  obtain ⟨I0, I1, h0_, hr_, b_, f_, d_⟩ := bx_cl (evs := [(1, (0, 480), (0, 8), .inr (0, (0, 0))), (1, (0, 480), (0, 15), .inr (0, (0, 0))), (0, (0, 480), (0, 14), .inr (0, (8, 0)))]) (fvs := [(3, (8, 0), (0, 0), (0, 0))]) hseg (by decide +kernel) (by decide +kernel)
  have hinv : rxIET_0 S0 ws S := hinv
  obtain ⟨⟨l8, u8⟩, -⟩ := b_
  obtain ⟨f0, -⟩ := f_
  obtain ⟨T0, ⟨T1, ⟨e2, w_⟩, w1⟩, w0⟩ := d_
  subst w0
  subst w1
  subst w_
  have g := rxdET_0_1 hP hin hsm_ I0 I1 hinv l8 u8 f0 e2
  refine ⟨bx_narP_ok (l := []) g.1, ?_⟩
  exact g.2
theorem rxdET_2_0 {S0 : Nat → Int → Int} {ws : List Int} {S : Nat → Int → Int} (hP : rxPET S0 ws) (hin : bx_same rxL (bx_mdl rxCET.2.2.1) S0 S) (hin2 : bx_same rxL (bx_mdl rxCET.2.2.1) S (bx_up (bx_up S 480 15 0) 480 8 0)) (I0 : bx_Inv rxL S) (I1 : bx_Inv rxL (bx_up (bx_up S 480 15 0) 480 8 0)) (hinv : rxIET_2 S0 ws S)  : (True) ∧ rxPSET S0 ws (bx_up (bx_up S 480 15 0) 480 8 0) none := by
  have h : S 480 14 = 1 := hinv
  refine ⟨trivial, rfl, by simp [bx_up], fun q => ?_⟩
  simp [bx_up] at q
  omega
theorem rxfET_2_0 {X : (Nat → Int → Int) → Prop} {S0 : Nat → Int → Int} {ws : List Int} (hP : rxPET S0 ws) : bx_obE rxL X S0 rxCET.2.2.1 (rxIET S0 ws) (rxPSET S0 ws) 2 rxzET_2 rxeET_2_0 := by
  intro S S_p r r_p hinv hX hin hsm_ hseg
  obtain ⟨I0, I1, h0_, hr_, b_, f_, d_⟩ := bx_cl (evs := [(1, (0, 480), (0, 8), .inr (0, (0, 0))), (1, (0, 480), (0, 15), .inr (0, (0, 0)))]) (fvs := []) hseg (by decide +kernel) (by decide +kernel)
  have hinv : rxIET_2 S0 ws S := hinv
  obtain ⟨T0, ⟨T1, w_, w1⟩, w0⟩ := d_
  subst w0
  subst w1
  subst w_
  have g := rxdET_2_0 hP hin hsm_ I0 I1 hinv 
  refine ⟨bx_narP_ok (l := []) g.1, ?_⟩
  exact g.2
theorem rxgCET {X : (Nat → Int → Int) → Prop} {S0 : Nat → Int → Int} {ws : List Int} (hP : rxPET S0 ws) : bx_allI (fun i q => rxUET q = true ∨ bx_allP (fun o => bx_obC rxL X S0 rxCET.2.2.1 (rxIET S0 ws) (rxmET S0 ws) i q.1 o) q.2.1) 0 rxYET := ⟨Or.inr ⟨rxgET_0_0 hP, trivial⟩, Or.inl rfl, Or.inr trivial, trivial⟩
theorem rxgEET {X : (Nat → Int → Int) → Prop} {S0 : Nat → Int → Int} {ws : List Int} (hP : rxPET S0 ws) : bx_allI (fun i q => rxUET q = true ∨ bx_allP (fun E => bx_obE rxL X S0 rxCET.2.2.1 (rxIET S0 ws) (rxPSET S0 ws) i q.1 E) q.2.2) 0 rxYET := ⟨Or.inr ⟨rxfET_0_0 hP, rxfET_0_1 hP, trivial⟩, Or.inl rfl, Or.inr ⟨rxfET_2_0 hP, trivial⟩, trivial⟩
theorem rxuET {PX : State → Prop} {Dg : va_G} {A : Nat → Prop} {ad xa : Nat → Nat} {l : Launch} {X : (Nat → Int → Int) → Prop} (hPX : rx_PXOK rxNW A PX) (hX : ∀ S S1 : Nat → Int → Int, X S → bx_same rxL (bx_mdl rxCET.2.2.1) S S1 → X S1) (hQMU : bx_ConP rxG rxNW rxAO PX Dg rxL X vwCl A ad l rxM265 rxCMU rxPMU rxPSMU) {S0 : Nat → Int → Int} {ws : List Int} (hP : rxPET S0 ws) : ∀ (i : Nat) (q : bx_HE), rxYET[i]? = some q → rxUET q = true → ∀ {p : Program} {e : Env} {R : Room} {s : State} {m : MethodId} {args : Array Value} {below : List Frame} {meth : Method} {c : Code} {Q : State → Prop} {H0 : Heap}, rx_Fr rxG rxNW rxAO PX p s m args meth c rxM285 → (∀ q, H0.size ≤ q → A q) → H0 = s.heap → rxM285.2.2.2.2.2.2.1 ≤ R.cells → rxM285.2.2.2.2.2.2.2 ≤ R.slots → rxCET.2.2.2.1 ≤ R.frames → rxCET.2.2.2.1 * 40 ≤ R.locals → bx_Step p l e R s m args below meth c Q Dg rxL X vwCl A xa H0 ad rxM285 rxYET (rxIET S0 ws) (rxmET S0 ws) S0 rxCET.2.2.1 i q := by
  intro i q hq hus p e R s m args below meth c Q H0 hF hA hH0 hmc hms hd hdl
  match i, hq with
  | 0, hq =>
    cases hq
    exact absurd (show false = true from hus) Bool.false_ne_true
  | 1, hq =>
    cases hq
    exact rx_stepC (ins := .invokevirtual 284) (len := 3) (i_p := 2) (M_p := rxM265) (d := rxCET.2.2.2.1) (as := [.inr (3, (0, 480)), .inr (0, (0, 0))]) (t := []) (ct := rxCMU) hPX hF rfl hA hH0 hmc hms hd hdl (by decide +kernel) rfl rfl (by decide +kernel) (by decide +kernel) hQMU (by decide +kernel) rfl (Or.inl ⟨rfl, rfl, rfl⟩) (rxsET_1 hP)
  | 2, hq =>
    cases hq
    exact absurd (show false = true from hus) Bool.false_ne_true
  | n + 3, hq => cases hq
theorem rxQET {PX : State → Prop} {Dg : va_G} {A : Nat → Prop} {ad xa : Nat → Nat} {l : Launch} {X : (Nat → Int → Int) → Prop} (hPX : rx_PXOK rxNW A PX) (hsl : ∀ s : State, PX s → ∀ o idx n : Nat, rxSl o idx = some n → ∃ tx : String, vk_R (rxNm o) idx tx (ad n) s)
    (hX : ∀ S S_p : Nat → Int → Int, X S → bx_same rxL (bx_mdl rxCET.2.2.1) S S_p → X S_p)
    (ih : ∀ (j2 : Nat) (ct2 : bx_Ct) (M2 : rx_Mt), ct2 ∈ rxCnE j2 → ct2.2.2.2.1 + 1 ≤ rxCET.2.2.2.1 → rxT.2.2.2.2.2 j2 = some M2 → bx_Con rxG rxNW rxAO PX Dg rxL X vwCl A ad l M2 ct2) (hQMU : bx_ConP rxG rxNW rxAO PX Dg rxL X vwCl A ad l rxM265 rxCMU rxPMU rxPSMU) : bx_ConP rxG rxNW rxAO PX Dg rxL X vwCl A ad l rxM285 rxCET rxPET rxPSET :=
  rxQof (xa := xa) (Cn := rxCnE) (f := 30000) (j := 285) (tab := rxYET) (us := rxUET) hPX hsl hX ih rfl rxYcET rxIET rxmET
    (fun S0 ws r I0 I ht0 ht as he he1 hX0 hI0 hP hs ha => by
      have e := he.symm.trans (show bx_ent0 rxNP rxCET.1 bx_I0 [] = some ([(0, 0), (0, 0), (0, 0), (0, 0), (0, 0), (0, 0), (0, 0), (0, 0)], [], [.inr (3, (0, 480))]) from rfl)
      cases e
      subst ha
      have h0 : r 0 = 0 := hs.1
      show rxIET_0 S0 _ S0
      refine ⟨rfl, ?_⟩
      simp only [List.map_cons, List.map_nil, bx_xv_ok h0]
      rfl)
    (fun S0 ws hP => rxuET (xa := xa) hPX hX hQMU hP) (fun S0 ws hP => rxgCET hP) (fun S0 ws hP => rxgEET hP)
end
