/-! CONTRACT BY HAND, by program (wip/sim/genhand.py): DeadUnderstudiesModel.beginText -/
def rxCBX : bx_Ct := ([(3, (1, 480, 0)), (0, (0, 0, 1))], none, [(12, 9), (12, 10), (12, 11), (12, 12), (12, 13), (12, 14), (12, 15), (12, 16), (12, 18), (12, 21)], 3, [])
def rxIBX_0 (S0 : Nat → Int → Int) (ws : List Int) (S : Nat → Int → Int) (z : Int) : Prop := S = S0 ∧ ws = [480, z]
def rxmBX_0 (S0 : Nat → Int → Int) (ws : List Int) (S : Nat → Int → Int) (z : Int) : Nat := 100
def rxzBX_0 : rx_Z := ([(0, 0), (0, 0), (0, 0), (0, 0), (0, 0), (0, 0), (0, 0), (0, 0), (0, 1)], [], [], 0, 0, 0, [(0, .inr (3, (0, 480))), (1, .inr (0, (8, 0)))], [])
def rxIBX_1 (S0 : Nat → Int → Int) (ws : List Int) (S : Nat → Int → Int) : Prop := ∃ z : Int, ws = [480, z] ∧ S 480 15 = z
def rxmBX_1 (S0 : Nat → Int → Int) (ws : List Int) (S : Nat → Int → Int) : Nat := 90
def rxzBX_1 : rx_Z := ([(0, 0), (0, 0), (0, 0), (0, 0), (0, 0), (0, 0), (0, 0), (0, 0)], [], [], 0, 0, 6, [(0, .inr (3, (0, 480)))], [.inr (3, (0, 480))])
def rxIBX_2 (S0 : Nat → Int → Int) (ws : List Int) (S : Nat → Int → Int) : Prop := rxTk S ∧ S 480 14 = 0 ∧ ∃ z : Int, ws = [480, z] ∧ S 480 15 = z
def rxmBX_2 (S0 : Nat → Int → Int) (ws : List Int) (S : Nat → Int → Int) : Nat := 80
def rxzBX_2 : rx_Z := ([(0, 0), (0, 0), (0, 0), (0, 0), (0, 0), (0, 0), (0, 0), (0, 0)], [], [], 0, 0, 9, [(0, .inr (3, (0, 480)))], [])
def rxoBX_0_0 : bx_HO := (([(0, 0), (0, 0), (0, 0), (0, 0), (0, 0), (0, 0), (0, 0), (0, 0), (0, 1)], [], [(((0, 0), 1851192626986356800434940932178653442218339981833571981143834627000000), .inr (0, (8, 0))), (((0, 480), 15), .inr (0, (8, 0)))], 0, 0, 6, [(0, .inr (3, (0, 480))), (1, .inr (0, (8, 0)))], [.inr (3, (0, 480))]), [], [], [(0, 0), (0, 0), (0, 0), (0, 0), (0, 0), (0, 0), (0, 0), (0, 0)], 1)
def rxeBX_2_0 : rx_End × List (Nat × Int × Int) := (([(0, 0), (0, 0), (0, 0), (0, 0), (0, 0), (0, 0), (0, 0), (0, 0)], [], [(((0, 0), 1851192626986356801639181172899307091861268768556583502466777091000000), .inr (0, (0, 0))), (((0, 480), 21), .inr (0, (0, 0))), (((0, 0), 1851192626986356801037061052538980267039804375195077741805305859000000), .inr (0, (0, 0))), (((0, 480), 18), .inr (0, (0, 0))), (((0, 0), 1851192626986356800635647638965429050492161446287407234697658371000000), .inr (0, (0, 0))), (((0, 480), 16), .inr (0, (0, 0)))], none), [])
def rxYBX : List bx_HE := [(rxzBX_0, [rxoBX_0_0], []), (rxzBX_1, [], []), (rxzBX_2, [], [rxeBX_2_0])]
def rxUBX (q : bx_HE) : Bool := Nat.beq (rx_zpc q.1) 6
def rxYBBX : bx_B := (rxV, rxNP, rxDmf, bx_mdH rxCBX.2.2.1)
set_option maxRecDepth 100000 in
theorem rxYcBX : bx_chkH rxYBBX rxM283 rxCBX rxYBX (rxUBX, fun cut z => rx_ex2 (rxCT rxYBBX rxCnE) cut 30000 rxCBX.2.2.2.1 283 z) = true := by decide +kernel
def rxIBX (S0 : Nat → Int → Int) (ws : List Int) (i : Nat) : bx_SP := fun S r => match i with | 0 => rxIBX_0 S0 ws S (r 8) | 1 => rxIBX_1 S0 ws S | 2 => rxIBX_2 S0 ws S | _ => False
def rxmBX (S0 : Nat → Int → Int) (ws : List Int) (i : Nat) (S : Nat → Int → Int) (r : Nat → Int) : Nat := match i with | 0 => rxmBX_0 S0 ws S (r 8) | 1 => rxmBX_1 S0 ws S | 2 => rxmBX_2 S0 ws S | _ => 0
def rxPBX (S0 : Nat → Int → Int) (ws : List Int) : Prop := True
def rxPSBX (S0 : Nat → Int → Int) (ws : List Int) (S : Nat → Int → Int) (w : Option Int) : Prop := w = none ∧ rxTk S ∧ S 480 14 = 0 ∧ S 480 16 = 0 ∧ S 480 18 = 0 ∧ ∃ z : Int, ws = [480, z] ∧ S 480 15 = z
theorem rxkBX_1 {S0 : Nat → Int → Int} {ws : List Int} {S : Nat → Int → Int} (hP : rxPBX S0 ws) (hin : bx_same rxL (bx_mdl rxCBX.2.2.1) S0 S) (I0 : bx_Inv rxL S) (hinv : rxIBX_1 S0 ws S)  : rxPBG S [480] ∧ ∀ (S_p : Nat → Int → Int), rxPSBG S [480] S_p none → bx_Inv rxL S_p → bx_same rxL (bx_mdl rxCBG.2.2.1) S S_p → rxIBX_2 S0 ws S_p ∧ rxmBX_2 S0 ws S_p < rxmBX_1 S0 ws S := by
  obtain ⟨z, hw, h2⟩ := hinv
  refine ⟨trivial, fun S_p hq I1 hsm => ⟨⟨hq.2.1, hq.2.2, z, hw, ?_⟩, by unfold rxmBX_1 rxmBX_2; omega⟩⟩
  exact (rx_sameO hsm (p := 480) (j := 15) rfl (by omega) (by decide +kernel) (by decide)).trans h2
theorem rxsBX_1 {X : (Nat → Int → Int) → Prop} {S0 : Nat → Int → Int} {ws : List Int} (hP : rxPBX S0 ws) : rx_obK X S0 rxCBX.2.2.1 rxCBG.2.2.1 (rxIBX S0 ws) (rxmBX S0 ws) 1 2 rxzBX_1 rxzBX_2 [.inr (3, (0, 480))] none rxPBG rxPSBG := by
  intro S r hinv hXS I0 hin hs_ hf_
  have b_ := bx_bds_sat hs_
  have f_ := bx_fcl_ok hs_.1 hf_
  have g := rxkBX_1 hP hin I0 hinv 
  have ea : List.map (bx_num r) [.inr (3, (0, 480))] = [480] := by
    simp only [List.map_cons, List.map_nil, bx_xv_ok hs_.1]
    rfl
  rw [ea]
  refine ⟨g.1, fun S_p w r_p hPS hX_p I1 hsm hr hw hs_p => ?_⟩
  have hw : w = none := hPS.1
  subst hw
  have g2 := g.2 S_p hPS I1 hsm
  show rxIBX_2 S0 ws S_p ∧ rxmBX_2 S0 ws S_p < _
  exact g2
theorem rxcBX_0_0 {S0 : Nat → Int → Int} {ws : List Int} {S : Nat → Int → Int} {z : Int} (hP : rxPBX S0 ws) (hin : bx_same rxL (bx_mdl rxCBX.2.2.1) S0 S) (I0 : bx_Inv rxL S) (hinv : rxIBX_0 S0 ws S z) (l8 : 0 ≤ z) (u8 : z ≤ 1) : (True) ∧ (True) ∧ rxIBX_1 S0 ws (bx_up S 480 15 z) ∧ rxmBX_1 S0 ws (bx_up S 480 15 z) < rxmBX_0 S0 ws S z := by
  obtain ⟨rfl, hw⟩ := hinv
  exact ⟨trivial, trivial, ⟨z, hw, by simp [bx_up]⟩, by unfold rxmBX_0 rxmBX_1; omega⟩
theorem rxgBX_0_0 {X : (Nat → Int → Int) → Prop} {S0 : Nat → Int → Int} {ws : List Int} (hP : rxPBX S0 ws) : bx_obC rxL X S0 rxCBX.2.2.1 (rxIBX S0 ws) (rxmBX S0 ws) 0 rxzBX_0 rxoBX_0_0 := by
  intro S S_p r r_p hinv hX hin hsm_ hseg
  obtain ⟨I0, I1, h0_, hr_, b_, f_, d_⟩ := bx_cl (evs := [(1, (0, 480), (0, 15), .inr (0, (8, 0)))]) (fvs := []) hseg (by decide +kernel) (by decide +kernel)
  have hinv : rxIBX_0 S0 ws S (r 8) := hinv
  rw [← hr_ 8 (by decide)] at hinv
  obtain ⟨⟨l8, u8⟩, -⟩ := b_
  obtain ⟨T0, w_, w0⟩ := d_
  subst w0
  subst w_
  have g := rxcBX_0_0 hP hin I0 hinv l8 u8
  refine ⟨bx_narP_ok (l := []) g.1, bx_nfP_ok h0_ (fvs := []) (by decide +kernel) g.2.1, ?_, ?_⟩
  · show rxIBX_1 S0 ws (bx_up T0 480 (15) (r_p 8))
    exact g.2.2.1
  · show rxmBX_1 S0 ws (bx_up T0 480 (15) (r_p 8)) < rxmBX_0 S0 ws T0 (r 8)
    rw [← hr_ 8 (by decide)]
    exact g.2.2.2
theorem rxdBX_2_0 {S0 : Nat → Int → Int} {ws : List Int} {S : Nat → Int → Int} (hP : rxPBX S0 ws) (hin : bx_same rxL (bx_mdl rxCBX.2.2.1) S0 S) (hin2 : bx_same rxL (bx_mdl rxCBX.2.2.1) S (bx_up (bx_up (bx_up S 480 16 0) 480 18 0) 480 21 0)) (I0 : bx_Inv rxL S) (I1 : bx_Inv rxL (bx_up (bx_up (bx_up S 480 16 0) 480 18 0) 480 21 0)) (hinv : rxIBX_2 S0 ws S)  : (True) ∧ rxPSBX S0 ws (bx_up (bx_up (bx_up S 480 16 0) 480 18 0) 480 21 0) none := by
  obtain ⟨h1, h2, z, hw, h3⟩ := hinv
  refine ⟨trivial, rfl, ?_, by simp [bx_up]; exact h2, by simp [bx_up], by simp [bx_up], z, hw, by simp [bx_up]; exact h3⟩
  unfold rxTk at h1 ⊢
  simp [bx_up]
  omega
theorem rxfBX_2_0 {X : (Nat → Int → Int) → Prop} {S0 : Nat → Int → Int} {ws : List Int} (hP : rxPBX S0 ws) : bx_obE rxL X S0 rxCBX.2.2.1 (rxIBX S0 ws) (rxPSBX S0 ws) 2 rxzBX_2 rxeBX_2_0 := by
  intro S S_p r r_p hinv hX hin hsm_ hseg
  obtain ⟨I0, I1, h0_, hr_, b_, f_, d_⟩ := bx_cl (evs := [(1, (0, 480), (0, 21), .inr (0, (0, 0))), (1, (0, 480), (0, 18), .inr (0, (0, 0))), (1, (0, 480), (0, 16), .inr (0, (0, 0)))]) (fvs := []) hseg (by decide +kernel) (by decide +kernel)
  have hinv : rxIBX_2 S0 ws S := hinv
  obtain ⟨T0, ⟨T1, ⟨T2, w_, w2⟩, w1⟩, w0⟩ := d_
  subst w0
  subst w1
  subst w2
  subst w_
  have g := rxdBX_2_0 hP hin hsm_ I0 I1 hinv 
  refine ⟨bx_narP_ok (l := []) g.1, ?_⟩
  exact g.2
theorem rxgCBX {X : (Nat → Int → Int) → Prop} {S0 : Nat → Int → Int} {ws : List Int} (hP : rxPBX S0 ws) : bx_allI (fun i q => rxUBX q = true ∨ bx_allP (fun o => bx_obC rxL X S0 rxCBX.2.2.1 (rxIBX S0 ws) (rxmBX S0 ws) i q.1 o) q.2.1) 0 rxYBX := ⟨Or.inr ⟨rxgBX_0_0 hP, trivial⟩, Or.inl rfl, Or.inr trivial, trivial⟩
theorem rxgEBX {X : (Nat → Int → Int) → Prop} {S0 : Nat → Int → Int} {ws : List Int} (hP : rxPBX S0 ws) : bx_allI (fun i q => rxUBX q = true ∨ bx_allP (fun E => bx_obE rxL X S0 rxCBX.2.2.1 (rxIBX S0 ws) (rxPSBX S0 ws) i q.1 E) q.2.2) 0 rxYBX := ⟨Or.inr trivial, Or.inl rfl, Or.inr ⟨rxfBX_2_0 hP, trivial⟩, trivial⟩
theorem rxuBX {PX : State → Prop} {Dg : va_G} {A : Nat → Prop} {ad xa : Nat → Nat} {l : Launch} {X : (Nat → Int → Int) → Prop} (hPX : rx_PXOK rxNW A PX) (hX : ∀ S S1 : Nat → Int → Int, X S → bx_same rxL (bx_mdl rxCBX.2.2.1) S S1 → X S1) (hQBG : bx_ConP rxG rxNW rxAO PX Dg rxL X vwCl A ad l rxM281 rxCBG rxPBG rxPSBG) {S0 : Nat → Int → Int} {ws : List Int} (hP : rxPBX S0 ws) : ∀ (i : Nat) (q : bx_HE), rxYBX[i]? = some q → rxUBX q = true → ∀ {p : Program} {e : Env} {R : Room} {s : State} {m : MethodId} {args : Array Value} {below : List Frame} {meth : Method} {c : Code} {Q : State → Prop} {H0 : Heap}, rx_Fr rxG rxNW rxAO PX p s m args meth c rxM283 → (∀ q, H0.size ≤ q → A q) → H0 = s.heap → rxM283.2.2.2.2.2.2.1 ≤ R.cells → rxM283.2.2.2.2.2.2.2 ≤ R.slots → rxCBX.2.2.2.1 ≤ R.frames → rxCBX.2.2.2.1 * 40 ≤ R.locals → bx_Step p l e R s m args below meth c Q Dg rxL X vwCl A xa H0 ad rxM283 rxYBX (rxIBX S0 ws) (rxmBX S0 ws) S0 rxCBX.2.2.1 i q := by
  intro i q hq hus p e R s m args below meth c Q H0 hF hA hH0 hmc hms hd hdl
  match i, hq with
  | 0, hq =>
    cases hq
    exact absurd (show false = true from hus) Bool.false_ne_true
  | 1, hq =>
    cases hq
    exact rx_stepC (ins := .invokevirtual 371) (len := 3) (i_p := 2) (M_p := rxM281) (d := rxCBX.2.2.2.1) (as := [.inr (3, (0, 480))]) (t := []) (ct := rxCBG) hPX hF rfl hA hH0 hmc hms hd hdl (by decide +kernel) rfl rfl (by decide +kernel) (by decide +kernel) hQBG (by decide +kernel) rfl (Or.inl ⟨rfl, rfl, rfl⟩) (rxsBX_1 hP)
  | 2, hq =>
    cases hq
    exact absurd (show false = true from hus) Bool.false_ne_true
  | n + 3, hq => cases hq
theorem rxQBX {PX : State → Prop} {Dg : va_G} {A : Nat → Prop} {ad xa : Nat → Nat} {l : Launch} {X : (Nat → Int → Int) → Prop} (hPX : rx_PXOK rxNW A PX) (hsl : ∀ s : State, PX s → ∀ o idx n : Nat, rxSl o idx = some n → ∃ tx : String, vk_R (rxNm o) idx tx (ad n) s)
    (hX : ∀ S S_p : Nat → Int → Int, X S → bx_same rxL (bx_mdl rxCBX.2.2.1) S S_p → X S_p)
    (ih : ∀ (j2 : Nat) (ct2 : bx_Ct) (M2 : rx_Mt), ct2 ∈ rxCnE j2 → ct2.2.2.2.1 + 1 ≤ rxCBX.2.2.2.1 → rxT.2.2.2.2.2 j2 = some M2 → bx_Con rxG rxNW rxAO PX Dg rxL X vwCl A ad l M2 ct2) (hQBG : bx_ConP rxG rxNW rxAO PX Dg rxL X vwCl A ad l rxM281 rxCBG rxPBG rxPSBG) : bx_ConP rxG rxNW rxAO PX Dg rxL X vwCl A ad l rxM283 rxCBX rxPBX rxPSBX :=
  rxQof (xa := xa) (Cn := rxCnE) (f := 30000) (j := 283) (tab := rxYBX) (us := rxUBX) hPX hsl hX ih rfl rxYcBX rxIBX rxmBX
    (fun S0 ws r I0 I ht0 ht as he he1 hX0 hI0 hP hs ha => by
      have e := he.symm.trans (show bx_ent0 rxNP rxCBX.1 bx_I0 [] = some ([(0, 0), (0, 0), (0, 0), (0, 0), (0, 0), (0, 0), (0, 0), (0, 0), (0, 1)], [], [.inr (3, (0, 480)), .inr (0, (8, 0))]) from rfl)
      cases e
      subst ha
      have h0 : r 0 = 0 := hs.1
      show rxIBX_0 S0 _ S0 (r 8)
      refine ⟨rfl, ?_⟩
      simp only [List.map_cons, List.map_nil, bx_xv_ok h0]
      rfl)
    (fun S0 ws hP => rxuBX (xa := xa) hPX hX hQBG hP) (fun S0 ws hP => rxgCBX hP) (fun S0 ws hP => rxgEBX hP)
