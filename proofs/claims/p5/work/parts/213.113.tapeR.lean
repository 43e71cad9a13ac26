/-! CONTRACT BY HAND, by program (wip/sim/genhand.py): DeadUnderstudiesModel.endText -/
def rxCET2 : bx_Ct := ([(3, (1, 480, 0))], none, [(12, 8), (12, 9), (12, 10), (12, 11), (12, 12), (12, 13), (12, 14), (12, 15)], 4, [])
def rxIET2_0 (S0 : Nat → Int → Int) (ws : List Int) (S : Nat → Int → Int) : Prop := rxIET_0 S0 ws S ∧ True
def rxmET2_0 (S0 : Nat → Int → Int) (ws : List Int) (S : Nat → Int → Int) : Nat := rxmET_0 S0 ws S
def rxzET2_0 : rx_Z := ([(0, 0), (0, 0), (0, 0), (0, 0), (0, 0), (0, 0), (0, 0), (0, 0)], [], [], 0, 0, 0, [(0, .inr (3, (0, 480)))], [])
def rxIET2_1 (S0 : Nat → Int → Int) (ws : List Int) (S : Nat → Int → Int) : Prop := rxIET_1 S0 ws S ∧ True
def rxmET2_1 (S0 : Nat → Int → Int) (ws : List Int) (S : Nat → Int → Int) : Nat := rxmET_1 S0 ws S
def rxzET2_1 : rx_Z := ([(0, 0), (0, 0), (0, 0), (0, 0), (0, 0), (0, 0), (0, 0), (0, 0)], [], [], 0, 0, 16, [(0, .inr (3, (0, 480)))], [.inr (0, (0, 0)), .inr (3, (0, 480))])
def rxIET2_2 (S0 : Nat → Int → Int) (ws : List Int) (S : Nat → Int → Int) : Prop := rxIET_2 S0 ws S ∧ True
def rxmET2_2 (S0 : Nat → Int → Int) (ws : List Int) (S : Nat → Int → Int) : Nat := rxmET_2 S0 ws S
def rxzET2_2 : rx_Z := ([(0, 0), (0, 0), (0, 0), (0, 0), (0, 0), (0, 0), (0, 0), (0, 0)], [], [], 0, 0, 19, [(0, .inr (3, (0, 480)))], [])
def rxoET2_0_0 : bx_HO := (([(0, 0), (0, 0), (0, 0), (0, 0), (0, 0), (0, 0), (0, 0), (0, 0), (0, 0), (1, 3)], [(3, (9, 0), (0, 0))], [(((0, 0), 1851192626986356799632114105031551009123054124018230966928539648000000), .inr (0, (9, 0))), (((0, 480), 11), .inr (0, (9, 0))), (((0, 0), 1851192626986356800234234225391877833944518517379736727590010880000000), .inr (0, (8, 0))), (((0, 480), 14), .inr (0, (8, 0)))], 0, 0, 16, [(0, .inr (3, (0, 480)))], [.inr (0, (0, 0)), .inr (3, (0, 480))]), [], [], [(0, 0), (0, 0), (0, 0), (0, 0), (0, 0), (0, 0), (0, 0), (0, 0)], 1)
def rxeET2_0_0 : rx_End × List (Nat × Int × Int) := (([(0, 0), (0, 0), (0, 0), (0, 0), (0, 0), (0, 0), (0, 0), (0, 0), (0, 0), (0, 0)], [], [(((0, 0), 1851192626986356799029993984671224184301589730656725206267068419000000), .inr (0, (0, 0))), (((0, 480), 8), .inr (0, (0, 0))), (((0, 0), 1851192626986356800434940932178653442218339981833571981143834627000000), .inr (0, (0, 0))), (((0, 480), 15), .inr (0, (0, 0))), (((0, 0), 1851192626986356799632114105031551009123054124018230966928539648000000), .inr (0, (9, 0))), (((0, 480), 11), .inr (0, (9, 0))), (((0, 0), 1851192626986356800234234225391877833944518517379736727590010880000000), .inr (0, (8, 0))), (((0, 480), 14), .inr (0, (8, 0)))], none), [])
def rxeET2_0_1 : rx_End × List (Nat × Int × Int) := (([(0, 0), (0, 0), (0, 0), (0, 0), (0, 0), (0, 0), (0, 0), (0, 0), (1, 1)], [(3, (8, 0), (0, 0))], [(((0, 0), 1851192626986356799029993984671224184301589730656725206267068419000000), .inr (0, (0, 0))), (((0, 480), 8), .inr (0, (0, 0))), (((0, 0), 1851192626986356800434940932178653442218339981833571981143834627000000), .inr (0, (0, 0))), (((0, 480), 15), .inr (0, (0, 0))), (((0, 0), 1851192626986356800234234225391877833944518517379736727590010880000000), .inr (0, (8, 0))), (((0, 480), 14), .inr (0, (8, 0)))], none), [])
def rxeET2_2_0 : rx_End × List (Nat × Int × Int) := (([(0, 0), (0, 0), (0, 0), (0, 0), (0, 0), (0, 0), (0, 0), (0, 0)], [], [(((0, 0), 1851192626986356799029993984671224184301589730656725206267068419000000), .inr (0, (0, 0))), (((0, 480), 8), .inr (0, (0, 0))), (((0, 0), 1851192626986356800434940932178653442218339981833571981143834627000000), .inr (0, (0, 0))), (((0, 480), 15), .inr (0, (0, 0)))], none), [])
def rxYET2 : List bx_HE := [(rxzET2_0, [rxoET2_0_0], [rxeET2_0_0, rxeET2_0_1]), (rxzET2_1, [], []), (rxzET2_2, [], [rxeET2_2_0])]
def rxUET2 (q : bx_HE) : Bool := Nat.beq (rx_zpc q.1) 16
def rxYBET2 : bx_B := (rxV, rxNP, rxDmf, bx_mdH rxCET2.2.2.1)
set_option maxRecDepth 100000 in
theorem rxYcET2 : bx_chkH rxYBET2 rxM285 rxCET2 rxYET2 (rxUET2, fun cut z => rx_ex2 (rxCT rxYBET2 rxCnE) cut 30000 rxCET2.2.2.2.1 285 z) = true := by decide +kernel
def rxIET2 (S0 : Nat → Int → Int) (ws : List Int) (i : Nat) : bx_SP := fun S r => match i with | 0 => rxIET2_0 S0 ws S | 1 => rxIET2_1 S0 ws S | 2 => rxIET2_2 S0 ws S | _ => False
def rxmET2 (S0 : Nat → Int → Int) (ws : List Int) (i : Nat) (S : Nat → Int → Int) (r : Nat → Int) : Nat := match i with | 0 => rxmET2_0 S0 ws S | 1 => rxmET2_1 S0 ws S | 2 => rxmET2_2 S0 ws S | _ => 0
def rxPET2 (S0 : Nat → Int → Int) (ws : List Int) : Prop := rxPET S0 ws
def rxPSET2 (S0 : Nat → Int → Int) (ws : List Int) (S : Nat → Int → Int) (w : Option Int) : Prop := w = none ∧ rxPSET S0 ws S w ∧ (S 480 8 = 0)
theorem rxkET2_1 {S0 : Nat → Int → Int} {ws : List Int} {S : Nat → Int → Int} (hP : rxPET2 S0 ws) (hin : bx_same rxL (bx_mdl rxCET2.2.2.1) S0 S) (I0 : bx_Inv rxL S) (hinv : rxIET2_1 S0 ws S)  : rxPMU S [480, 0] ∧ ∀ (S_p : Nat → Int → Int), rxPSMU S [480, 0] S_p none → bx_Inv rxL S_p → bx_same rxL (bx_mdl rxCMU.2.2.1) S S_p → rxIET2_2 S0 ws S_p ∧ rxmET2_2 S0 ws S_p < rxmET2_1 S0 ws S := by
  obtain ⟨hI, hx⟩ := hinv
  have g_ := rxkET_1 hP hin I0 hI
  exact ⟨g_.1, fun S_p hq I1 hsm => ⟨⟨(g_.2 S_p hq I1 hsm).1, trivial⟩, (g_.2 S_p hq I1 hsm).2⟩⟩
theorem rxsET2_1 {X : (Nat → Int → Int) → Prop} {S0 : Nat → Int → Int} {ws : List Int} (hP : rxPET2 S0 ws) : rx_obK X S0 rxCET2.2.2.1 rxCMU.2.2.1 (rxIET2 S0 ws) (rxmET2 S0 ws) 1 2 rxzET2_1 rxzET2_2 [.inr (3, (0, 480)), .inr (0, (0, 0))] none rxPMU rxPSMU := by
  intro S r hinv hXS I0 hin hs_ hf_
  have b_ := bx_bds_sat hs_
  have f_ := bx_fcl_ok hs_.1 hf_
  have g := rxkET2_1 hP hin I0 hinv 
  have ea : List.map (bx_num r) [.inr (3, (0, 480)), .inr (0, (0, 0))] = [480, 0] := by
    simp only [List.map_cons, List.map_nil, bx_xv_ok hs_.1]
    rfl
  rw [ea]
  refine ⟨g.1, fun S_p w r_p hPS hX_p I1 hsm hr hw hs_p => ?_⟩
  have hw : w = none := hPS.1
  subst hw
  have g2 := g.2 S_p hPS I1 hsm
  show rxIET2_2 S0 ws S_p ∧ rxmET2_2 S0 ws S_p < _
  exact g2
theorem rxcET2_0_0 {S0 : Nat → Int → Int} {ws : List Int} {S : Nat → Int → Int} {x8 x9 : Int} (hP : rxPET2 S0 ws) (hin : bx_same rxL (bx_mdl rxCET2.2.2.1) S0 S) (I0 : bx_Inv rxL S) (hinv : rxIET2_0 S0 ws S) (l8 : 0 ≤ x8) (u8 : x8 ≤ 0) (l9 : 1 ≤ x9) (u9 : x9 ≤ 3) (f0 : x9 ≠ 0) (e1 : S 480 14 = x8) (e0 : S 480 11 = x9) : (True) ∧ (True) ∧ rxIET2_1 S0 ws S ∧ rxmET2_1 S0 ws S < rxmET2_0 S0 ws S := by
  obtain ⟨hI, hx⟩ := hinv
  obtain ⟨a_, b_, c_, d_⟩ := rxcET_0_0 hP hin I0 hI l8 u8 l9 u9 f0 e1 e0
  exact ⟨a_, b_, ⟨c_, trivial⟩, d_⟩
theorem rxgET2_0_0 {X : (Nat → Int → Int) → Prop} {S0 : Nat → Int → Int} {ws : List Int} (hP : rxPET2 S0 ws) : bx_obC rxL X S0 rxCET2.2.2.1 (rxIET2 S0 ws) (rxmET2 S0 ws) 0 rxzET2_0 rxoET2_0_0 := by
  intro S S_p r r_p hinv hX hin hsm_ hseg
  obtain ⟨I0, I1, h0_, hr_, b_, f_, d_⟩ := bx_cl (evs := [(0, (0, 480), (0, 11), .inr (0, (9, 0))), (0, (0, 480), (0, 14), .inr (0, (8, 0)))]) (fvs := [(3, (9, 0), (0, 0), (0, 0))]) hseg (by decide +kernel) (by decide +kernel)
  have hinv : rxIET2_0 S0 ws S := hinv
  obtain ⟨⟨l8, u8⟩, ⟨l9, u9⟩, -⟩ := b_
  obtain ⟨f0, -⟩ := f_
  obtain ⟨e0, ⟨e1, w_⟩⟩ := d_
  subst w_
  have g := rxcET2_0_0 hP hin I0 hinv l8 u8 l9 u9 f0 e1 e0
  refine ⟨bx_narP_ok (l := []) g.1, bx_nfP_ok h0_ (fvs := []) (by decide +kernel) g.2.1, ?_, ?_⟩
  · show rxIET2_1 S0 ws S_p
    exact g.2.2.1
  · show rxmET2_1 S0 ws S_p < rxmET2_0 S0 ws S_p
    exact g.2.2.2
theorem rxdET2_0_0 {S0 : Nat → Int → Int} {ws : List Int} {S : Nat → Int → Int} {x8 x9 : Int} (hP : rxPET2 S0 ws) (hin : bx_same rxL (bx_mdl rxCET2.2.2.1) S0 S) (hin2 : bx_same rxL (bx_mdl rxCET2.2.2.1) S (bx_up (bx_up S 480 15 0) 480 8 0)) (I0 : bx_Inv rxL S) (I1 : bx_Inv rxL (bx_up (bx_up S 480 15 0) 480 8 0)) (hinv : rxIET2_0 S0 ws S) (l8 : 0 ≤ x8) (u8 : x8 ≤ 0) (l9 : 0 ≤ x9) (u9 : x9 ≤ 0) (e3 : S 480 14 = x8) (e2 : S 480 11 = x9) : (True) ∧ rxPSET2 S0 ws (bx_up (bx_up S 480 15 0) 480 8 0) none := by
  obtain ⟨hI, hx⟩ := hinv
  obtain ⟨a_, c_⟩ := rxdET_0_0 hP hin hin2 I0 I1 hI l8 u8 l9 u9 e3 e2
  exact ⟨a_, rfl, c_, bx_up_at⟩
theorem rxfET2_0_0 {X : (Nat → Int → Int) → Prop} {S0 : Nat → Int → Int} {ws : List Int} (hP : rxPET2 S0 ws) : bx_obE rxL X S0 rxCET2.2.2.1 (rxIET2 S0 ws) (rxPSET2 S0 ws) 0 rxzET2_0 rxeET2_0_0 := by
  intro S S_p r r_p hinv hX hin hsm_ hseg
  obtain ⟨I0, I1, h0_, hr_, b_, f_, d_⟩ := bx_cl (evs := [(1, (0, 480), (0, 8), .inr (0, (0, 0))), (1, (0, 480), (0, 15), .inr (0, (0, 0))), (0, (0, 480), (0, 11), .inr (0, (9, 0))), (0, (0, 480), (0, 14), .inr (0, (8, 0)))]) (fvs := []) hseg (by decide +kernel) (by decide +kernel)
  have hinv : rxIET2_0 S0 ws S := hinv
  obtain ⟨⟨l8, u8⟩, ⟨l9, u9⟩, -⟩ := b_
  obtain ⟨T0, ⟨T1, ⟨e2, ⟨e3, w_⟩⟩, w1⟩, w0⟩ := d_
  subst w0
  subst w1
  subst w_
  have g := rxdET2_0_0 hP hin hsm_ I0 I1 hinv l8 u8 l9 u9 e3 e2
  refine ⟨bx_narP_ok (l := []) g.1, ?_⟩
  exact g.2
theorem rxdET2_0_1 {S0 : Nat → Int → Int} {ws : List Int} {S : Nat → Int → Int} {x8 : Int} (hP : rxPET2 S0 ws) (hin : bx_same rxL (bx_mdl rxCET2.2.2.1) S0 S) (hin2 : bx_same rxL (bx_mdl rxCET2.2.2.1) S (bx_up (bx_up S 480 15 0) 480 8 0)) (I0 : bx_Inv rxL S) (I1 : bx_Inv rxL (bx_up (bx_up S 480 15 0) 480 8 0)) (hinv : rxIET2_0 S0 ws S) (l8 : 1 ≤ x8) (u8 : x8 ≤ 1) (f0 : x8 ≠ 0) (e2 : S 480 14 = x8) : (True) ∧ rxPSET2 S0 ws (bx_up (bx_up S 480 15 0) 480 8 0) none := by
  obtain ⟨hI, hx⟩ := hinv
  obtain ⟨a_, c_⟩ := rxdET_0_1 hP hin hin2 I0 I1 hI l8 u8 f0 e2
  exact ⟨a_, rfl, c_, bx_up_at⟩
theorem rxfET2_0_1 {X : (Nat → Int → Int) → Prop} {S0 : Nat → Int → Int} {ws : List Int} (hP : rxPET2 S0 ws) : bx_obE rxL X S0 rxCET2.2.2.1 (rxIET2 S0 ws) (rxPSET2 S0 ws) 0 rxzET2_0 rxeET2_0_1 := by
  intro S S_p r r_p hinv hX hin hsm_ hseg
  obtain ⟨I0, I1, h0_, hr_, b_, f_, d_⟩ := bx_cl (evs := [(1, (0, 480), (0, 8), .inr (0, (0, 0))), (1, (0, 480), (0, 15), .inr (0, (0, 0))), (0, (0, 480), (0, 14), .inr (0, (8, 0)))]) (fvs := [(3, (8, 0), (0, 0), (0, 0))]) hseg (by decide +kernel) (by decide +kernel)
  have hinv : rxIET2_0 S0 ws S := hinv
  obtain ⟨⟨l8, u8⟩, -⟩ := b_
  obtain ⟨f0, -⟩ := f_
  obtain ⟨T0, ⟨T1, ⟨e2, w_⟩, w1⟩, w0⟩ := d_
  subst w0
  subst w1
  subst w_
  have g := rxdET2_0_1 hP hin hsm_ I0 I1 hinv l8 u8 f0 e2
  refine ⟨bx_narP_ok (l := []) g.1, ?_⟩
  exact g.2
theorem rxdET2_2_0 {S0 : Nat → Int → Int} {ws : List Int} {S : Nat → Int → Int} (hP : rxPET2 S0 ws) (hin : bx_same rxL (bx_mdl rxCET2.2.2.1) S0 S) (hin2 : bx_same rxL (bx_mdl rxCET2.2.2.1) S (bx_up (bx_up S 480 15 0) 480 8 0)) (I0 : bx_Inv rxL S) (I1 : bx_Inv rxL (bx_up (bx_up S 480 15 0) 480 8 0)) (hinv : rxIET2_2 S0 ws S)  : (True) ∧ rxPSET2 S0 ws (bx_up (bx_up S 480 15 0) 480 8 0) none := by
  obtain ⟨hI, hx⟩ := hinv
  obtain ⟨a_, c_⟩ := rxdET_2_0 hP hin hin2 I0 I1 hI
  exact ⟨a_, rfl, c_, bx_up_at⟩
theorem rxfET2_2_0 {X : (Nat → Int → Int) → Prop} {S0 : Nat → Int → Int} {ws : List Int} (hP : rxPET2 S0 ws) : bx_obE rxL X S0 rxCET2.2.2.1 (rxIET2 S0 ws) (rxPSET2 S0 ws) 2 rxzET2_2 rxeET2_2_0 := by
  intro S S_p r r_p hinv hX hin hsm_ hseg
  obtain ⟨I0, I1, h0_, hr_, b_, f_, d_⟩ := bx_cl (evs := [(1, (0, 480), (0, 8), .inr (0, (0, 0))), (1, (0, 480), (0, 15), .inr (0, (0, 0)))]) (fvs := []) hseg (by decide +kernel) (by decide +kernel)
  have hinv : rxIET2_2 S0 ws S := hinv
  obtain ⟨T0, ⟨T1, w_, w1⟩, w0⟩ := d_
  subst w0
  subst w1
  subst w_
  have g := rxdET2_2_0 hP hin hsm_ I0 I1 hinv 
  refine ⟨bx_narP_ok (l := []) g.1, ?_⟩
  exact g.2
theorem rxgCET2 {X : (Nat → Int → Int) → Prop} {S0 : Nat → Int → Int} {ws : List Int} (hP : rxPET2 S0 ws) : bx_allI (fun i q => rxUET2 q = true ∨ bx_allP (fun o => bx_obC rxL X S0 rxCET2.2.2.1 (rxIET2 S0 ws) (rxmET2 S0 ws) i q.1 o) q.2.1) 0 rxYET2 := ⟨Or.inr ⟨rxgET2_0_0 hP, trivial⟩, Or.inl rfl, Or.inr trivial, trivial⟩
theorem rxgEET2 {X : (Nat → Int → Int) → Prop} {S0 : Nat → Int → Int} {ws : List Int} (hP : rxPET2 S0 ws) : bx_allI (fun i q => rxUET2 q = true ∨ bx_allP (fun E => bx_obE rxL X S0 rxCET2.2.2.1 (rxIET2 S0 ws) (rxPSET2 S0 ws) i q.1 E) q.2.2) 0 rxYET2 := ⟨Or.inr ⟨rxfET2_0_0 hP, rxfET2_0_1 hP, trivial⟩, Or.inl rfl, Or.inr ⟨rxfET2_2_0 hP, trivial⟩, trivial⟩
theorem rxuET2 {PX : State → Prop} {Dg : va_G} {A : Nat → Prop} {ad xa : Nat → Nat} {l : Launch} {X : (Nat → Int → Int) → Prop} (hPX : rx_PXOK rxNW A PX) (hX : ∀ S S1 : Nat → Int → Int, X S → bx_same rxL (bx_mdl rxCET2.2.2.1) S S1 → X S1) (hQMU : bx_ConP rxG rxNW rxAO PX Dg rxL X vwCl A ad l rxM265 rxCMU rxPMU rxPSMU) {S0 : Nat → Int → Int} {ws : List Int} (hP : rxPET2 S0 ws) : ∀ (i : Nat) (q : bx_HE), rxYET2[i]? = some q → rxUET2 q = true → ∀ {p : Program} {e : Env} {R : Room} {s : State} {m : MethodId} {args : Array Value} {below : List Frame} {meth : Method} {c : Code} {Q : State → Prop} {H0 : Heap}, rx_Fr rxG rxNW rxAO PX p s m args meth c rxM285 → (∀ q, H0.size ≤ q → A q) → H0 = s.heap → rxM285.2.2.2.2.2.2.1 ≤ R.cells → rxM285.2.2.2.2.2.2.2 ≤ R.slots → rxCET2.2.2.2.1 ≤ R.frames → rxCET2.2.2.2.1 * 40 ≤ R.locals → bx_Step p l e R s m args below meth c Q Dg rxL X vwCl A xa H0 ad rxM285 rxYET2 (rxIET2 S0 ws) (rxmET2 S0 ws) S0 rxCET2.2.2.1 i q := by
  intro i q hq hus p e R s m args below meth c Q H0 hF hA hH0 hmc hms hd hdl
  match i, hq with
  | 0, hq =>
    cases hq
    exact absurd (show false = true from hus) Bool.false_ne_true
  | 1, hq =>
    cases hq
    exact rx_stepC (ins := .invokevirtual 284) (len := 3) (i_p := 2) (M_p := rxM265) (d := rxCET2.2.2.2.1) (as := [.inr (3, (0, 480)), .inr (0, (0, 0))]) (t := []) (ct := rxCMU) hPX hF rfl hA hH0 hmc hms hd hdl (by decide +kernel) rfl rfl (by decide +kernel) (by decide +kernel) hQMU (by decide +kernel) rfl (Or.inl ⟨rfl, rfl, rfl⟩) (rxsET2_1 hP)
  | 2, hq =>
    cases hq
    exact absurd (show false = true from hus) Bool.false_ne_true
  | n + 3, hq => cases hq
theorem rxQET2 {PX : State → Prop} {Dg : va_G} {A : Nat → Prop} {ad xa : Nat → Nat} {l : Launch} {X : (Nat → Int → Int) → Prop} (hPX : rx_PXOK rxNW A PX) (hsl : ∀ s : State, PX s → ∀ o idx n : Nat, rxSl o idx = some n → ∃ tx : String, vk_R (rxNm o) idx tx (ad n) s)
    (hX : ∀ S S_p : Nat → Int → Int, X S → bx_same rxL (bx_mdl rxCET2.2.2.1) S S_p → X S_p)
    (ih : ∀ (j2 : Nat) (ct2 : bx_Ct) (M2 : rx_Mt), ct2 ∈ rxCnE j2 → ct2.2.2.2.1 + 1 ≤ rxCET2.2.2.2.1 → rxT.2.2.2.2.2 j2 = some M2 → bx_Con rxG rxNW rxAO PX Dg rxL X vwCl A ad l M2 ct2) (hQMU : bx_ConP rxG rxNW rxAO PX Dg rxL X vwCl A ad l rxM265 rxCMU rxPMU rxPSMU) : bx_ConP rxG rxNW rxAO PX Dg rxL X vwCl A ad l rxM285 rxCET2 rxPET2 rxPSET2 :=
  rxQof (xa := xa) (Cn := rxCnE) (f := 30000) (j := 285) (tab := rxYET2) (us := rxUET2) hPX hsl hX ih rfl rxYcET2 rxIET2 rxmET2
    (fun S0 ws r I0 I ht0 ht as he he1 hX0 hI0 hP hs ha => by
      have e := he.symm.trans (show bx_ent0 rxNP rxCET2.1 bx_I0 [] = some ([(0, 0), (0, 0), (0, 0), (0, 0), (0, 0), (0, 0), (0, 0), (0, 0)], [], [.inr (3, (0, 480))]) from rfl)
      cases e
      subst ha
      have h0 : r 0 = 0 := hs.1
      show rxIET2_0 S0 _ S0
      refine ⟨⟨rfl, ?_⟩, trivial⟩
      simp only [List.map_cons, List.map_nil, bx_xv_ok h0]
      rfl)
    (fun S0 ws hP => rxuET2 (xa := xa) hPX hX hQMU hP) (fun S0 ws hP => rxgCET2 hP) (fun S0 ws hP => rxgEET2 hP)
/-! CONTRACT BY HAND, by program (wip/sim/genhand.py): DeadUnderstudiesModel.law -/
def rxILW2_0 (S0 : Nat → Int → Int) (ws : List Int) (S : Nat → Int → Int) : Prop := rxI242_0 S0 ws S ∧ True
def rxmLW2_0 (S0 : Nat → Int → Int) (ws : List Int) (S : Nat → Int → Int) : Nat := rxm242_0 S0 ws S
def rxzLW2_0 : rx_Z := ([(0, 0), (0, 0), (0, 0), (0, 0), (0, 0), (0, 0), (0, 0), (0, 0)], [], [], 0, 0, 0, [(0, .inr (3, (0, 480)))], [])
def rxILW2_1 (S0 : Nat → Int → Int) (ws : List Int) (S : Nat → Int → Int) : Prop := rxI242_1 S0 ws S ∧ True
def rxmLW2_1 (S0 : Nat → Int → Int) (ws : List Int) (S : Nat → Int → Int) : Nat := rxm242_1 S0 ws S
def rxzLW2_1 : rx_Z := ([(0, 0), (0, 0), (0, 0), (0, 0), (0, 0), (0, 0), (0, 0), (0, 0)], [], [], 0, 0, 30, [(0, .inr (3, (0, 480)))], [.inr (0, (0, 0)), .inr (3, (0, 480))])
def rxILW2_2 (S0 : Nat → Int → Int) (ws : List Int) (S : Nat → Int → Int) : Prop := rxI242_2 S0 ws S ∧ True
def rxmLW2_2 (S0 : Nat → Int → Int) (ws : List Int) (S : Nat → Int → Int) : Nat := rxm242_2 S0 ws S
def rxzLW2_2 : rx_Z := ([(0, 0), (0, 0), (0, 0), (0, 0), (0, 0), (0, 0), (0, 0), (0, 0)], [], [], 0, 0, 33, [(0, .inr (3, (0, 480)))], [])
def rxILW2_3 (S0 : Nat → Int → Int) (ws : List Int) (S : Nat → Int → Int) : Prop := rxI242_3 S0 ws S ∧ True
def rxmLW2_3 (S0 : Nat → Int → Int) (ws : List Int) (S : Nat → Int → Int) : Nat := rxm242_3 S0 ws S
def rxzLW2_3 : rx_Z := ([(0, 0), (0, 0), (0, 0), (0, 0), (0, 0), (0, 0), (0, 0), (0, 0)], [], [], 0, 0, 34, [(0, .inr (3, (0, 480)))], [.inr (3, (0, 480))])
def rxILW2_4 (S0 : Nat → Int → Int) (ws : List Int) (S : Nat → Int → Int) : Prop := rxI242_4 S0 ws S ∧ True
def rxmLW2_4 (S0 : Nat → Int → Int) (ws : List Int) (S : Nat → Int → Int) : Nat := rxm242_4 S0 ws S
def rxzLW2_4 : rx_Z := ([(0, 0), (0, 0), (0, 0), (0, 0), (0, 0), (0, 0), (0, 0), (0, 0)], [], [], 0, 0, 37, [(0, .inr (3, (0, 480)))], [])
def rxILW2_5 (S0 : Nat → Int → Int) (ws : List Int) (S : Nat → Int → Int) : Prop := rxI242_5 S0 ws S ∧ True
def rxmLW2_5 (S0 : Nat → Int → Int) (ws : List Int) (S : Nat → Int → Int) : Nat := rxm242_5 S0 ws S
def rxzLW2_5 : rx_Z := ([(0, 0), (0, 0), (0, 0), (0, 0), (0, 0), (0, 0), (0, 0), (0, 0)], [], [], 0, 0, 37, [(0, .inr (3, (0, 480)))], [])
def rxILW2_6 (S0 : Nat → Int → Int) (ws : List Int) (S : Nat → Int → Int) : Prop := rxI242_6 S0 ws S ∧ True
def rxmLW2_6 (S0 : Nat → Int → Int) (ws : List Int) (S : Nat → Int → Int) : Nat := rxm242_6 S0 ws S
def rxzLW2_6 : rx_Z := ([(0, 0), (0, 0), (0, 0), (0, 0), (0, 0), (0, 0), (0, 0), (0, 0)], [], [], 0, 0, 54, [(0, .inr (3, (0, 480)))], [.inr (3, (0, 480))])
def rxILW2_7 (S0 : Nat → Int → Int) (ws : List Int) (S : Nat → Int → Int) : Prop := rxI242_7 S0 ws S ∧ True
def rxmLW2_7 (S0 : Nat → Int → Int) (ws : List Int) (S : Nat → Int → Int) : Nat := rxm242_7 S0 ws S
def rxzLW2_7 : rx_Z := ([(0, 0), (0, 0), (0, 0), (0, 0), (0, 0), (0, 0), (0, 0), (0, 0)], [], [], 0, 0, 57, [(0, .inr (3, (0, 480)))], [])
def rxILW2_8 (S0 : Nat → Int → Int) (ws : List Int) (S : Nat → Int → Int) : Prop := rxI242_8 S0 ws S ∧ True
def rxmLW2_8 (S0 : Nat → Int → Int) (ws : List Int) (S : Nat → Int → Int) : Nat := rxm242_8 S0 ws S
def rxzLW2_8 : rx_Z := ([(0, 0), (0, 0), (0, 0), (0, 0), (0, 0), (0, 0), (0, 0), (0, 0)], [], [], 0, 0, 58, [(0, .inr (3, (0, 480)))], [.inr (3, (0, 480))])
def rxILW2_9 (S0 : Nat → Int → Int) (ws : List Int) (S : Nat → Int → Int) : Prop := rxI242_9 S0 ws S ∧ True
def rxmLW2_9 (S0 : Nat → Int → Int) (ws : List Int) (S : Nat → Int → Int) : Nat := rxm242_9 S0 ws S
def rxzLW2_9 : rx_Z := ([(0, 0), (0, 0), (0, 0), (0, 0), (0, 0), (0, 0), (0, 0), (0, 0)], [], [], 0, 0, 61, [(0, .inr (3, (0, 480)))], [])
def rxILW2_10 (S0 : Nat → Int → Int) (ws : List Int) (S : Nat → Int → Int) : Prop := rxI242_10 S0 ws S ∧ True
def rxmLW2_10 (S0 : Nat → Int → Int) (ws : List Int) (S : Nat → Int → Int) : Nat := rxm242_10 S0 ws S
def rxzLW2_10 : rx_Z := ([(0, 0), (0, 0), (0, 0), (0, 0), (0, 0), (0, 0), (0, 0), (0, 0)], [], [], 0, 0, 65, [(0, .inr (3, (0, 480)))], [.inr (3, (0, 480))])
def rxILW2_11 (S0 : Nat → Int → Int) (ws : List Int) (S : Nat → Int → Int) : Prop := rxI242_11 S0 ws S ∧ S 480 8 = 0
def rxmLW2_11 (S0 : Nat → Int → Int) (ws : List Int) (S : Nat → Int → Int) : Nat := rxm242_11 S0 ws S
def rxzLW2_11 : rx_Z := ([(0, 0), (0, 0), (0, 0), (0, 0), (0, 0), (0, 0), (0, 0), (0, 0)], [], [], 0, 0, 68, [(0, .inr (3, (0, 480)))], [])
def rxILW2_12 (S0 : Nat → Int → Int) (ws : List Int) (S : Nat → Int → Int) (n3 : Int) : Prop := rxI242_12 S0 ws S n3 ∧ S 480 8 = 0
def rxmLW2_12 (S0 : Nat → Int → Int) (ws : List Int) (S : Nat → Int → Int) (n3 : Int) : Nat := rxm242_12 S0 ws S n3
def rxzLW2_12 : rx_Z := ([(0, 0), (0, 0), (0, 0), (0, 0), (0, 0), (0, 0), (0, 0), (0, 0), (0, 5)], [], [], 0, 0, 94, [(0, .inr (3, (0, 480)))], [.inr (0, (8, 0)), .inr (0, (0, 900)), .inr (0, (0, 780))])
def rxILW2_13 (S0 : Nat → Int → Int) (ws : List Int) (S : Nat → Int → Int) (base a v : Int) : Prop := rxI242_13 S0 ws S base a v ∧ S 480 8 = 0
def rxmLW2_13 (S0 : Nat → Int → Int) (ws : List Int) (S : Nat → Int → Int) (base a v : Int) : Nat := rxm242_13 S0 ws S base a v
def rxzLW2_13 : rx_Z := ([(0, 0), (0, 0), (0, 0), (0, 0), (0, 0), (0, 0), (0, 0), (0, 0), (780, 5280), (781, 5281), (0, 12)], [], [], 0, 0, 108, [(0, .inr (3, (0, 480))), (1, .inr (0, (8, 0)))], [.inr (0, (10, 0)), .inr (0, (9, 0)), .inr (3, (0, 482))])
def rxILW2_14 (S0 : Nat → Int → Int) (ws : List Int) (S : Nat → Int → Int) (base a v : Int) : Prop := rxI242_14 S0 ws S base a v ∧ S 480 8 = 0
def rxmLW2_14 (S0 : Nat → Int → Int) (ws : List Int) (S : Nat → Int → Int) (base a v : Int) : Nat := rxm242_14 S0 ws S base a v
def rxzLW2_14 : rx_Z := ([(0, 0), (0, 0), (0, 0), (0, 0), (0, 0), (0, 0), (0, 0), (0, 0), (780, 5280), (781, 5281), (0, 12)], [], [], 0, 0, 109, [(0, .inr (3, (0, 480))), (1, .inr (0, (8, 0)))], [])
def rxILW2_15 (S0 : Nat → Int → Int) (ws : List Int) (S : Nat → Int → Int) (base i : Int) : Prop := rxI242_15 S0 ws S base i ∧ S 480 8 = 0
def rxmLW2_15 (S0 : Nat → Int → Int) (ws : List Int) (S : Nat → Int → Int) (base i : Int) : Nat := rxm242_15 S0 ws S base i
def rxzLW2_15 : rx_Z := ([(0, 0), (0, 0), (0, 0), (0, 0), (0, 0), (0, 0), (0, 0), (0, 0), (780, 5280), (0, 96)], [], [], 0, 0, 111, [(0, .inr (3, (0, 480))), (1, .inr (0, (8, 0))), (2, .inr (0, (9, 0)))], [])
def rxILW2_16 (S0 : Nat → Int → Int) (ws : List Int) (S : Nat → Int → Int) (base i a v : Int) : Prop := rxI242_16 S0 ws S base i a v ∧ S 480 8 = 0
def rxmLW2_16 (S0 : Nat → Int → Int) (ws : List Int) (S : Nat → Int → Int) (base i a v : Int) : Nat := rxm242_16 S0 ws S base i a v
def rxzLW2_16 : rx_Z := ([(0, 0), (0, 0), (0, 0), (0, 0), (0, 0), (0, 0), (0, 0), (0, 0), (780, 5280), (0, 95), (782, 5377), (0, 400)], [], [], 0, 0, 137, [(0, .inr (3, (0, 480))), (1, .inr (0, (8, 0))), (2, .inr (0, (9, 0)))], [.inr (0, (11, 0)), .inr (0, (10, 0)), .inr (3, (0, 482))])
def rxILW2_17 (S0 : Nat → Int → Int) (ws : List Int) (S : Nat → Int → Int) (base i a v : Int) : Prop := rxI242_17 S0 ws S base i a v ∧ S 480 8 = 0
def rxmLW2_17 (S0 : Nat → Int → Int) (ws : List Int) (S : Nat → Int → Int) (base i a v : Int) : Nat := rxm242_17 S0 ws S base i a v
def rxzLW2_17 : rx_Z := ([(0, 0), (0, 0), (0, 0), (0, 0), (0, 0), (0, 0), (0, 0), (0, 0), (780, 5280), (0, 95), (782, 5377), (0, 400)], [], [], 0, 0, 138, [(0, .inr (3, (0, 480))), (1, .inr (0, (8, 0))), (2, .inr (0, (9, 0)))], [])
def rxILW2_18 (S0 : Nat → Int → Int) (ws : List Int) (S : Nat → Int → Int) (base i : Int) : Prop := rxI242_18 S0 ws S base i ∧ S 480 8 = 0
def rxmLW2_18 (S0 : Nat → Int → Int) (ws : List Int) (S : Nat → Int → Int) (base i : Int) : Nat := rxm242_18 S0 ws S base i
def rxzLW2_18 : rx_Z := ([(0, 0), (0, 0), (0, 0), (0, 0), (0, 0), (0, 0), (0, 0), (0, 0), (780, 5280), (0, 400)], [], [], 0, 0, 146, [(0, .inr (3, (0, 480))), (1, .inr (0, (8, 0))), (2, .inr (0, (9, 0)))], [])
def rxILW2_19 (S0 : Nat → Int → Int) (ws : List Int) (S : Nat → Int → Int) (base i a v : Int) : Prop := rxI242_19 S0 ws S base i a v ∧ S 480 8 = 0
def rxmLW2_19 (S0 : Nat → Int → Int) (ws : List Int) (S : Nat → Int → Int) (base i a v : Int) : Nat := rxm242_19 S0 ws S base i a v
def rxzLW2_19 : rx_Z := ([(0, 0), (0, 0), (0, 0), (0, 0), (0, 0), (0, 0), (0, 0), (0, 0), (780, 5280), (0, 399), (878, 6176), (0, 30)], [], [], 0, 0, 172, [(0, .inr (3, (0, 480))), (1, .inr (0, (8, 0))), (2, .inr (0, (9, 0)))], [.inr (0, (11, 0)), .inr (0, (10, 0)), .inr (3, (0, 482))])
def rxILW2_20 (S0 : Nat → Int → Int) (ws : List Int) (S : Nat → Int → Int) (base i a v : Int) : Prop := rxI242_20 S0 ws S base i a v ∧ S 480 8 = 0
def rxmLW2_20 (S0 : Nat → Int → Int) (ws : List Int) (S : Nat → Int → Int) (base i a v : Int) : Nat := rxm242_20 S0 ws S base i a v
def rxzLW2_20 : rx_Z := ([(0, 0), (0, 0), (0, 0), (0, 0), (0, 0), (0, 0), (0, 0), (0, 0), (780, 5280), (0, 399), (878, 6176), (0, 30)], [], [], 0, 0, 173, [(0, .inr (3, (0, 480))), (1, .inr (0, (8, 0))), (2, .inr (0, (9, 0)))], [])
def rxILW2_21 (S0 : Nat → Int → Int) (ws : List Int) (S : Nat → Int → Int) (base i a v : Int) : Prop := rxI242_21 S0 ws S base i a v ∧ S 480 8 = 0
def rxmLW2_21 (S0 : Nat → Int → Int) (ws : List Int) (S : Nat → Int → Int) (base i a v : Int) : Nat := rxm242_21 S0 ws S base i a v
def rxzLW2_21 : rx_Z := ([(0, 0), (0, 0), (0, 0), (0, 0), (0, 0), (0, 0), (0, 0), (0, 0), (780, 5280), (0, 399), (879, 6177), (0, 1000)], [], [], 0, 0, 193, [(0, .inr (3, (0, 480))), (1, .inr (0, (8, 0))), (2, .inr (0, (9, 0)))], [.inr (0, (11, 0)), .inr (0, (10, 0)), .inr (3, (0, 482))])
def rxILW2_22 (S0 : Nat → Int → Int) (ws : List Int) (S : Nat → Int → Int) (base i a v : Int) : Prop := rxI242_22 S0 ws S base i a v ∧ S 480 8 = 0
def rxmLW2_22 (S0 : Nat → Int → Int) (ws : List Int) (S : Nat → Int → Int) (base i a v : Int) : Nat := rxm242_22 S0 ws S base i a v
def rxzLW2_22 : rx_Z := ([(0, 0), (0, 0), (0, 0), (0, 0), (0, 0), (0, 0), (0, 0), (0, 0), (780, 5280), (0, 399), (879, 6177), (0, 1000)], [], [], 0, 0, 194, [(0, .inr (3, (0, 480))), (1, .inr (0, (8, 0))), (2, .inr (0, (9, 0)))], [])
def rxILW2_23 (S0 : Nat → Int → Int) (ws : List Int) (S : Nat → Int → Int) (n3 : Int) : Prop := rxI242_23 S0 ws S n3 ∧ S 480 8 = 0
def rxmLW2_23 (S0 : Nat → Int → Int) (ws : List Int) (S : Nat → Int → Int) (n3 : Int) : Nat := rxm242_23 S0 ws S n3
def rxzLW2_23 : rx_Z := ([(0, 0), (0, 0), (0, 0), (0, 0), (0, 0), (0, 0), (0, 0), (0, 0), (0, 5)], [], [], 0, 0, 207, [(0, .inr (3, (0, 480)))], [.inr (0, (8, 0)), .inr (0, (0, 3)), .inr (3, (0, 482))])
def rxoLW2_0_0 : bx_HO := (([(0, 0), (0, 0), (0, 0), (0, 0), (0, 0), (0, 0), (0, 0), (0, 0), (0, 5)], [(3, (8, 0), (0, 6))], [(((0, 0), 1851192626986356798026460450737346142932482408387548938499129344000000), .inr (0, (8, 0))), (((0, 482), 3), .inr (0, (8, 0))), (((0, 480), 3), .inr (3, (0, 482))), (((0, 0), 1851192626986356797424340330377019318111018015026043177836478467000000), .inr (0, (0, 0))), (((0, 480), 0), .inr (0, (0, 0)))], 0, 0, 30, [(0, .inr (3, (0, 480)))], [.inr (0, (0, 0)), .inr (3, (0, 480))]), [], [], [(0, 0), (0, 0), (0, 0), (0, 0), (0, 0), (0, 0), (0, 0), (0, 0)], 1)
def rxeLW2_0_0 : rx_End × List (Nat × Int × Int) := (([(0, 0), (0, 0), (0, 0), (0, 0), (0, 0), (0, 0), (0, 0), (0, 0), (6, 6), ((-2147483648), 2147483647), ((-2147483648), 2147483647)], [], [(((0, 0), 1851192626986356798427873864310897359480125337295219445606187011000000), .inr (0, (10, 0))), (((0, 481), 5), .inr (0, (10, 0))), (((0, 0), 1851192626986356798427873864310897359480125337295219445606187008000000), .inr (0, (9, 0))), (((0, 480), 2), .inr (3, (0, 481))), (((0, 0), 1851192626986356797625047037163794926384839479479878431390302211000000), .inr (0, (0, (-5)))), (((0, 480), 1), .inr (0, (0, (-5)))), (((0, 0), 1851192626986356799029993984671224184301589730656725206267068419000000), .inr (0, (0, 0))), (((0, 480), 8), .inr (0, (0, 0))), (((0, 0), 1851192626986356798026460450737346142932482408387548938499129344000000), .inr (0, (8, 0))), (((0, 482), 3), .inr (0, (8, 0))), (((0, 480), 3), .inr (3, (0, 482))), (((0, 0), 1851192626986356797424340330377019318111018015026043177836478467000000), .inr (0, (0, 0))), (((0, 480), 0), .inr (0, (0, 0)))], some (.inr (0, (0, (-5))))), [])
def rxoLW2_2_0 : bx_HO := (([(0, 0), (0, 0), (0, 0), (0, 0), (0, 0), (0, 0), (0, 0), (0, 0)], [], [], 0, 0, 34, [(0, .inr (3, (0, 480)))], [.inr (3, (0, 480))]), [], [], [(0, 0), (0, 0), (0, 0), (0, 0), (0, 0), (0, 0), (0, 0), (0, 0)], 3)
def rxoLW2_4_0 : bx_HO := (([(0, 0), (0, 0), (0, 0), (0, 0), (0, 0), (0, 0), (0, 0), (0, 0), (0, 0), (0, 2)], [(3, (9, 0), (0, 3))], [(((0, 0), 1851192626986356799632114105031551009123054124018230966928539648000000), .inr (0, (9, 0))), (((0, 480), 11), .inr (0, (9, 0))), (((0, 0), 1851192626986356800234234225391877833944518517379736727590010880000000), .inr (0, (8, 0))), (((0, 480), 14), .inr (0, (8, 0)))], 0, 0, 65, [(0, .inr (3, (0, 480)))], [.inr (3, (0, 480))]), [], [], [(0, 0), (0, 0), (0, 0), (0, 0), (0, 0), (0, 0), (0, 0), (0, 0)], 10)
def rxoLW2_4_1 : bx_HO := (([(0, 0), (0, 0), (0, 0), (0, 0), (0, 0), (0, 0), (0, 0), (0, 0), (0, 0), (3, 3), ((-9223372036854775808), 9223372036854775807)], [(3, (10, 0), (0, 59))], [(((0, 0), 1851192626986356799832820811818326617396875588472066220482363392000000), .inr (1, (10, 0))), (((0, 480), 12), .inr (1, (10, 0))), (((0, 0), 1851192626986356799632114105031551009123054124018230966928539648000000), .inr (0, (9, 0))), (((0, 480), 11), .inr (0, (9, 0))), (((0, 0), 1851192626986356800234234225391877833944518517379736727590010880000000), .inr (0, (8, 0))), (((0, 480), 14), .inr (0, (8, 0)))], 0, 0, 65, [(0, .inr (3, (0, 480)))], [.inr (3, (0, 480))]), [], [], [(0, 0), (0, 0), (0, 0), (0, 0), (0, 0), (0, 0), (0, 0), (0, 0)], 10)
def rxoLW2_4_2 : bx_HO := (([(0, 0), (0, 0), (0, 0), (0, 0), (0, 0), (0, 0), (0, 0), (0, 0), (0, 0), (3, 3), (59, 59)], [], [(((0, 0), 1851192626986356799832820811818326617396875588472066220482363392000000), .inr (1, (10, 0))), (((0, 480), 12), .inr (1, (10, 0))), (((0, 0), 1851192626986356799632114105031551009123054124018230966928539648000000), .inr (0, (9, 0))), (((0, 480), 11), .inr (0, (9, 0))), (((0, 0), 1851192626986356800234234225391877833944518517379736727590010880000000), .inr (0, (8, 0))), (((0, 480), 14), .inr (0, (8, 0)))], 0, 0, 54, [(0, .inr (3, (0, 480)))], [.inr (3, (0, 480))]), [], [], [(0, 0), (0, 0), (0, 0), (0, 0), (0, 0), (0, 0), (0, 0), (0, 0)], 6)
def rxoLW2_4_3 : bx_HO := (([(0, 0), (0, 0), (0, 0), (0, 0), (0, 0), (0, 0), (0, 0), (0, 0), (1, 1)], [(3, (8, 0), (0, 0))], [(((0, 0), 1851192626986356800234234225391877833944518517379736727590010880000000), .inr (0, (8, 0))), (((0, 480), 14), .inr (0, (8, 0)))], 0, 0, 65, [(0, .inr (3, (0, 480)))], [.inr (3, (0, 480))]), [], [], [(0, 0), (0, 0), (0, 0), (0, 0), (0, 0), (0, 0), (0, 0), (0, 0)], 10)
def rxoLW2_5_0 : bx_HO := (([(0, 0), (0, 0), (0, 0), (0, 0), (0, 0), (0, 0), (0, 0), (0, 0), (0, 0), (0, 2)], [(3, (9, 0), (0, 3))], [(((0, 0), 1851192626986356799632114105031551009123054124018230966928539648000000), .inr (0, (9, 0))), (((0, 480), 11), .inr (0, (9, 0))), (((0, 0), 1851192626986356800234234225391877833944518517379736727590010880000000), .inr (0, (8, 0))), (((0, 480), 14), .inr (0, (8, 0)))], 0, 0, 65, [(0, .inr (3, (0, 480)))], [.inr (3, (0, 480))]), [], [], [(0, 0), (0, 0), (0, 0), (0, 0), (0, 0), (0, 0), (0, 0), (0, 0)], 10)
def rxoLW2_5_1 : bx_HO := (([(0, 0), (0, 0), (0, 0), (0, 0), (0, 0), (0, 0), (0, 0), (0, 0), (0, 0), (3, 3), ((-9223372036854775808), 9223372036854775807)], [(3, (10, 0), (0, 59))], [(((0, 0), 1851192626986356799832820811818326617396875588472066220482363392000000), .inr (1, (10, 0))), (((0, 480), 12), .inr (1, (10, 0))), (((0, 0), 1851192626986356799632114105031551009123054124018230966928539648000000), .inr (0, (9, 0))), (((0, 480), 11), .inr (0, (9, 0))), (((0, 0), 1851192626986356800234234225391877833944518517379736727590010880000000), .inr (0, (8, 0))), (((0, 480), 14), .inr (0, (8, 0)))], 0, 0, 65, [(0, .inr (3, (0, 480)))], [.inr (3, (0, 480))]), [], [], [(0, 0), (0, 0), (0, 0), (0, 0), (0, 0), (0, 0), (0, 0), (0, 0)], 10)
def rxoLW2_5_2 : bx_HO := (([(0, 0), (0, 0), (0, 0), (0, 0), (0, 0), (0, 0), (0, 0), (0, 0), (0, 0), (3, 3), (59, 59)], [], [(((0, 0), 1851192626986356799832820811818326617396875588472066220482363392000000), .inr (1, (10, 0))), (((0, 480), 12), .inr (1, (10, 0))), (((0, 0), 1851192626986356799632114105031551009123054124018230966928539648000000), .inr (0, (9, 0))), (((0, 480), 11), .inr (0, (9, 0))), (((0, 0), 1851192626986356800234234225391877833944518517379736727590010880000000), .inr (0, (8, 0))), (((0, 480), 14), .inr (0, (8, 0)))], 0, 0, 54, [(0, .inr (3, (0, 480)))], [.inr (3, (0, 480))]), [], [], [(0, 0), (0, 0), (0, 0), (0, 0), (0, 0), (0, 0), (0, 0), (0, 0)], 6)
def rxoLW2_5_3 : bx_HO := (([(0, 0), (0, 0), (0, 0), (0, 0), (0, 0), (0, 0), (0, 0), (0, 0), (1, 1)], [(3, (8, 0), (0, 0))], [(((0, 0), 1851192626986356800234234225391877833944518517379736727590010880000000), .inr (0, (8, 0))), (((0, 480), 14), .inr (0, (8, 0)))], 0, 0, 65, [(0, .inr (3, (0, 480)))], [.inr (3, (0, 480))]), [], [], [(0, 0), (0, 0), (0, 0), (0, 0), (0, 0), (0, 0), (0, 0), (0, 0)], 10)
def rxoLW2_7_0 : bx_HO := (([(0, 0), (0, 0), (0, 0), (0, 0), (0, 0), (0, 0), (0, 0), (0, 0)], [], [], 0, 0, 58, [(0, .inr (3, (0, 480)))], [.inr (3, (0, 480))]), [], [], [(0, 0), (0, 0), (0, 0), (0, 0), (0, 0), (0, 0), (0, 0), (0, 0)], 8)
def rxoLW2_9_0 : bx_HO := (([(0, 0), (0, 0), (0, 0), (0, 0), (0, 0), (0, 0), (0, 0), (0, 0)], [], [], 0, 0, 37, [(0, .inr (3, (0, 480)))], []), [], [], [(0, 0), (0, 0), (0, 0), (0, 0), (0, 0), (0, 0), (0, 0), (0, 0)], 5)
def rxoLW2_11_0 : bx_HO := (([(0, 0), (0, 0), (0, 0), (0, 0), (0, 0), (0, 0), (0, 0), (0, 0), (0, 0), (0, 6)], [], [(((0, 0), 1851192626986356798026460450737346142932482408387548938499129344000000), .inr (0, (9, 0))), (((0, 482), 3), .inr (0, (9, 0))), (((0, 480), 3), .inr (3, (0, 482))), (((0, 0), 1851192626986356800234234225391877833944518517379736727590010880000000), .inr (0, (8, 0))), (((0, 480), 14), .inr (0, (8, 0)))], 0, 0, 94, [(0, .inr (3, (0, 480)))], [.inr (0, (9, 0)), .inr (0, (0, 900)), .inr (0, (0, 780))]), [(9, 0, 5)], [], [(0, 0), (0, 0), (0, 0), (0, 0), (0, 0), (0, 0), (0, 0), (0, 0), (9, 0)], 12)
def rxeLW2_11_0 : rx_End × List (Nat × Int × Int) := (([(0, 0), (0, 0), (0, 0), (0, 0), (0, 0), (0, 0), (0, 0), (0, 0), (1, 1), ((-2147483648), 2147483647), ((-2147483648), 2147483647)], [(3, (8, 0), (0, 0))], [(((0, 0), 1851192626986356798628580571097672967753946801749054699160010755000000), .inr (0, (10, 0))), (((0, 481), 6), .inr (0, (10, 0))), (((0, 0), 1851192626986356798628580571097672967753946801749054699160010752000000), .inr (0, (9, 0))), (((0, 480), 2), .inr (3, (0, 481))), (((0, 0), 1851192626986356797625047037163794926384839479479878431390302211000000), .inr (0, (0, (-6)))), (((0, 480), 1), .inr (0, (0, (-6)))), (((0, 0), 1851192626986356800234234225391877833944518517379736727590010880000000), .inr (0, (8, 0))), (((0, 480), 14), .inr (0, (8, 0)))], some (.inr (0, (0, (-6))))), [])
def rxoLW2_12_0 : bx_HO := (([(0, 0), (0, 0), (0, 0), (0, 0), (0, 0), (0, 0), (0, 0), (0, 0), (0, 5), (0, 4500), (0, 12)], [(904, (9, 0), (8, 0))], [(((0, 0), 1851192626986356800635647638965429050492161446287407234697658368000000), .inr (0, (10, 0))), (((0, 480), 16), .inr (0, (10, 0))), (((0, 480), 3), .inr (3, (0, 482)))], 0, 0, 108, [(1, .inr (0, (9, 780))), (0, .inr (3, (0, 480)))], [.inr (0, (10, 0)), .inr (0, (9, 781)), .inr (3, (0, 482))]), [], [], [(0, 0), (0, 0), (0, 0), (0, 0), (0, 0), (0, 0), (0, 0), (0, 0), (9, 780), (9, 781), (10, 0)], 13)
def rxoLW2_14_0 : bx_HO := (([(0, 0), (0, 0), (0, 0), (0, 0), (0, 0), (0, 0), (0, 0), (0, 0), (780, 5280), (781, 5281), (0, 12)], [], [], 0, 0, 111, [(2, .inr (0, (0, 0))), (0, .inr (3, (0, 480))), (1, .inr (0, (8, 0)))], []), [], [], [(0, 0), (0, 0), (0, 0), (0, 0), (0, 0), (0, 0), (0, 0), (0, 0), (8, 0), (0, 0)], 15)
def rxoLW2_15_0 : bx_HO := (([(0, 0), (0, 0), (0, 0), (0, 0), (0, 0), (0, 0), (0, 0), (0, 0), (780, 5280), (0, 95), (0, 12), (1, 96), (782, 5377), (0, 400)], [(604462909807314587353097000000, (12, 0), (8, 2)), (0, (9, 0), (11, 0)), (12, (11, 0), (10, 0))], [(((0, 0), 1851192626986356797424367893248739914126558548369245151065145344000000), .inr (0, (13, 0))), (((0, 480), 17), .inr (3, (0, 486))), (((0, 480), 3), .inr (3, (0, 482))), (((0, 0), 1851192626986356800635647638965429050492161446287407234697658368000000), .inr (0, (10, 0))), (((0, 480), 16), .inr (0, (10, 0)))], 0, 0, 137, [(0, .inr (3, (0, 480))), (1, .inr (0, (8, 0))), (2, .inr (0, (9, 0)))], [.inr (0, (13, 0)), .inr (0, (12, 0)), .inr (3, (0, 482))]), [], [], [(0, 0), (0, 0), (0, 0), (0, 0), (0, 0), (0, 0), (0, 0), (0, 0), (8, 0), (9, 0), (12, 0), (13, 0)], 16)
def rxoLW2_15_1 : bx_HO := (([(0, 0), (0, 0), (0, 0), (0, 0), (0, 0), (0, 0), (0, 0), (0, 0), (780, 5280), (0, 96), (0, 12), (0, 96)], [(1, (11, 0), (9, 0)), (12, (11, 0), (10, 0))], [(((0, 0), 1851192626986356800635647638965429050492161446287407234697658368000000), .inr (0, (10, 0))), (((0, 480), 16), .inr (0, (10, 0)))], 0, 0, 146, [(2, .inr (0, (0, 0))), (0, .inr (3, (0, 480))), (1, .inr (0, (8, 0)))], []), [], [], [(0, 0), (0, 0), (0, 0), (0, 0), (0, 0), (0, 0), (0, 0), (0, 0), (8, 0), (0, 0)], 18)
def rxoLW2_17_0 : bx_HO := (([(0, 0), (0, 0), (0, 0), (0, 0), (0, 0), (0, 0), (0, 0), (0, 0), (780, 5280), (0, 95), (782, 5377), (0, 400)], [], [], 0, 0, 111, [(2, .inr (0, (9, 1))), (0, .inr (3, (0, 480))), (1, .inr (0, (8, 0)))], []), [], [], [(0, 0), (0, 0), (0, 0), (0, 0), (0, 0), (0, 0), (0, 0), (0, 0), (8, 0), (9, 1)], 15)
def rxoLW2_18_0 : bx_HO := (([(0, 0), (0, 0), (0, 0), (0, 0), (0, 0), (0, 0), (0, 0), (0, 0), (780, 5280), (0, 399), (1, 400), (0, 798), (878, 6176), (0, 30)], [(604462909807314587353099000000, (12, 0), (8, 98)), (6, (11, 0), (9, 0)), (0, (9, 0), (10, 0))], [(((0, 0), 1851192626986356797424367893248739914126558548369245151065735168000000), .inr (0, (13, 0))), (((0, 480), 19), .inr (3, (0, 487))), (((0, 480), 3), .inr (3, (0, 482))), (((0, 0), 1851192626986356801037061052538980267039804375195077741805305856000000), .inr (0, (10, 0))), (((0, 480), 18), .inr (0, (10, 0)))], 0, 0, 172, [(0, .inr (3, (0, 480))), (1, .inr (0, (8, 0))), (2, .inr (0, (9, 0)))], [.inr (0, (13, 0)), .inr (0, (12, 0)), .inr (3, (0, 482))]), [], [], [(0, 0), (0, 0), (0, 0), (0, 0), (0, 0), (0, 0), (0, 0), (0, 0), (8, 0), (9, 0), (12, 0), (13, 0)], 19)
def rxoLW2_18_1 : bx_HO := (([(0, 0), (0, 0), (0, 0), (0, 0), (0, 0), (0, 0), (0, 0), (0, 0), (780, 5280), (0, 400), (0, 400), (0, 6)], [(1, (10, 0), (9, 0))], [(((0, 0), 1851192626986356798026460450737346142932482408387548938499129344000000), .inr (0, (11, 0))), (((0, 482), 3), .inr (0, (11, 0))), (((0, 480), 3), .inr (3, (0, 482))), (((0, 0), 1851192626986356801037061052538980267039804375195077741805305856000000), .inr (0, (10, 0))), (((0, 480), 18), .inr (0, (10, 0)))], 0, 0, 207, [(0, .inr (3, (0, 480))), (1, .inr (0, (8, 0))), (2, .inr (0, (9, 0)))], [.inr (0, (11, 0)), .inr (0, (0, 3)), .inr (3, (0, 482))]), [(11, 0, 5)], [], [(0, 0), (0, 0), (0, 0), (0, 0), (0, 0), (0, 0), (0, 0), (0, 0), (11, 0)], 23)
def rxoLW2_20_0 : bx_HO := (([(0, 0), (0, 0), (0, 0), (0, 0), (0, 0), (0, 0), (0, 0), (0, 0), (780, 5280), (0, 399), (878, 6176), (0, 30), (0, 798), (878, 6176), (0, 1000)], [(604462909807314587353100000000, (13, 0), (8, 98)), (6, (12, 0), (9, 0))], [(((0, 0), 1851192626986356797424367893248739914126558548369245151066324992000000), .inr (0, (14, 0))), (((0, 480), 20), .inr (3, (0, 488))), (((0, 480), 3), .inr (3, (0, 482)))], 0, 0, 193, [(0, .inr (3, (0, 480))), (1, .inr (0, (8, 0))), (2, .inr (0, (9, 0)))], [.inr (0, (14, 0)), .inr (0, (13, 1)), .inr (3, (0, 482))]), [], [], [(0, 0), (0, 0), (0, 0), (0, 0), (0, 0), (0, 0), (0, 0), (0, 0), (8, 0), (9, 0), (13, 1), (14, 0)], 21)
def rxoLW2_22_0 : bx_HO := (([(0, 0), (0, 0), (0, 0), (0, 0), (0, 0), (0, 0), (0, 0), (0, 0), (780, 5280), (0, 399), (879, 6177), (0, 1000)], [], [], 0, 0, 146, [(2, .inr (0, (9, 1))), (0, .inr (3, (0, 480))), (1, .inr (0, (8, 0)))], []), [], [], [(0, 0), (0, 0), (0, 0), (0, 0), (0, 0), (0, 0), (0, 0), (0, 0), (8, 0), (9, 1)], 18)
def rxeLW2_23_0 : rx_End × List (Nat × Int × Int) := (([(0, 0), (0, 0), (0, 0), (0, 0), (0, 0), (0, 0), (0, 0), (0, 0), (0, 5)], [], [(((0, 0), 1851192626986356797625047037163794926384839479479878431390302211000000), .inr (0, (0, 0))), (((0, 480), 1), .inr (0, (0, 0))), (((0, 480), 3), .inr (3, (0, 482))), (((0, 0), 1851192626986356798026460450737346142932482408387548938499129347000000), .inr (0, (8, 1))), (((0, 482), 3), .inr (0, (8, 1)))], some (.inr (0, (8, 0)))), [])
def rxYLW2 : List bx_HE := [(rxzLW2_0, [rxoLW2_0_0], [rxeLW2_0_0]), (rxzLW2_1, [], []), (rxzLW2_2, [rxoLW2_2_0], []), (rxzLW2_3, [], []), (rxzLW2_4, [rxoLW2_4_0, rxoLW2_4_1, rxoLW2_4_2, rxoLW2_4_3], []), (rxzLW2_5, [rxoLW2_5_0, rxoLW2_5_1, rxoLW2_5_2, rxoLW2_5_3], []), (rxzLW2_6, [], []), (rxzLW2_7, [rxoLW2_7_0], []), (rxzLW2_8, [], []), (rxzLW2_9, [rxoLW2_9_0], []), (rxzLW2_10, [], []), (rxzLW2_11, [rxoLW2_11_0], [rxeLW2_11_0]), (rxzLW2_12, [rxoLW2_12_0], []), (rxzLW2_13, [], []), (rxzLW2_14, [rxoLW2_14_0], []), (rxzLW2_15, [rxoLW2_15_0, rxoLW2_15_1], []), (rxzLW2_16, [], []), (rxzLW2_17, [rxoLW2_17_0], []), (rxzLW2_18, [rxoLW2_18_0, rxoLW2_18_1], []), (rxzLW2_19, [], []), (rxzLW2_20, [rxoLW2_20_0], []), (rxzLW2_21, [], []), (rxzLW2_22, [rxoLW2_22_0], []), (rxzLW2_23, [], [rxeLW2_23_0])]
def rxULW2 (q : bx_HE) : Bool := Nat.beq (rx_zpc q.1) 30 || Nat.beq (rx_zpc q.1) 34 || Nat.beq (rx_zpc q.1) 54 || Nat.beq (rx_zpc q.1) 58 || Nat.beq (rx_zpc q.1) 65 || Nat.beq (rx_zpc q.1) 108 || Nat.beq (rx_zpc q.1) 137 || Nat.beq (rx_zpc q.1) 172 || Nat.beq (rx_zpc q.1) 193
def rxYBLW2 : bx_B := (rxV, rxNP, rxDmf, bx_mdH rxC242.2.2.1)
set_option maxRecDepth 100000 in
theorem rxYcLW2 : bx_chkH rxYBLW2 rxM242 rxC242 rxYLW2 (rxULW2, fun cut z => rx_ex2 (rxCT rxYBLW2 rxCnE) cut 30000 rxC242.2.2.2.1 242 z) = true := by decide +kernel
def rxILW2 (S0 : Nat → Int → Int) (ws : List Int) (i : Nat) : bx_SP := fun S r => match i with | 0 => rxILW2_0 S0 ws S | 1 => rxILW2_1 S0 ws S | 2 => rxILW2_2 S0 ws S | 3 => rxILW2_3 S0 ws S | 4 => rxILW2_4 S0 ws S | 5 => rxILW2_5 S0 ws S | 6 => rxILW2_6 S0 ws S | 7 => rxILW2_7 S0 ws S | 8 => rxILW2_8 S0 ws S | 9 => rxILW2_9 S0 ws S | 10 => rxILW2_10 S0 ws S | 11 => rxILW2_11 S0 ws S | 12 => rxILW2_12 S0 ws S (r 8) | 13 => rxILW2_13 S0 ws S (r 8) (r 9) (r 10) | 14 => rxILW2_14 S0 ws S (r 8) (r 9) (r 10) | 15 => rxILW2_15 S0 ws S (r 8) (r 9) | 16 => rxILW2_16 S0 ws S (r 8) (r 9) (r 10) (r 11) | 17 => rxILW2_17 S0 ws S (r 8) (r 9) (r 10) (r 11) | 18 => rxILW2_18 S0 ws S (r 8) (r 9) | 19 => rxILW2_19 S0 ws S (r 8) (r 9) (r 10) (r 11) | 20 => rxILW2_20 S0 ws S (r 8) (r 9) (r 10) (r 11) | 21 => rxILW2_21 S0 ws S (r 8) (r 9) (r 10) (r 11) | 22 => rxILW2_22 S0 ws S (r 8) (r 9) (r 10) (r 11) | 23 => rxILW2_23 S0 ws S (r 8) | _ => False
def rxmLW2 (S0 : Nat → Int → Int) (ws : List Int) (i : Nat) (S : Nat → Int → Int) (r : Nat → Int) : Nat := match i with | 0 => rxmLW2_0 S0 ws S | 1 => rxmLW2_1 S0 ws S | 2 => rxmLW2_2 S0 ws S | 3 => rxmLW2_3 S0 ws S | 4 => rxmLW2_4 S0 ws S | 5 => rxmLW2_5 S0 ws S | 6 => rxmLW2_6 S0 ws S | 7 => rxmLW2_7 S0 ws S | 8 => rxmLW2_8 S0 ws S | 9 => rxmLW2_9 S0 ws S | 10 => rxmLW2_10 S0 ws S | 11 => rxmLW2_11 S0 ws S | 12 => rxmLW2_12 S0 ws S (r 8) | 13 => rxmLW2_13 S0 ws S (r 8) (r 9) (r 10) | 14 => rxmLW2_14 S0 ws S (r 8) (r 9) (r 10) | 15 => rxmLW2_15 S0 ws S (r 8) (r 9) | 16 => rxmLW2_16 S0 ws S (r 8) (r 9) (r 10) (r 11) | 17 => rxmLW2_17 S0 ws S (r 8) (r 9) (r 10) (r 11) | 18 => rxmLW2_18 S0 ws S (r 8) (r 9) | 19 => rxmLW2_19 S0 ws S (r 8) (r 9) (r 10) (r 11) | 20 => rxmLW2_20 S0 ws S (r 8) (r 9) (r 10) (r 11) | 21 => rxmLW2_21 S0 ws S (r 8) (r 9) (r 10) (r 11) | 22 => rxmLW2_22 S0 ws S (r 8) (r 9) (r 10) (r 11) | 23 => rxmLW2_23 S0 ws S (r 8) | _ => 0
def rxPLW2 (S0 : Nat → Int → Int) (ws : List Int) : Prop := rxP242 S0 ws
def rxPSLW2 (S0 : Nat → Int → Int) (ws : List Int) (S : Nat → Int → Int) (w : Option Int) : Prop := rxPS242 S0 ws S w ∧ (True ∧ True ∧ S 480 8 = 0)
theorem rxkLW2_1 {S0 : Nat → Int → Int} {ws : List Int} {S : Nat → Int → Int} (hP : rxPLW2 S0 ws) (hin : bx_same rxL (bx_mdl rxC242.2.2.1) S0 S) (I0 : bx_Inv rxL S) (hinv : rxILW2_1 S0 ws S)  : rxPBX S [480, 0] ∧ ∀ (S_p : Nat → Int → Int), rxPSBX S [480, 0] S_p none → bx_Inv rxL S_p → bx_same rxL (bx_mdl rxCBX.2.2.1) S S_p → rxILW2_2 S0 ws S_p ∧ rxmLW2_2 S0 ws S_p < rxmLW2_1 S0 ws S := by
  obtain ⟨hI, hx⟩ := hinv
  have g_ := rxk242_1 hP hin I0 hI
  exact ⟨g_.1, fun S_p hq I1 hsm => ⟨⟨(g_.2 S_p hq I1 hsm).1, trivial⟩, (g_.2 S_p hq I1 hsm).2⟩⟩
theorem rxsLW2_1 {X : (Nat → Int → Int) → Prop} {S0 : Nat → Int → Int} {ws : List Int} (hP : rxPLW2 S0 ws) : rx_obK X S0 rxC242.2.2.1 rxCBX.2.2.1 (rxILW2 S0 ws) (rxmLW2 S0 ws) 1 2 rxzLW2_1 rxzLW2_2 [.inr (3, (0, 480)), .inr (0, (0, 0))] none rxPBX rxPSBX := by
  intro S r hinv hXS I0 hin hs_ hf_
  have b_ := bx_bds_sat hs_
  have f_ := bx_fcl_ok hs_.1 hf_
  have g := rxkLW2_1 hP hin I0 hinv 
  have ea : List.map (bx_num r) [.inr (3, (0, 480)), .inr (0, (0, 0))] = [480, 0] := by
    simp only [List.map_cons, List.map_nil, bx_xv_ok hs_.1]
    rfl
  rw [ea]
  refine ⟨g.1, fun S_p w r_p hPS hX_p I1 hsm hr hw hs_p => ?_⟩
  have hw : w = none := hPS.1
  subst hw
  have g2 := g.2 S_p hPS I1 hsm
  show rxILW2_2 S0 ws S_p ∧ rxmLW2_2 S0 ws S_p < _
  exact g2
theorem rxkLW2_3 {S0 : Nat → Int → Int} {ws : List Int} {S : Nat → Int → Int} (hP : rxPLW2 S0 ws) (hin : bx_same rxL (bx_mdl rxC242.2.2.1) S0 S) (I0 : bx_Inv rxL S) (hinv : rxILW2_3 S0 ws S)  : rxPRL S [480] ∧ ∀ (S_p : Nat → Int → Int), rxPSRL S [480] S_p none → bx_Inv rxL S_p → bx_same rxL (bx_mdl rxCRL.2.2.1) S S_p → rxILW2_4 S0 ws S_p ∧ rxmLW2_4 S0 ws S_p < rxmLW2_3 S0 ws S := by
  obtain ⟨hI, hx⟩ := hinv
  have g_ := rxk242_3 hP hin I0 hI
  exact ⟨g_.1, fun S_p hq I1 hsm => ⟨⟨(g_.2 S_p hq I1 hsm).1, trivial⟩, (g_.2 S_p hq I1 hsm).2⟩⟩
theorem rxsLW2_3 {X : (Nat → Int → Int) → Prop} {S0 : Nat → Int → Int} {ws : List Int} (hP : rxPLW2 S0 ws) : rx_obK X S0 rxC242.2.2.1 rxCRL.2.2.1 (rxILW2 S0 ws) (rxmLW2 S0 ws) 3 4 rxzLW2_3 rxzLW2_4 [.inr (3, (0, 480))] none rxPRL rxPSRL := by
  intro S r hinv hXS I0 hin hs_ hf_
  have b_ := bx_bds_sat hs_
  have f_ := bx_fcl_ok hs_.1 hf_
  have g := rxkLW2_3 hP hin I0 hinv 
  have ea : List.map (bx_num r) [.inr (3, (0, 480))] = [480] := by
    simp only [List.map_cons, List.map_nil, bx_xv_ok hs_.1]
    rfl
  rw [ea]
  refine ⟨g.1, fun S_p w r_p hPS hX_p I1 hsm hr hw hs_p => ?_⟩
  have hw : w = none := hPS.1
  subst hw
  have g2 := g.2 S_p hPS I1 hsm
  show rxILW2_4 S0 ws S_p ∧ rxmLW2_4 S0 ws S_p < _
  exact g2
theorem rxkLW2_6 {S0 : Nat → Int → Int} {ws : List Int} {S : Nat → Int → Int} (hP : rxPLW2 S0 ws) (hin : bx_same rxL (bx_mdl rxC242.2.2.1) S0 S) (I0 : bx_Inv rxL S) (hinv : rxILW2_6 S0 ws S)  : rxPNX S [480] ∧ ∀ (S_p : Nat → Int → Int), rxPSNX S [480] S_p none → bx_Inv rxL S_p → bx_same rxL (bx_mdl rxCNX.2.2.1) S S_p → rxILW2_7 S0 ws S_p ∧ rxmLW2_7 S0 ws S_p < rxmLW2_6 S0 ws S := by
  obtain ⟨hI, hx⟩ := hinv
  have g_ := rxk242_6 hP hin I0 hI
  exact ⟨g_.1, fun S_p hq I1 hsm => ⟨⟨(g_.2 S_p hq I1 hsm).1, trivial⟩, (g_.2 S_p hq I1 hsm).2⟩⟩
theorem rxsLW2_6 {X : (Nat → Int → Int) → Prop} {S0 : Nat → Int → Int} {ws : List Int} (hP : rxPLW2 S0 ws) : rx_obK X S0 rxC242.2.2.1 rxCNX.2.2.1 (rxILW2 S0 ws) (rxmLW2 S0 ws) 6 7 rxzLW2_6 rxzLW2_7 [.inr (3, (0, 480))] none rxPNX rxPSNX := by
  intro S r hinv hXS I0 hin hs_ hf_
  have b_ := bx_bds_sat hs_
  have f_ := bx_fcl_ok hs_.1 hf_
  have g := rxkLW2_6 hP hin I0 hinv 
  have ea : List.map (bx_num r) [.inr (3, (0, 480))] = [480] := by
    simp only [List.map_cons, List.map_nil, bx_xv_ok hs_.1]
    rfl
  rw [ea]
  refine ⟨g.1, fun S_p w r_p hPS hX_p I1 hsm hr hw hs_p => ?_⟩
  have hw : w = none := hPS.1
  subst hw
  have g2 := g.2 S_p hPS I1 hsm
  show rxILW2_7 S0 ws S_p ∧ rxmLW2_7 S0 ws S_p < _
  exact g2
theorem rxkLW2_8 {S0 : Nat → Int → Int} {ws : List Int} {S : Nat → Int → Int} (hP : rxPLW2 S0 ws) (hin : bx_same rxL (bx_mdl rxC242.2.2.1) S0 S) (I0 : bx_Inv rxL S) (hinv : rxILW2_8 S0 ws S)  : rxPRL S [480] ∧ ∀ (S_p : Nat → Int → Int), rxPSRL S [480] S_p none → bx_Inv rxL S_p → bx_same rxL (bx_mdl rxCRL.2.2.1) S S_p → rxILW2_9 S0 ws S_p ∧ rxmLW2_9 S0 ws S_p < rxmLW2_8 S0 ws S := by
  obtain ⟨hI, hx⟩ := hinv
  have g_ := rxk242_8 hP hin I0 hI
  exact ⟨g_.1, fun S_p hq I1 hsm => ⟨⟨(g_.2 S_p hq I1 hsm).1, trivial⟩, (g_.2 S_p hq I1 hsm).2⟩⟩
theorem rxsLW2_8 {X : (Nat → Int → Int) → Prop} {S0 : Nat → Int → Int} {ws : List Int} (hP : rxPLW2 S0 ws) : rx_obK X S0 rxC242.2.2.1 rxCRL.2.2.1 (rxILW2 S0 ws) (rxmLW2 S0 ws) 8 9 rxzLW2_8 rxzLW2_9 [.inr (3, (0, 480))] none rxPRL rxPSRL := by
  intro S r hinv hXS I0 hin hs_ hf_
  have b_ := bx_bds_sat hs_
  have f_ := bx_fcl_ok hs_.1 hf_
  have g := rxkLW2_8 hP hin I0 hinv 
  have ea : List.map (bx_num r) [.inr (3, (0, 480))] = [480] := by
    simp only [List.map_cons, List.map_nil, bx_xv_ok hs_.1]
    rfl
  rw [ea]
  refine ⟨g.1, fun S_p w r_p hPS hX_p I1 hsm hr hw hs_p => ?_⟩
  have hw : w = none := hPS.1
  subst hw
  have g2 := g.2 S_p hPS I1 hsm
  show rxILW2_9 S0 ws S_p ∧ rxmLW2_9 S0 ws S_p < _
  exact g2
theorem rxkLW2_10 {S0 : Nat → Int → Int} {ws : List Int} {S : Nat → Int → Int} (hP : rxPLW2 S0 ws) (hin : bx_same rxL (bx_mdl rxC242.2.2.1) S0 S) (I0 : bx_Inv rxL S) (hinv : rxILW2_10 S0 ws S)  : rxPET2 S [480] ∧ ∀ (S_p : Nat → Int → Int), rxPSET2 S [480] S_p none → bx_Inv rxL S_p → bx_same rxL (bx_mdl rxCET2.2.2.1) S S_p → rxILW2_11 S0 ws S_p ∧ rxmLW2_11 S0 ws S_p < rxmLW2_10 S0 ws S := by
  obtain ⟨hI, hx⟩ := hinv
  have g_ := rxk242_10 hP hin I0 hI
  exact ⟨g_.1, fun S_p hq I1 hsm => ⟨⟨(g_.2 S_p hq.2.1 I1 hsm).1, hq.2.2⟩, (g_.2 S_p hq.2.1 I1 hsm).2⟩⟩
theorem rxsLW2_10 {X : (Nat → Int → Int) → Prop} {S0 : Nat → Int → Int} {ws : List Int} (hP : rxPLW2 S0 ws) : rx_obK X S0 rxC242.2.2.1 rxCET2.2.2.1 (rxILW2 S0 ws) (rxmLW2 S0 ws) 10 11 rxzLW2_10 rxzLW2_11 [.inr (3, (0, 480))] none rxPET2 rxPSET2 := by
  intro S r hinv hXS I0 hin hs_ hf_
  have b_ := bx_bds_sat hs_
  have f_ := bx_fcl_ok hs_.1 hf_
  have g := rxkLW2_10 hP hin I0 hinv 
  have ea : List.map (bx_num r) [.inr (3, (0, 480))] = [480] := by
    simp only [List.map_cons, List.map_nil, bx_xv_ok hs_.1]
    rfl
  rw [ea]
  refine ⟨g.1, fun S_p w r_p hPS hX_p I1 hsm hr hw hs_p => ?_⟩
  have hw : w = none := hPS.1
  subst hw
  have g2 := g.2 S_p hPS I1 hsm
  show rxILW2_11 S0 ws S_p ∧ rxmLW2_11 S0 ws S_p < _
  exact g2
theorem rxtLW2_13 {S0 : Nat → Int → Int} {ws : List Int} {S : Nat → Int → Int} {base a v : Int} (hP : rxPLW2 S0 ws) (hin : bx_same rxL (bx_mdl rxC242.2.2.1) S0 S) (I0 : bx_Inv rxL S) (hinv : rxILW2_13 S0 ws S base a v) (l8 : 780 ≤ base) (u8 : base ≤ 5280) (l9 : 781 ≤ a) (u9 : a ≤ 5281) (l10 : 0 ≤ v) (u10 : v ≤ 12) : bx_okT rxL (rxL.2.2.1 482 a) v ∧ rxILW2_14 S0 ws (bx_up S 482 a v) base a v ∧ rxmLW2_14 S0 ws (bx_up S 482 a v) base a v < rxmLW2_13 S0 ws S base a v := by
  obtain ⟨hI, hx⟩ := hinv
  obtain ⟨a_, c_, d_⟩ := rxt242_13 hP hin I0 hI l8 u8 l9 u9 l10 u10
  exact ⟨a_, ⟨c_, ((bx_up_ne (by omega))).trans hx⟩, d_⟩
theorem rxsLW2_13 {X : (Nat → Int → Int) → Prop} {S0 : Nat → Int → Int} {ws : List Int} (hP : rxPLW2 S0 ws) (hX : ∀ S S1 : Nat → Int → Int, X S → bx_same rxL (bx_mdl rxC242.2.2.1) S S1 → X S1) : rx_obS X S0 rxC242.2.2.1 (rxILW2 S0 ws) (rxmLW2 S0 ws) 13 14 rxzLW2_13 482 9 10 := by
  intro S r hinv hXS I0 hin hs_ hf_
  have b_ := bx_bds_sat hs_
  have f_ := bx_fcl_ok hs_.1 hf_
  obtain ⟨⟨l8, u8⟩, ⟨l9, u9⟩, ⟨l10, u10⟩, -⟩ := b_
  have g := rxtLW2_13 hP hin I0 hinv l8 u8 l9 u9 l10 u10
  exact ⟨g.1, g.2.1, g.2.2, hX _ _ hXS (rx_same_upR (fun _ _ _ _ _ => rfl) (tc := 0) (n := 6180) (g := 63) rfl (by decide +kernel) l9 u9), rx_same_upR hin (tc := 0) (n := 6180) (g := 63) rfl (by decide +kernel) l9 u9⟩
theorem rxtLW2_16 {S0 : Nat → Int → Int} {ws : List Int} {S : Nat → Int → Int} {base i a v : Int} (hP : rxPLW2 S0 ws) (hin : bx_same rxL (bx_mdl rxC242.2.2.1) S0 S) (I0 : bx_Inv rxL S) (hinv : rxILW2_16 S0 ws S base i a v) (l8 : 780 ≤ base) (u8 : base ≤ 5280) (l9 : 0 ≤ i) (u9 : i ≤ 95) (l10 : 782 ≤ a) (u10 : a ≤ 5377) (l11 : 0 ≤ v) (u11 : v ≤ 400) : bx_okT rxL (rxL.2.2.1 482 a) v ∧ rxILW2_17 S0 ws (bx_up S 482 a v) base i a v ∧ rxmLW2_17 S0 ws (bx_up S 482 a v) base i a v < rxmLW2_16 S0 ws S base i a v := by
  obtain ⟨hI, hx⟩ := hinv
  obtain ⟨a_, c_, d_⟩ := rxt242_16 hP hin I0 hI l8 u8 l9 u9 l10 u10 l11 u11
  exact ⟨a_, ⟨c_, ((bx_up_ne (by omega))).trans hx⟩, d_⟩
theorem rxsLW2_16 {X : (Nat → Int → Int) → Prop} {S0 : Nat → Int → Int} {ws : List Int} (hP : rxPLW2 S0 ws) (hX : ∀ S S1 : Nat → Int → Int, X S → bx_same rxL (bx_mdl rxC242.2.2.1) S S1 → X S1) : rx_obS X S0 rxC242.2.2.1 (rxILW2 S0 ws) (rxmLW2 S0 ws) 16 17 rxzLW2_16 482 10 11 := by
  intro S r hinv hXS I0 hin hs_ hf_
  have b_ := bx_bds_sat hs_
  have f_ := bx_fcl_ok hs_.1 hf_
  obtain ⟨⟨l8, u8⟩, ⟨l9, u9⟩, ⟨l10, u10⟩, ⟨l11, u11⟩, -⟩ := b_
  have g := rxtLW2_16 hP hin I0 hinv l8 u8 l9 u9 l10 u10 l11 u11
  exact ⟨g.1, g.2.1, g.2.2, hX _ _ hXS (rx_same_upR (fun _ _ _ _ _ => rfl) (tc := 0) (n := 6180) (g := 63) rfl (by decide +kernel) l10 u10), rx_same_upR hin (tc := 0) (n := 6180) (g := 63) rfl (by decide +kernel) l10 u10⟩
theorem rxtLW2_19 {S0 : Nat → Int → Int} {ws : List Int} {S : Nat → Int → Int} {base i a v : Int} (hP : rxPLW2 S0 ws) (hin : bx_same rxL (bx_mdl rxC242.2.2.1) S0 S) (I0 : bx_Inv rxL S) (hinv : rxILW2_19 S0 ws S base i a v) (l8 : 780 ≤ base) (u8 : base ≤ 5280) (l9 : 0 ≤ i) (u9 : i ≤ 399) (l10 : 878 ≤ a) (u10 : a ≤ 6176) (l11 : 0 ≤ v) (u11 : v ≤ 30) : bx_okT rxL (rxL.2.2.1 482 a) v ∧ rxILW2_20 S0 ws (bx_up S 482 a v) base i a v ∧ rxmLW2_20 S0 ws (bx_up S 482 a v) base i a v < rxmLW2_19 S0 ws S base i a v := by
  obtain ⟨hI, hx⟩ := hinv
  obtain ⟨a_, c_, d_⟩ := rxt242_19 hP hin I0 hI l8 u8 l9 u9 l10 u10 l11 u11
  exact ⟨a_, ⟨c_, ((bx_up_ne (by omega))).trans hx⟩, d_⟩
theorem rxsLW2_19 {X : (Nat → Int → Int) → Prop} {S0 : Nat → Int → Int} {ws : List Int} (hP : rxPLW2 S0 ws) (hX : ∀ S S1 : Nat → Int → Int, X S → bx_same rxL (bx_mdl rxC242.2.2.1) S S1 → X S1) : rx_obS X S0 rxC242.2.2.1 (rxILW2 S0 ws) (rxmLW2 S0 ws) 19 20 rxzLW2_19 482 10 11 := by
  intro S r hinv hXS I0 hin hs_ hf_
  have b_ := bx_bds_sat hs_
  have f_ := bx_fcl_ok hs_.1 hf_
  obtain ⟨⟨l8, u8⟩, ⟨l9, u9⟩, ⟨l10, u10⟩, ⟨l11, u11⟩, -⟩ := b_
  have g := rxtLW2_19 hP hin I0 hinv l8 u8 l9 u9 l10 u10 l11 u11
  exact ⟨g.1, g.2.1, g.2.2, hX _ _ hXS (rx_same_upR (fun _ _ _ _ _ => rfl) (tc := 0) (n := 6180) (g := 63) rfl (by decide +kernel) l10 u10), rx_same_upR hin (tc := 0) (n := 6180) (g := 63) rfl (by decide +kernel) l10 u10⟩
theorem rxtLW2_21 {S0 : Nat → Int → Int} {ws : List Int} {S : Nat → Int → Int} {base i a v : Int} (hP : rxPLW2 S0 ws) (hin : bx_same rxL (bx_mdl rxC242.2.2.1) S0 S) (I0 : bx_Inv rxL S) (hinv : rxILW2_21 S0 ws S base i a v) (l8 : 780 ≤ base) (u8 : base ≤ 5280) (l9 : 0 ≤ i) (u9 : i ≤ 399) (l10 : 879 ≤ a) (u10 : a ≤ 6177) (l11 : 0 ≤ v) (u11 : v ≤ 1000) : bx_okT rxL (rxL.2.2.1 482 a) v ∧ rxILW2_22 S0 ws (bx_up S 482 a v) base i a v ∧ rxmLW2_22 S0 ws (bx_up S 482 a v) base i a v < rxmLW2_21 S0 ws S base i a v := by
  obtain ⟨hI, hx⟩ := hinv
  obtain ⟨a_, c_, d_⟩ := rxt242_21 hP hin I0 hI l8 u8 l9 u9 l10 u10 l11 u11
  exact ⟨a_, ⟨c_, ((bx_up_ne (by omega))).trans hx⟩, d_⟩
theorem rxsLW2_21 {X : (Nat → Int → Int) → Prop} {S0 : Nat → Int → Int} {ws : List Int} (hP : rxPLW2 S0 ws) (hX : ∀ S S1 : Nat → Int → Int, X S → bx_same rxL (bx_mdl rxC242.2.2.1) S S1 → X S1) : rx_obS X S0 rxC242.2.2.1 (rxILW2 S0 ws) (rxmLW2 S0 ws) 21 22 rxzLW2_21 482 10 11 := by
  intro S r hinv hXS I0 hin hs_ hf_
  have b_ := bx_bds_sat hs_
  have f_ := bx_fcl_ok hs_.1 hf_
  obtain ⟨⟨l8, u8⟩, ⟨l9, u9⟩, ⟨l10, u10⟩, ⟨l11, u11⟩, -⟩ := b_
  have g := rxtLW2_21 hP hin I0 hinv l8 u8 l9 u9 l10 u10 l11 u11
  exact ⟨g.1, g.2.1, g.2.2, hX _ _ hXS (rx_same_upR (fun _ _ _ _ _ => rfl) (tc := 0) (n := 6180) (g := 63) rfl (by decide +kernel) l10 u10), rx_same_upR hin (tc := 0) (n := 6180) (g := 63) rfl (by decide +kernel) l10 u10⟩
theorem rxcLW2_0_0 {S0 : Nat → Int → Int} {ws : List Int} {S : Nat → Int → Int} {x8 : Int} (hP : rxPLW2 S0 ws) (hin : bx_same rxL (bx_mdl rxC242.2.2.1) S0 S) (I0 : bx_Inv rxL S) (hinv : rxILW2_0 S0 ws S) (l8 : 0 ≤ x8) (u8 : x8 ≤ 5) (f0 : x8 ≠ 6) (e0 : (bx_up S 480 0 0) 482 3 = x8) : (True) ∧ (True) ∧ rxILW2_1 S0 ws (bx_up S 480 0 0) ∧ rxmLW2_1 S0 ws (bx_up S 480 0 0) < rxmLW2_0 S0 ws S := by
  obtain ⟨hI, hx⟩ := hinv
  obtain ⟨a_, b_, c_, d_⟩ := rxc242_0_0 hP hin I0 hI l8 u8 f0 e0
  exact ⟨a_, b_, ⟨c_, trivial⟩, d_⟩
theorem rxgLW2_0_0 {X : (Nat → Int → Int) → Prop} {S0 : Nat → Int → Int} {ws : List Int} (hP : rxPLW2 S0 ws) : bx_obC rxL X S0 rxC242.2.2.1 (rxILW2 S0 ws) (rxmLW2 S0 ws) 0 rxzLW2_0 rxoLW2_0_0 := by
  intro S S_p r r_p hinv hX hin hsm_ hseg
  obtain ⟨I0, I1, h0_, hr_, b_, f_, d_⟩ := bx_cl (evs := [(0, (0, 482), (0, 3), .inr (0, (8, 0))), (1, (0, 480), (0, 0), .inr (0, (0, 0)))]) (fvs := [(3, (8, 0), (0, 6), (0, 0))]) hseg (by decide +kernel) (by decide +kernel)
  have hinv : rxILW2_0 S0 ws S := hinv
  obtain ⟨⟨l8, u8⟩, -⟩ := b_
  obtain ⟨f0, -⟩ := f_
  obtain ⟨e0, ⟨T1, w_, w1⟩⟩ := d_
  subst w1
  subst w_
  have g := rxcLW2_0_0 hP hin I0 hinv l8 u8 f0 e0
  refine ⟨bx_narP_ok (l := []) g.1, bx_nfP_ok h0_ (fvs := []) (by decide +kernel) g.2.1, ?_, ?_⟩
  · show rxILW2_1 S0 ws (bx_up T1 480 (0) (0))
    exact g.2.2.1
  · show rxmLW2_1 S0 ws (bx_up T1 480 (0) (0)) < rxmLW2_0 S0 ws T1
    exact g.2.2.2
theorem rxdLW2_0_0 {S0 : Nat → Int → Int} {ws : List Int} {S : Nat → Int → Int} {x8 x9 x10 : Int} (hP : rxPLW2 S0 ws) (hin : bx_same rxL (bx_mdl rxC242.2.2.1) S0 S) (hin2 : bx_same rxL (bx_mdl rxC242.2.2.1) S (bx_up (bx_up (bx_up (bx_up S 480 0 0) 480 8 0) 480 1 ((-5))) 481 5 x10)) (I0 : bx_Inv rxL S) (I1 : bx_Inv rxL (bx_up (bx_up (bx_up (bx_up S 480 0 0) 480 8 0) 480 1 ((-5))) 481 5 x10)) (hinv : rxILW2_0 S0 ws S) (l8 : 6 ≤ x8) (u8 : x8 ≤ 6) (l9 : (-2147483648) ≤ x9) (u9 : x9 ≤ 2147483647) (l10 : (-2147483648) ≤ x10) (u10 : x10 ≤ 2147483647) (e4 : (bx_up S 480 0 0) 482 3 = x8) (e1 : (bx_up (bx_up (bx_up S 480 0 0) 480 8 0) 480 1 ((-5))) 481 5 = x9) : (True) ∧ rxPSLW2 S0 ws (bx_up (bx_up (bx_up (bx_up S 480 0 0) 480 8 0) 480 1 ((-5))) 481 5 x10) (some ((-5))) := by
  obtain ⟨hI, hx⟩ := hinv
  obtain ⟨a_, c_⟩ := rxd242_0_0 hP hin hin2 I0 I1 hI l8 u8 l9 u9 l10 u10 e4 e1
  exact ⟨a_, c_, ⟨True.intro, True.intro, (bx_up_ne (by omega)).trans ((bx_up_ne (by omega)).trans (bx_up_at))⟩⟩
theorem rxfLW2_0_0 {X : (Nat → Int → Int) → Prop} {S0 : Nat → Int → Int} {ws : List Int} (hP : rxPLW2 S0 ws) : bx_obE rxL X S0 rxC242.2.2.1 (rxILW2 S0 ws) (rxPSLW2 S0 ws) 0 rxzLW2_0 rxeLW2_0_0 := by
  intro S S_p r r_p hinv hX hin hsm_ hseg
  obtain ⟨I0, I1, h0_, hr_, b_, f_, d_⟩ := bx_cl (evs := [(1, (0, 481), (0, 5), .inr (0, (10, 0))), (0, (0, 481), (0, 5), .inr (0, (9, 0))), (1, (0, 480), (0, 1), .inr (0, (0, (-5)))), (1, (0, 480), (0, 8), .inr (0, (0, 0))), (0, (0, 482), (0, 3), .inr (0, (8, 0))), (1, (0, 480), (0, 0), .inr (0, (0, 0)))]) (fvs := []) hseg (by decide +kernel) (by decide +kernel)
  have hinv : rxILW2_0 S0 ws S := hinv
  obtain ⟨⟨l8, u8⟩, ⟨l9, u9⟩, ⟨l10, u10⟩, -⟩ := b_
  obtain ⟨T0, ⟨e1, ⟨T2, ⟨T3, ⟨e4, ⟨T5, w_, w5⟩⟩, w3⟩, w2⟩⟩, w0⟩ := d_
  subst w0
  subst w2
  subst w3
  subst w5
  subst w_
  have g := rxdLW2_0_0 hP hin hsm_ I0 I1 hinv l8 u8 l9 u9 l10 u10 e4 e1
  refine ⟨bx_narP_ok (l := []) g.1, ?_⟩
  show rxPSLW2 S0 ws (bx_up (bx_up (bx_up (bx_up T5 480 (0) (0)) 480 (8) (0)) 480 (1) ((-5))) 481 (5) (r_p 10)) (some (bx_num r_p (.inr (0, (0, (-5))))))
  rw [bx_xv_ok h0_]
  exact g.2
theorem rxcLW2_2_0 {S0 : Nat → Int → Int} {ws : List Int} {S : Nat → Int → Int} (hP : rxPLW2 S0 ws) (hin : bx_same rxL (bx_mdl rxC242.2.2.1) S0 S) (I0 : bx_Inv rxL S) (hinv : rxILW2_2 S0 ws S)  : (True) ∧ (True) ∧ rxILW2_3 S0 ws S ∧ rxmLW2_3 S0 ws S < rxmLW2_2 S0 ws S := by
  obtain ⟨hI, hx⟩ := hinv
  obtain ⟨a_, b_, c_, d_⟩ := rxc242_2_0 hP hin I0 hI
  exact ⟨a_, b_, ⟨c_, trivial⟩, d_⟩
theorem rxgLW2_2_0 {X : (Nat → Int → Int) → Prop} {S0 : Nat → Int → Int} {ws : List Int} (hP : rxPLW2 S0 ws) : bx_obC rxL X S0 rxC242.2.2.1 (rxILW2 S0 ws) (rxmLW2 S0 ws) 2 rxzLW2_2 rxoLW2_2_0 := by
  intro S S_p r r_p hinv hX hin hsm_ hseg
  obtain ⟨I0, I1, h0_, hr_, b_, f_, d_⟩ := bx_cl (evs := []) (fvs := []) hseg (by decide +kernel) (by decide +kernel)
  have hinv : rxILW2_2 S0 ws S := hinv
  have w_ := d_
  subst w_
  have g := rxcLW2_2_0 hP hin I0 hinv 
  refine ⟨bx_narP_ok (l := []) g.1, bx_nfP_ok h0_ (fvs := []) (by decide +kernel) g.2.1, ?_, ?_⟩
  · show rxILW2_3 S0 ws S_p
    exact g.2.2.1
  · show rxmLW2_3 S0 ws S_p < rxmLW2_2 S0 ws S_p
    exact g.2.2.2
theorem rxcLW2_4_0 {S0 : Nat → Int → Int} {ws : List Int} {S : Nat → Int → Int} {x8 x9 : Int} (hP : rxPLW2 S0 ws) (hin : bx_same rxL (bx_mdl rxC242.2.2.1) S0 S) (I0 : bx_Inv rxL S) (hinv : rxILW2_4 S0 ws S) (l8 : 0 ≤ x8) (u8 : x8 ≤ 0) (l9 : 0 ≤ x9) (u9 : x9 ≤ 2) (f0 : x9 ≠ 3) (e1 : S 480 14 = x8) (e0 : S 480 11 = x9) : (True) ∧ (True) ∧ rxILW2_10 S0 ws S ∧ rxmLW2_10 S0 ws S < rxmLW2_4 S0 ws S := by
  obtain ⟨hI, hx⟩ := hinv
  obtain ⟨a_, b_, c_, d_⟩ := rxc242_4_0 hP hin I0 hI l8 u8 l9 u9 f0 e1 e0
  exact ⟨a_, b_, ⟨c_, trivial⟩, d_⟩
theorem rxgLW2_4_0 {X : (Nat → Int → Int) → Prop} {S0 : Nat → Int → Int} {ws : List Int} (hP : rxPLW2 S0 ws) : bx_obC rxL X S0 rxC242.2.2.1 (rxILW2 S0 ws) (rxmLW2 S0 ws) 4 rxzLW2_4 rxoLW2_4_0 := by
  intro S S_p r r_p hinv hX hin hsm_ hseg
  obtain ⟨I0, I1, h0_, hr_, b_, f_, d_⟩ := bx_cl (evs := [(0, (0, 480), (0, 11), .inr (0, (9, 0))), (0, (0, 480), (0, 14), .inr (0, (8, 0)))]) (fvs := [(3, (9, 0), (0, 3), (0, 0))]) hseg (by decide +kernel) (by decide +kernel)
  have hinv : rxILW2_4 S0 ws S := hinv
  obtain ⟨⟨l8, u8⟩, ⟨l9, u9⟩, -⟩ := b_
  obtain ⟨f0, -⟩ := f_
  obtain ⟨e0, ⟨e1, w_⟩⟩ := d_
  subst w_
  have g := rxcLW2_4_0 hP hin I0 hinv l8 u8 l9 u9 f0 e1 e0
  refine ⟨bx_narP_ok (l := []) g.1, bx_nfP_ok h0_ (fvs := []) (by decide +kernel) g.2.1, ?_, ?_⟩
  · show rxILW2_10 S0 ws S_p
    exact g.2.2.1
  · show rxmLW2_10 S0 ws S_p < rxmLW2_4 S0 ws S_p
    exact g.2.2.2
theorem rxcLW2_4_1 {S0 : Nat → Int → Int} {ws : List Int} {S : Nat → Int → Int} {x8 x9 x10 : Int} (hP : rxPLW2 S0 ws) (hin : bx_same rxL (bx_mdl rxC242.2.2.1) S0 S) (I0 : bx_Inv rxL S) (hinv : rxILW2_4 S0 ws S) (l8 : 0 ≤ x8) (u8 : x8 ≤ 0) (l9 : 3 ≤ x9) (u9 : x9 ≤ 3) (l10 : (-9223372036854775808) ≤ x10) (u10 : x10 ≤ 9223372036854775807) (f0 : x10 ≠ 59) (e2 : S 480 14 = x8) (e1 : S 480 11 = x9) (e0 : S 480 12 = x10) : (True) ∧ (True) ∧ rxILW2_10 S0 ws S ∧ rxmLW2_10 S0 ws S < rxmLW2_4 S0 ws S := by
  obtain ⟨hI, hx⟩ := hinv
  obtain ⟨a_, b_, c_, d_⟩ := rxc242_4_1 hP hin I0 hI l8 u8 l9 u9 l10 u10 f0 e2 e1 e0
  exact ⟨a_, b_, ⟨c_, trivial⟩, d_⟩
theorem rxgLW2_4_1 {X : (Nat → Int → Int) → Prop} {S0 : Nat → Int → Int} {ws : List Int} (hP : rxPLW2 S0 ws) : bx_obC rxL X S0 rxC242.2.2.1 (rxILW2 S0 ws) (rxmLW2 S0 ws) 4 rxzLW2_4 rxoLW2_4_1 := by
  intro S S_p r r_p hinv hX hin hsm_ hseg
  obtain ⟨I0, I1, h0_, hr_, b_, f_, d_⟩ := bx_cl (evs := [(0, (0, 480), (0, 12), .inr (1, (10, 0))), (0, (0, 480), (0, 11), .inr (0, (9, 0))), (0, (0, 480), (0, 14), .inr (0, (8, 0)))]) (fvs := [(3, (10, 0), (0, 59), (0, 0))]) hseg (by decide +kernel) (by decide +kernel)
  have hinv : rxILW2_4 S0 ws S := hinv
  obtain ⟨⟨l8, u8⟩, ⟨l9, u9⟩, ⟨l10, u10⟩, -⟩ := b_
  obtain ⟨f0, -⟩ := f_
  obtain ⟨e0, ⟨e1, ⟨e2, w_⟩⟩⟩ := d_
  subst w_
  have g := rxcLW2_4_1 hP hin I0 hinv l8 u8 l9 u9 l10 u10 f0 e2 e1 e0
  refine ⟨bx_narP_ok (l := []) g.1, bx_nfP_ok h0_ (fvs := []) (by decide +kernel) g.2.1, ?_, ?_⟩
  · show rxILW2_10 S0 ws S_p
    exact g.2.2.1
  · show rxmLW2_10 S0 ws S_p < rxmLW2_4 S0 ws S_p
    exact g.2.2.2
theorem rxcLW2_4_2 {S0 : Nat → Int → Int} {ws : List Int} {S : Nat → Int → Int} {x8 x9 x10 : Int} (hP : rxPLW2 S0 ws) (hin : bx_same rxL (bx_mdl rxC242.2.2.1) S0 S) (I0 : bx_Inv rxL S) (hinv : rxILW2_4 S0 ws S) (l8 : 0 ≤ x8) (u8 : x8 ≤ 0) (l9 : 3 ≤ x9) (u9 : x9 ≤ 3) (l10 : 59 ≤ x10) (u10 : x10 ≤ 59) (e2 : S 480 14 = x8) (e1 : S 480 11 = x9) (e0 : S 480 12 = x10) : (True) ∧ (True) ∧ rxILW2_6 S0 ws S ∧ rxmLW2_6 S0 ws S < rxmLW2_4 S0 ws S := by
  obtain ⟨hI, hx⟩ := hinv
  obtain ⟨a_, b_, c_, d_⟩ := rxc242_4_2 hP hin I0 hI l8 u8 l9 u9 l10 u10 e2 e1 e0
  exact ⟨a_, b_, ⟨c_, trivial⟩, d_⟩
theorem rxgLW2_4_2 {X : (Nat → Int → Int) → Prop} {S0 : Nat → Int → Int} {ws : List Int} (hP : rxPLW2 S0 ws) : bx_obC rxL X S0 rxC242.2.2.1 (rxILW2 S0 ws) (rxmLW2 S0 ws) 4 rxzLW2_4 rxoLW2_4_2 := by
  intro S S_p r r_p hinv hX hin hsm_ hseg
  obtain ⟨I0, I1, h0_, hr_, b_, f_, d_⟩ := bx_cl (evs := [(0, (0, 480), (0, 12), .inr (1, (10, 0))), (0, (0, 480), (0, 11), .inr (0, (9, 0))), (0, (0, 480), (0, 14), .inr (0, (8, 0)))]) (fvs := []) hseg (by decide +kernel) (by decide +kernel)
  have hinv : rxILW2_4 S0 ws S := hinv
  obtain ⟨⟨l8, u8⟩, ⟨l9, u9⟩, ⟨l10, u10⟩, -⟩ := b_
  obtain ⟨e0, ⟨e1, ⟨e2, w_⟩⟩⟩ := d_
  subst w_
  have g := rxcLW2_4_2 hP hin I0 hinv l8 u8 l9 u9 l10 u10 e2 e1 e0
  refine ⟨bx_narP_ok (l := []) g.1, bx_nfP_ok h0_ (fvs := []) (by decide +kernel) g.2.1, ?_, ?_⟩
  · show rxILW2_6 S0 ws S_p
    exact g.2.2.1
  · show rxmLW2_6 S0 ws S_p < rxmLW2_4 S0 ws S_p
    exact g.2.2.2
theorem rxcLW2_4_3 {S0 : Nat → Int → Int} {ws : List Int} {S : Nat → Int → Int} {x8 : Int} (hP : rxPLW2 S0 ws) (hin : bx_same rxL (bx_mdl rxC242.2.2.1) S0 S) (I0 : bx_Inv rxL S) (hinv : rxILW2_4 S0 ws S) (l8 : 1 ≤ x8) (u8 : x8 ≤ 1) (f0 : x8 ≠ 0) (e0 : S 480 14 = x8) : (True) ∧ (True) ∧ rxILW2_10 S0 ws S ∧ rxmLW2_10 S0 ws S < rxmLW2_4 S0 ws S := by
  obtain ⟨hI, hx⟩ := hinv
  obtain ⟨a_, b_, c_, d_⟩ := rxc242_4_3 hP hin I0 hI l8 u8 f0 e0
  exact ⟨a_, b_, ⟨c_, trivial⟩, d_⟩
theorem rxgLW2_4_3 {X : (Nat → Int → Int) → Prop} {S0 : Nat → Int → Int} {ws : List Int} (hP : rxPLW2 S0 ws) : bx_obC rxL X S0 rxC242.2.2.1 (rxILW2 S0 ws) (rxmLW2 S0 ws) 4 rxzLW2_4 rxoLW2_4_3 := by
  intro S S_p r r_p hinv hX hin hsm_ hseg
  obtain ⟨I0, I1, h0_, hr_, b_, f_, d_⟩ := bx_cl (evs := [(0, (0, 480), (0, 14), .inr (0, (8, 0)))]) (fvs := [(3, (8, 0), (0, 0), (0, 0))]) hseg (by decide +kernel) (by decide +kernel)
  have hinv : rxILW2_4 S0 ws S := hinv
  obtain ⟨⟨l8, u8⟩, -⟩ := b_
  obtain ⟨f0, -⟩ := f_
  obtain ⟨e0, w_⟩ := d_
  subst w_
  have g := rxcLW2_4_3 hP hin I0 hinv l8 u8 f0 e0
  refine ⟨bx_narP_ok (l := []) g.1, bx_nfP_ok h0_ (fvs := []) (by decide +kernel) g.2.1, ?_, ?_⟩
  · show rxILW2_10 S0 ws S_p
    exact g.2.2.1
  · show rxmLW2_10 S0 ws S_p < rxmLW2_4 S0 ws S_p
    exact g.2.2.2
theorem rxcLW2_5_0 {S0 : Nat → Int → Int} {ws : List Int} {S : Nat → Int → Int} {x8 x9 : Int} (hP : rxPLW2 S0 ws) (hin : bx_same rxL (bx_mdl rxC242.2.2.1) S0 S) (I0 : bx_Inv rxL S) (hinv : rxILW2_5 S0 ws S) (l8 : 0 ≤ x8) (u8 : x8 ≤ 0) (l9 : 0 ≤ x9) (u9 : x9 ≤ 2) (f0 : x9 ≠ 3) (e1 : S 480 14 = x8) (e0 : S 480 11 = x9) : (True) ∧ (True) ∧ rxILW2_10 S0 ws S ∧ rxmLW2_10 S0 ws S < rxmLW2_5 S0 ws S := by
  obtain ⟨hI, hx⟩ := hinv
  obtain ⟨a_, b_, c_, d_⟩ := rxc242_5_0 hP hin I0 hI l8 u8 l9 u9 f0 e1 e0
  exact ⟨a_, b_, ⟨c_, trivial⟩, d_⟩
theorem rxgLW2_5_0 {X : (Nat → Int → Int) → Prop} {S0 : Nat → Int → Int} {ws : List Int} (hP : rxPLW2 S0 ws) : bx_obC rxL X S0 rxC242.2.2.1 (rxILW2 S0 ws) (rxmLW2 S0 ws) 5 rxzLW2_5 rxoLW2_5_0 := by
  intro S S_p r r_p hinv hX hin hsm_ hseg
  obtain ⟨I0, I1, h0_, hr_, b_, f_, d_⟩ := bx_cl (evs := [(0, (0, 480), (0, 11), .inr (0, (9, 0))), (0, (0, 480), (0, 14), .inr (0, (8, 0)))]) (fvs := [(3, (9, 0), (0, 3), (0, 0))]) hseg (by decide +kernel) (by decide +kernel)
  have hinv : rxILW2_5 S0 ws S := hinv
  obtain ⟨⟨l8, u8⟩, ⟨l9, u9⟩, -⟩ := b_
  obtain ⟨f0, -⟩ := f_
  obtain ⟨e0, ⟨e1, w_⟩⟩ := d_
  subst w_
  have g := rxcLW2_5_0 hP hin I0 hinv l8 u8 l9 u9 f0 e1 e0
  refine ⟨bx_narP_ok (l := []) g.1, bx_nfP_ok h0_ (fvs := []) (by decide +kernel) g.2.1, ?_, ?_⟩
  · show rxILW2_10 S0 ws S_p
    exact g.2.2.1
  · show rxmLW2_10 S0 ws S_p < rxmLW2_5 S0 ws S_p
    exact g.2.2.2
theorem rxcLW2_5_1 {S0 : Nat → Int → Int} {ws : List Int} {S : Nat → Int → Int} {x8 x9 x10 : Int} (hP : rxPLW2 S0 ws) (hin : bx_same rxL (bx_mdl rxC242.2.2.1) S0 S) (I0 : bx_Inv rxL S) (hinv : rxILW2_5 S0 ws S) (l8 : 0 ≤ x8) (u8 : x8 ≤ 0) (l9 : 3 ≤ x9) (u9 : x9 ≤ 3) (l10 : (-9223372036854775808) ≤ x10) (u10 : x10 ≤ 9223372036854775807) (f0 : x10 ≠ 59) (e2 : S 480 14 = x8) (e1 : S 480 11 = x9) (e0 : S 480 12 = x10) : (True) ∧ (True) ∧ rxILW2_10 S0 ws S ∧ rxmLW2_10 S0 ws S < rxmLW2_5 S0 ws S := by
  obtain ⟨hI, hx⟩ := hinv
  obtain ⟨a_, b_, c_, d_⟩ := rxc242_5_1 hP hin I0 hI l8 u8 l9 u9 l10 u10 f0 e2 e1 e0
  exact ⟨a_, b_, ⟨c_, trivial⟩, d_⟩
theorem rxgLW2_5_1 {X : (Nat → Int → Int) → Prop} {S0 : Nat → Int → Int} {ws : List Int} (hP : rxPLW2 S0 ws) : bx_obC rxL X S0 rxC242.2.2.1 (rxILW2 S0 ws) (rxmLW2 S0 ws) 5 rxzLW2_5 rxoLW2_5_1 := by
  intro S S_p r r_p hinv hX hin hsm_ hseg
  obtain ⟨I0, I1, h0_, hr_, b_, f_, d_⟩ := bx_cl (evs := [(0, (0, 480), (0, 12), .inr (1, (10, 0))), (0, (0, 480), (0, 11), .inr (0, (9, 0))), (0, (0, 480), (0, 14), .inr (0, (8, 0)))]) (fvs := [(3, (10, 0), (0, 59), (0, 0))]) hseg (by decide +kernel) (by decide +kernel)
  have hinv : rxILW2_5 S0 ws S := hinv
  obtain ⟨⟨l8, u8⟩, ⟨l9, u9⟩, ⟨l10, u10⟩, -⟩ := b_
  obtain ⟨f0, -⟩ := f_
  obtain ⟨e0, ⟨e1, ⟨e2, w_⟩⟩⟩ := d_
  subst w_
  have g := rxcLW2_5_1 hP hin I0 hinv l8 u8 l9 u9 l10 u10 f0 e2 e1 e0
  refine ⟨bx_narP_ok (l := []) g.1, bx_nfP_ok h0_ (fvs := []) (by decide +kernel) g.2.1, ?_, ?_⟩
  · show rxILW2_10 S0 ws S_p
    exact g.2.2.1
  · show rxmLW2_10 S0 ws S_p < rxmLW2_5 S0 ws S_p
    exact g.2.2.2
theorem rxcLW2_5_2 {S0 : Nat → Int → Int} {ws : List Int} {S : Nat → Int → Int} {x8 x9 x10 : Int} (hP : rxPLW2 S0 ws) (hin : bx_same rxL (bx_mdl rxC242.2.2.1) S0 S) (I0 : bx_Inv rxL S) (hinv : rxILW2_5 S0 ws S) (l8 : 0 ≤ x8) (u8 : x8 ≤ 0) (l9 : 3 ≤ x9) (u9 : x9 ≤ 3) (l10 : 59 ≤ x10) (u10 : x10 ≤ 59) (e2 : S 480 14 = x8) (e1 : S 480 11 = x9) (e0 : S 480 12 = x10) : (True) ∧ (True) ∧ rxILW2_6 S0 ws S ∧ rxmLW2_6 S0 ws S < rxmLW2_5 S0 ws S := by
  obtain ⟨hI, hx⟩ := hinv
  obtain ⟨a_, b_, c_, d_⟩ := rxc242_5_2 hP hin I0 hI l8 u8 l9 u9 l10 u10 e2 e1 e0
  exact ⟨a_, b_, ⟨c_, trivial⟩, d_⟩
theorem rxgLW2_5_2 {X : (Nat → Int → Int) → Prop} {S0 : Nat → Int → Int} {ws : List Int} (hP : rxPLW2 S0 ws) : bx_obC rxL X S0 rxC242.2.2.1 (rxILW2 S0 ws) (rxmLW2 S0 ws) 5 rxzLW2_5 rxoLW2_5_2 := by
  intro S S_p r r_p hinv hX hin hsm_ hseg
  obtain ⟨I0, I1, h0_, hr_, b_, f_, d_⟩ := bx_cl (evs := [(0, (0, 480), (0, 12), .inr (1, (10, 0))), (0, (0, 480), (0, 11), .inr (0, (9, 0))), (0, (0, 480), (0, 14), .inr (0, (8, 0)))]) (fvs := []) hseg (by decide +kernel) (by decide +kernel)
  have hinv : rxILW2_5 S0 ws S := hinv
  obtain ⟨⟨l8, u8⟩, ⟨l9, u9⟩, ⟨l10, u10⟩, -⟩ := b_
  obtain ⟨e0, ⟨e1, ⟨e2, w_⟩⟩⟩ := d_
  subst w_
  have g := rxcLW2_5_2 hP hin I0 hinv l8 u8 l9 u9 l10 u10 e2 e1 e0
  refine ⟨bx_narP_ok (l := []) g.1, bx_nfP_ok h0_ (fvs := []) (by decide +kernel) g.2.1, ?_, ?_⟩
  · show rxILW2_6 S0 ws S_p
    exact g.2.2.1
  · show rxmLW2_6 S0 ws S_p < rxmLW2_5 S0 ws S_p
    exact g.2.2.2
theorem rxcLW2_5_3 {S0 : Nat → Int → Int} {ws : List Int} {S : Nat → Int → Int} {x8 : Int} (hP : rxPLW2 S0 ws) (hin : bx_same rxL (bx_mdl rxC242.2.2.1) S0 S) (I0 : bx_Inv rxL S) (hinv : rxILW2_5 S0 ws S) (l8 : 1 ≤ x8) (u8 : x8 ≤ 1) (f0 : x8 ≠ 0) (e0 : S 480 14 = x8) : (True) ∧ (True) ∧ rxILW2_10 S0 ws S ∧ rxmLW2_10 S0 ws S < rxmLW2_5 S0 ws S := by
  obtain ⟨hI, hx⟩ := hinv
  obtain ⟨a_, b_, c_, d_⟩ := rxc242_5_3 hP hin I0 hI l8 u8 f0 e0
  exact ⟨a_, b_, ⟨c_, trivial⟩, d_⟩
theorem rxgLW2_5_3 {X : (Nat → Int → Int) → Prop} {S0 : Nat → Int → Int} {ws : List Int} (hP : rxPLW2 S0 ws) : bx_obC rxL X S0 rxC242.2.2.1 (rxILW2 S0 ws) (rxmLW2 S0 ws) 5 rxzLW2_5 rxoLW2_5_3 := by
  intro S S_p r r_p hinv hX hin hsm_ hseg
  obtain ⟨I0, I1, h0_, hr_, b_, f_, d_⟩ := bx_cl (evs := [(0, (0, 480), (0, 14), .inr (0, (8, 0)))]) (fvs := [(3, (8, 0), (0, 0), (0, 0))]) hseg (by decide +kernel) (by decide +kernel)
  have hinv : rxILW2_5 S0 ws S := hinv
  obtain ⟨⟨l8, u8⟩, -⟩ := b_
  obtain ⟨f0, -⟩ := f_
  obtain ⟨e0, w_⟩ := d_
  subst w_
  have g := rxcLW2_5_3 hP hin I0 hinv l8 u8 f0 e0
  refine ⟨bx_narP_ok (l := []) g.1, bx_nfP_ok h0_ (fvs := []) (by decide +kernel) g.2.1, ?_, ?_⟩
  · show rxILW2_10 S0 ws S_p
    exact g.2.2.1
  · show rxmLW2_10 S0 ws S_p < rxmLW2_5 S0 ws S_p
    exact g.2.2.2
theorem rxcLW2_7_0 {S0 : Nat → Int → Int} {ws : List Int} {S : Nat → Int → Int} (hP : rxPLW2 S0 ws) (hin : bx_same rxL (bx_mdl rxC242.2.2.1) S0 S) (I0 : bx_Inv rxL S) (hinv : rxILW2_7 S0 ws S)  : (True) ∧ (True) ∧ rxILW2_8 S0 ws S ∧ rxmLW2_8 S0 ws S < rxmLW2_7 S0 ws S := by
  obtain ⟨hI, hx⟩ := hinv
  obtain ⟨a_, b_, c_, d_⟩ := rxc242_7_0 hP hin I0 hI
  exact ⟨a_, b_, ⟨c_, trivial⟩, d_⟩
theorem rxgLW2_7_0 {X : (Nat → Int → Int) → Prop} {S0 : Nat → Int → Int} {ws : List Int} (hP : rxPLW2 S0 ws) : bx_obC rxL X S0 rxC242.2.2.1 (rxILW2 S0 ws) (rxmLW2 S0 ws) 7 rxzLW2_7 rxoLW2_7_0 := by
  intro S S_p r r_p hinv hX hin hsm_ hseg
  obtain ⟨I0, I1, h0_, hr_, b_, f_, d_⟩ := bx_cl (evs := []) (fvs := []) hseg (by decide +kernel) (by decide +kernel)
  have hinv : rxILW2_7 S0 ws S := hinv
  have w_ := d_
  subst w_
  have g := rxcLW2_7_0 hP hin I0 hinv 
  refine ⟨bx_narP_ok (l := []) g.1, bx_nfP_ok h0_ (fvs := []) (by decide +kernel) g.2.1, ?_, ?_⟩
  · show rxILW2_8 S0 ws S_p
    exact g.2.2.1
  · show rxmLW2_8 S0 ws S_p < rxmLW2_7 S0 ws S_p
    exact g.2.2.2
theorem rxcLW2_9_0 {S0 : Nat → Int → Int} {ws : List Int} {S : Nat → Int → Int} (hP : rxPLW2 S0 ws) (hin : bx_same rxL (bx_mdl rxC242.2.2.1) S0 S) (I0 : bx_Inv rxL S) (hinv : rxILW2_9 S0 ws S)  : (True) ∧ (True) ∧ rxILW2_5 S0 ws S ∧ rxmLW2_5 S0 ws S < rxmLW2_9 S0 ws S := by
  obtain ⟨hI, hx⟩ := hinv
  obtain ⟨a_, b_, c_, d_⟩ := rxc242_9_0 hP hin I0 hI
  exact ⟨a_, b_, ⟨c_, trivial⟩, d_⟩
theorem rxgLW2_9_0 {X : (Nat → Int → Int) → Prop} {S0 : Nat → Int → Int} {ws : List Int} (hP : rxPLW2 S0 ws) : bx_obC rxL X S0 rxC242.2.2.1 (rxILW2 S0 ws) (rxmLW2 S0 ws) 9 rxzLW2_9 rxoLW2_9_0 := by
  intro S S_p r r_p hinv hX hin hsm_ hseg
  obtain ⟨I0, I1, h0_, hr_, b_, f_, d_⟩ := bx_cl (evs := []) (fvs := []) hseg (by decide +kernel) (by decide +kernel)
  have hinv : rxILW2_9 S0 ws S := hinv
  have w_ := d_
  subst w_
  have g := rxcLW2_9_0 hP hin I0 hinv 
  refine ⟨bx_narP_ok (l := []) g.1, bx_nfP_ok h0_ (fvs := []) (by decide +kernel) g.2.1, ?_, ?_⟩
  · show rxILW2_5 S0 ws S_p
    exact g.2.2.1
  · show rxmLW2_5 S0 ws S_p < rxmLW2_9 S0 ws S_p
    exact g.2.2.2
theorem rxcLW2_11_0 {S0 : Nat → Int → Int} {ws : List Int} {S : Nat → Int → Int} {x8 x9 : Int} (hP : rxPLW2 S0 ws) (hin : bx_same rxL (bx_mdl rxC242.2.2.1) S0 S) (I0 : bx_Inv rxL S) (hinv : rxILW2_11 S0 ws S) (l8 : 0 ≤ x8) (u8 : x8 ≤ 0) (l9 : 0 ≤ x9) (u9 : x9 ≤ 6) (e1 : S 480 14 = x8) (e0 : S 482 3 = x9) : ((0 ≤ x9 ∧ x9 ≤ 5) ∧ True) ∧ (True) ∧ rxILW2_12 S0 ws S x9 ∧ rxmLW2_12 S0 ws S x9 < rxmLW2_11 S0 ws S := by
  obtain ⟨hI, hx⟩ := hinv
  obtain ⟨a_, b_, c_, d_⟩ := rxc242_11_0 hP hin I0 hI l8 u8 l9 u9 e1 e0
  exact ⟨a_, b_, ⟨c_, hx⟩, d_⟩
theorem rxgLW2_11_0 {X : (Nat → Int → Int) → Prop} {S0 : Nat → Int → Int} {ws : List Int} (hP : rxPLW2 S0 ws) : bx_obC rxL X S0 rxC242.2.2.1 (rxILW2 S0 ws) (rxmLW2 S0 ws) 11 rxzLW2_11 rxoLW2_11_0 := by
  intro S S_p r r_p hinv hX hin hsm_ hseg
  obtain ⟨I0, I1, h0_, hr_, b_, f_, d_⟩ := bx_cl (evs := [(0, (0, 482), (0, 3), .inr (0, (9, 0))), (0, (0, 480), (0, 14), .inr (0, (8, 0)))]) (fvs := []) hseg (by decide +kernel) (by decide +kernel)
  have hinv : rxILW2_11 S0 ws S := hinv
  obtain ⟨⟨l8, u8⟩, ⟨l9, u9⟩, -⟩ := b_
  obtain ⟨e0, ⟨e1, w_⟩⟩ := d_
  subst w_
  have g := rxcLW2_11_0 hP hin I0 hinv l8 u8 l9 u9 e1 e0
  refine ⟨bx_narP_ok (l := [(9, 0, 5)]) g.1, bx_nfP_ok h0_ (fvs := []) (by decide +kernel) g.2.1, ?_, ?_⟩
  · show rxILW2_12 S0 ws S_p (bx_val [(0, 0), (0, 0), (0, 0), (0, 0), (0, 0), (0, 0), (0, 0), (0, 0), (9, 0)] r_p 8)
    rw [bx_val_x (n := 8) (e := (9, 0)) h0_ rfl]
    exact g.2.2.1
  · show rxmLW2_12 S0 ws S_p (bx_val [(0, 0), (0, 0), (0, 0), (0, 0), (0, 0), (0, 0), (0, 0), (0, 0), (9, 0)] r_p 8) < rxmLW2_11 S0 ws S_p
    rw [bx_val_x (n := 8) (e := (9, 0)) h0_ rfl]
    exact g.2.2.2
theorem rxdLW2_11_0 {S0 : Nat → Int → Int} {ws : List Int} {S : Nat → Int → Int} {x8 x9 x10 : Int} (hP : rxPLW2 S0 ws) (hin : bx_same rxL (bx_mdl rxC242.2.2.1) S0 S) (hin2 : bx_same rxL (bx_mdl rxC242.2.2.1) S (bx_up (bx_up S 480 1 ((-6))) 481 6 x10)) (I0 : bx_Inv rxL S) (I1 : bx_Inv rxL (bx_up (bx_up S 480 1 ((-6))) 481 6 x10)) (hinv : rxILW2_11 S0 ws S) (l8 : 1 ≤ x8) (u8 : x8 ≤ 1) (l9 : (-2147483648) ≤ x9) (u9 : x9 ≤ 2147483647) (l10 : (-2147483648) ≤ x10) (u10 : x10 ≤ 2147483647) (f0 : x8 ≠ 0) (e3 : S 480 14 = x8) (e1 : (bx_up S 480 1 ((-6))) 481 6 = x9) : (True) ∧ rxPSLW2 S0 ws (bx_up (bx_up S 480 1 ((-6))) 481 6 x10) (some ((-6))) := by
  obtain ⟨hI, hx⟩ := hinv
  obtain ⟨a_, c_⟩ := rxd242_11_0 hP hin hin2 I0 I1 hI l8 u8 l9 u9 l10 u10 f0 e3 e1
  exact ⟨a_, c_, ⟨True.intro, True.intro, ((bx_up_ne (by omega)).trans ((bx_up_ne (by omega)))).trans hx⟩⟩
theorem rxfLW2_11_0 {X : (Nat → Int → Int) → Prop} {S0 : Nat → Int → Int} {ws : List Int} (hP : rxPLW2 S0 ws) : bx_obE rxL X S0 rxC242.2.2.1 (rxILW2 S0 ws) (rxPSLW2 S0 ws) 11 rxzLW2_11 rxeLW2_11_0 := by
  intro S S_p r r_p hinv hX hin hsm_ hseg
  obtain ⟨I0, I1, h0_, hr_, b_, f_, d_⟩ := bx_cl (evs := [(1, (0, 481), (0, 6), .inr (0, (10, 0))), (0, (0, 481), (0, 6), .inr (0, (9, 0))), (1, (0, 480), (0, 1), .inr (0, (0, (-6)))), (0, (0, 480), (0, 14), .inr (0, (8, 0)))]) (fvs := [(3, (8, 0), (0, 0), (0, 0))]) hseg (by decide +kernel) (by decide +kernel)
  have hinv : rxILW2_11 S0 ws S := hinv
  obtain ⟨⟨l8, u8⟩, ⟨l9, u9⟩, ⟨l10, u10⟩, -⟩ := b_
  obtain ⟨f0, -⟩ := f_
  obtain ⟨T0, ⟨e1, ⟨T2, ⟨e3, w_⟩, w2⟩⟩, w0⟩ := d_
  subst w0
  subst w2
  subst w_
  have g := rxdLW2_11_0 hP hin hsm_ I0 I1 hinv l8 u8 l9 u9 l10 u10 f0 e3 e1
  refine ⟨bx_narP_ok (l := []) g.1, ?_⟩
  show rxPSLW2 S0 ws (bx_up (bx_up T2 480 (1) ((-6))) 481 (6) (r_p 10)) (some (bx_num r_p (.inr (0, (0, (-6))))))
  rw [bx_xv_ok h0_]
  exact g.2
theorem rxcLW2_12_0 {S0 : Nat → Int → Int} {ws : List Int} {S : Nat → Int → Int} {n3 x9 x10 : Int} (hP : rxPLW2 S0 ws) (hin : bx_same rxL (bx_mdl rxC242.2.2.1) S0 S) (I0 : bx_Inv rxL S) (hinv : rxILW2_12 S0 ws S n3) (l8 : 0 ≤ n3) (u8 : n3 ≤ 5) (l9 : 0 ≤ x9) (u9 : x9 ≤ 4500) (l10 : 0 ≤ x10) (u10 : x10 ≤ 12) (f0 : x9 = 900 * (n3)) (e0 : S 480 16 = x10) : (True) ∧ (True) ∧ rxILW2_13 S0 ws S (x9 + 780) (x9 + 781) x10 ∧ rxmLW2_13 S0 ws S (x9 + 780) (x9 + 781) x10 < rxmLW2_12 S0 ws S n3 := by
  obtain ⟨hI, hx⟩ := hinv
  obtain ⟨a_, b_, c_, d_⟩ := rxc242_12_0 hP hin I0 hI l8 u8 l9 u9 l10 u10 f0 e0
  exact ⟨a_, b_, ⟨c_, hx⟩, d_⟩
theorem rxgLW2_12_0 {X : (Nat → Int → Int) → Prop} {S0 : Nat → Int → Int} {ws : List Int} (hP : rxPLW2 S0 ws) : bx_obC rxL X S0 rxC242.2.2.1 (rxILW2 S0 ws) (rxmLW2 S0 ws) 12 rxzLW2_12 rxoLW2_12_0 := by
  intro S S_p r r_p hinv hX hin hsm_ hseg
  obtain ⟨I0, I1, h0_, hr_, b_, f_, d_⟩ := bx_cl (evs := [(0, (0, 480), (0, 16), .inr (0, (10, 0)))]) (fvs := [(4, (9, 0), (8, 0), (0, 900))]) hseg (by decide +kernel) (by decide +kernel)
  have hinv : rxILW2_12 S0 ws S (r 8) := hinv
  rw [← hr_ 8 (by decide)] at hinv
  obtain ⟨⟨l8, u8⟩, ⟨l9, u9⟩, ⟨l10, u10⟩, -⟩ := b_
  obtain ⟨f0, -⟩ := f_
  obtain ⟨e0, w_⟩ := d_
  subst w_
  have g := rxcLW2_12_0 hP hin I0 hinv l8 u8 l9 u9 l10 u10 f0 e0
  refine ⟨bx_narP_ok (l := []) g.1, bx_nfP_ok h0_ (fvs := []) (by decide +kernel) g.2.1, ?_, ?_⟩
  · show rxILW2_13 S0 ws S_p (bx_val [(0, 0), (0, 0), (0, 0), (0, 0), (0, 0), (0, 0), (0, 0), (0, 0), (9, 780), (9, 781), (10, 0)] r_p 8) (bx_val [(0, 0), (0, 0), (0, 0), (0, 0), (0, 0), (0, 0), (0, 0), (0, 0), (9, 780), (9, 781), (10, 0)] r_p 9) (bx_val [(0, 0), (0, 0), (0, 0), (0, 0), (0, 0), (0, 0), (0, 0), (0, 0), (9, 780), (9, 781), (10, 0)] r_p 10)
    rw [bx_val_x (n := 8) (e := (9, 780)) h0_ rfl, bx_val_x (n := 9) (e := (9, 781)) h0_ rfl, bx_val_x (n := 10) (e := (10, 0)) h0_ rfl]
    exact g.2.2.1
  · show rxmLW2_13 S0 ws S_p (bx_val [(0, 0), (0, 0), (0, 0), (0, 0), (0, 0), (0, 0), (0, 0), (0, 0), (9, 780), (9, 781), (10, 0)] r_p 8) (bx_val [(0, 0), (0, 0), (0, 0), (0, 0), (0, 0), (0, 0), (0, 0), (0, 0), (9, 780), (9, 781), (10, 0)] r_p 9) (bx_val [(0, 0), (0, 0), (0, 0), (0, 0), (0, 0), (0, 0), (0, 0), (0, 0), (9, 780), (9, 781), (10, 0)] r_p 10) < rxmLW2_12 S0 ws S_p (r 8)
    rw [bx_val_x (n := 8) (e := (9, 780)) h0_ rfl, bx_val_x (n := 9) (e := (9, 781)) h0_ rfl, bx_val_x (n := 10) (e := (10, 0)) h0_ rfl, ← hr_ 8 (by decide)]
    exact g.2.2.2
theorem rxcLW2_14_0 {S0 : Nat → Int → Int} {ws : List Int} {S : Nat → Int → Int} {base a v : Int} (hP : rxPLW2 S0 ws) (hin : bx_same rxL (bx_mdl rxC242.2.2.1) S0 S) (I0 : bx_Inv rxL S) (hinv : rxILW2_14 S0 ws S base a v) (l8 : 780 ≤ base) (u8 : base ≤ 5280) (l9 : 781 ≤ a) (u9 : a ≤ 5281) (l10 : 0 ≤ v) (u10 : v ≤ 12) : (True) ∧ (True) ∧ rxILW2_15 S0 ws S base 0 ∧ rxmLW2_15 S0 ws S base 0 < rxmLW2_14 S0 ws S base a v := by
  obtain ⟨hI, hx⟩ := hinv
  obtain ⟨a_, b_, c_, d_⟩ := rxc242_14_0 hP hin I0 hI l8 u8 l9 u9 l10 u10
  exact ⟨a_, b_, ⟨c_, hx⟩, d_⟩
theorem rxgLW2_14_0 {X : (Nat → Int → Int) → Prop} {S0 : Nat → Int → Int} {ws : List Int} (hP : rxPLW2 S0 ws) : bx_obC rxL X S0 rxC242.2.2.1 (rxILW2 S0 ws) (rxmLW2 S0 ws) 14 rxzLW2_14 rxoLW2_14_0 := by
  intro S S_p r r_p hinv hX hin hsm_ hseg
  obtain ⟨I0, I1, h0_, hr_, b_, f_, d_⟩ := bx_cl (evs := []) (fvs := []) hseg (by decide +kernel) (by decide +kernel)
  have hinv : rxILW2_14 S0 ws S (r 8) (r 9) (r 10) := hinv
  rw [← hr_ 8 (by decide), ← hr_ 9 (by decide), ← hr_ 10 (by decide)] at hinv
  obtain ⟨⟨l8, u8⟩, ⟨l9, u9⟩, ⟨l10, u10⟩, -⟩ := b_
  have w_ := d_
  subst w_
  have g := rxcLW2_14_0 hP hin I0 hinv l8 u8 l9 u9 l10 u10
  refine ⟨bx_narP_ok (l := []) g.1, bx_nfP_ok h0_ (fvs := []) (by decide +kernel) g.2.1, ?_, ?_⟩
  · show rxILW2_15 S0 ws S_p (bx_val [(0, 0), (0, 0), (0, 0), (0, 0), (0, 0), (0, 0), (0, 0), (0, 0), (8, 0), (0, 0)] r_p 8) (bx_val [(0, 0), (0, 0), (0, 0), (0, 0), (0, 0), (0, 0), (0, 0), (0, 0), (8, 0), (0, 0)] r_p 9)
    rw [bx_val_x (n := 8) (e := (8, 0)) h0_ rfl, bx_val_x (n := 9) (e := (0, 0)) h0_ rfl]
    exact g.2.2.1
  · show rxmLW2_15 S0 ws S_p (bx_val [(0, 0), (0, 0), (0, 0), (0, 0), (0, 0), (0, 0), (0, 0), (0, 0), (8, 0), (0, 0)] r_p 8) (bx_val [(0, 0), (0, 0), (0, 0), (0, 0), (0, 0), (0, 0), (0, 0), (0, 0), (8, 0), (0, 0)] r_p 9) < rxmLW2_14 S0 ws S_p (r 8) (r 9) (r 10)
    rw [bx_val_x (n := 8) (e := (8, 0)) h0_ rfl, bx_val_x (n := 9) (e := (0, 0)) h0_ rfl, ← hr_ 8 (by decide), ← hr_ 9 (by decide), ← hr_ 10 (by decide)]
    exact g.2.2.2
theorem rxcLW2_15_0 {S0 : Nat → Int → Int} {ws : List Int} {S : Nat → Int → Int} {base i x10 x11 x12 x13 : Int} (hP : rxPLW2 S0 ws) (hin : bx_same rxL (bx_mdl rxC242.2.2.1) S0 S) (I0 : bx_Inv rxL S) (hinv : rxILW2_15 S0 ws S base i) (l8 : 780 ≤ base) (u8 : base ≤ 5280) (l9 : 0 ≤ i) (u9 : i ≤ 95) (l10 : 0 ≤ x10) (u10 : x10 ≤ 12) (l11 : 1 ≤ x11) (u11 : x11 ≤ 96) (l12 : 782 ≤ x12) (u12 : x12 ≤ 5377) (l13 : 0 ≤ x13) (u13 : x13 ≤ 400) (f0 : x12 = base + 2 + i) (f1 : i < x11) (f2 : x11 = 8 * (x10)) (e1 : S 480 16 = x10) (e0 : S 486 i = x13) : (True) ∧ (True) ∧ rxILW2_16 S0 ws S base i x12 x13 ∧ rxmLW2_16 S0 ws S base i x12 x13 < rxmLW2_15 S0 ws S base i := by
  obtain ⟨hI, hx⟩ := hinv
  obtain ⟨a_, b_, c_, d_⟩ := rxc242_15_0 hP hin I0 hI l8 u8 l9 u9 l10 u10 l11 u11 l12 u12 l13 u13 f0 f1 f2 e1 e0
  exact ⟨a_, b_, ⟨c_, hx⟩, d_⟩
theorem rxgLW2_15_0 {X : (Nat → Int → Int) → Prop} {S0 : Nat → Int → Int} {ws : List Int} (hP : rxPLW2 S0 ws) : bx_obC rxL X S0 rxC242.2.2.1 (rxILW2 S0 ws) (rxmLW2 S0 ws) 15 rxzLW2_15 rxoLW2_15_0 := by
  intro S S_p r r_p hinv hX hin hsm_ hseg
  obtain ⟨I0, I1, h0_, hr_, b_, f_, d_⟩ := bx_cl (evs := [(0, (0, 486), (9, 0), .inr (0, (13, 0))), (0, (0, 480), (0, 16), .inr (0, (10, 0)))]) (fvs := [(5, (12, 0), (8, 2), (9, 0)), (0, (9, 0), (11, 0), (0, 0)), (4, (11, 0), (10, 0), (0, 8))]) hseg (by decide +kernel) (by decide +kernel)
  have hinv : rxILW2_15 S0 ws S (r 8) (r 9) := hinv
  rw [← hr_ 8 (by decide), ← hr_ 9 (by decide)] at hinv
  obtain ⟨⟨l8, u8⟩, ⟨l9, u9⟩, ⟨l10, u10⟩, ⟨l11, u11⟩, ⟨l12, u12⟩, ⟨l13, u13⟩, -⟩ := b_
  obtain ⟨f0, f1, f2, -⟩ := f_
  obtain ⟨e0, ⟨e1, w_⟩⟩ := d_
  subst w_
  have g := rxcLW2_15_0 hP hin I0 hinv l8 u8 l9 u9 l10 u10 l11 u11 l12 u12 l13 u13 f0 f1 f2 e1 e0
  refine ⟨bx_narP_ok (l := []) g.1, bx_nfP_ok h0_ (fvs := []) (by decide +kernel) g.2.1, ?_, ?_⟩
  · show rxILW2_16 S0 ws S_p (bx_val [(0, 0), (0, 0), (0, 0), (0, 0), (0, 0), (0, 0), (0, 0), (0, 0), (8, 0), (9, 0), (12, 0), (13, 0)] r_p 8) (bx_val [(0, 0), (0, 0), (0, 0), (0, 0), (0, 0), (0, 0), (0, 0), (0, 0), (8, 0), (9, 0), (12, 0), (13, 0)] r_p 9) (bx_val [(0, 0), (0, 0), (0, 0), (0, 0), (0, 0), (0, 0), (0, 0), (0, 0), (8, 0), (9, 0), (12, 0), (13, 0)] r_p 10) (bx_val [(0, 0), (0, 0), (0, 0), (0, 0), (0, 0), (0, 0), (0, 0), (0, 0), (8, 0), (9, 0), (12, 0), (13, 0)] r_p 11)
    rw [bx_val_x (n := 8) (e := (8, 0)) h0_ rfl, bx_val_x (n := 9) (e := (9, 0)) h0_ rfl, bx_val_x (n := 10) (e := (12, 0)) h0_ rfl, bx_val_x (n := 11) (e := (13, 0)) h0_ rfl]
    exact g.2.2.1
  · show rxmLW2_16 S0 ws S_p (bx_val [(0, 0), (0, 0), (0, 0), (0, 0), (0, 0), (0, 0), (0, 0), (0, 0), (8, 0), (9, 0), (12, 0), (13, 0)] r_p 8) (bx_val [(0, 0), (0, 0), (0, 0), (0, 0), (0, 0), (0, 0), (0, 0), (0, 0), (8, 0), (9, 0), (12, 0), (13, 0)] r_p 9) (bx_val [(0, 0), (0, 0), (0, 0), (0, 0), (0, 0), (0, 0), (0, 0), (0, 0), (8, 0), (9, 0), (12, 0), (13, 0)] r_p 10) (bx_val [(0, 0), (0, 0), (0, 0), (0, 0), (0, 0), (0, 0), (0, 0), (0, 0), (8, 0), (9, 0), (12, 0), (13, 0)] r_p 11) < rxmLW2_15 S0 ws S_p (r 8) (r 9)
    rw [bx_val_x (n := 8) (e := (8, 0)) h0_ rfl, bx_val_x (n := 9) (e := (9, 0)) h0_ rfl, bx_val_x (n := 10) (e := (12, 0)) h0_ rfl, bx_val_x (n := 11) (e := (13, 0)) h0_ rfl, ← hr_ 8 (by decide), ← hr_ 9 (by decide)]
    exact g.2.2.2
theorem rxcLW2_15_1 {S0 : Nat → Int → Int} {ws : List Int} {S : Nat → Int → Int} {base i x10 x11 : Int} (hP : rxPLW2 S0 ws) (hin : bx_same rxL (bx_mdl rxC242.2.2.1) S0 S) (I0 : bx_Inv rxL S) (hinv : rxILW2_15 S0 ws S base i) (l8 : 780 ≤ base) (u8 : base ≤ 5280) (l9 : 0 ≤ i) (u9 : i ≤ 96) (l10 : 0 ≤ x10) (u10 : x10 ≤ 12) (l11 : 0 ≤ x11) (u11 : x11 ≤ 96) (f0 : x11 ≤ i) (f1 : x11 = 8 * (x10)) (e0 : S 480 16 = x10) : (True) ∧ (True) ∧ rxILW2_18 S0 ws S base 0 ∧ rxmLW2_18 S0 ws S base 0 < rxmLW2_15 S0 ws S base i := by
  obtain ⟨hI, hx⟩ := hinv
  obtain ⟨a_, b_, c_, d_⟩ := rxc242_15_1 hP hin I0 hI l8 u8 l9 u9 l10 u10 l11 u11 f0 f1 e0
  exact ⟨a_, b_, ⟨c_, hx⟩, d_⟩
theorem rxgLW2_15_1 {X : (Nat → Int → Int) → Prop} {S0 : Nat → Int → Int} {ws : List Int} (hP : rxPLW2 S0 ws) : bx_obC rxL X S0 rxC242.2.2.1 (rxILW2 S0 ws) (rxmLW2 S0 ws) 15 rxzLW2_15 rxoLW2_15_1 := by
  intro S S_p r r_p hinv hX hin hsm_ hseg
  obtain ⟨I0, I1, h0_, hr_, b_, f_, d_⟩ := bx_cl (evs := [(0, (0, 480), (0, 16), .inr (0, (10, 0)))]) (fvs := [(1, (11, 0), (9, 0), (0, 0)), (4, (11, 0), (10, 0), (0, 8))]) hseg (by decide +kernel) (by decide +kernel)
  have hinv : rxILW2_15 S0 ws S (r 8) (r 9) := hinv
  rw [← hr_ 8 (by decide), ← hr_ 9 (by decide)] at hinv
  obtain ⟨⟨l8, u8⟩, ⟨l9, u9⟩, ⟨l10, u10⟩, ⟨l11, u11⟩, -⟩ := b_
  obtain ⟨f0, f1, -⟩ := f_
  obtain ⟨e0, w_⟩ := d_
  subst w_
  have g := rxcLW2_15_1 hP hin I0 hinv l8 u8 l9 u9 l10 u10 l11 u11 f0 f1 e0
  refine ⟨bx_narP_ok (l := []) g.1, bx_nfP_ok h0_ (fvs := []) (by decide +kernel) g.2.1, ?_, ?_⟩
  · show rxILW2_18 S0 ws S_p (bx_val [(0, 0), (0, 0), (0, 0), (0, 0), (0, 0), (0, 0), (0, 0), (0, 0), (8, 0), (0, 0)] r_p 8) (bx_val [(0, 0), (0, 0), (0, 0), (0, 0), (0, 0), (0, 0), (0, 0), (0, 0), (8, 0), (0, 0)] r_p 9)
    rw [bx_val_x (n := 8) (e := (8, 0)) h0_ rfl, bx_val_x (n := 9) (e := (0, 0)) h0_ rfl]
    exact g.2.2.1
  · show rxmLW2_18 S0 ws S_p (bx_val [(0, 0), (0, 0), (0, 0), (0, 0), (0, 0), (0, 0), (0, 0), (0, 0), (8, 0), (0, 0)] r_p 8) (bx_val [(0, 0), (0, 0), (0, 0), (0, 0), (0, 0), (0, 0), (0, 0), (0, 0), (8, 0), (0, 0)] r_p 9) < rxmLW2_15 S0 ws S_p (r 8) (r 9)
    rw [bx_val_x (n := 8) (e := (8, 0)) h0_ rfl, bx_val_x (n := 9) (e := (0, 0)) h0_ rfl, ← hr_ 8 (by decide), ← hr_ 9 (by decide)]
    exact g.2.2.2
theorem rxcLW2_17_0 {S0 : Nat → Int → Int} {ws : List Int} {S : Nat → Int → Int} {base i a v : Int} (hP : rxPLW2 S0 ws) (hin : bx_same rxL (bx_mdl rxC242.2.2.1) S0 S) (I0 : bx_Inv rxL S) (hinv : rxILW2_17 S0 ws S base i a v) (l8 : 780 ≤ base) (u8 : base ≤ 5280) (l9 : 0 ≤ i) (u9 : i ≤ 95) (l10 : 782 ≤ a) (u10 : a ≤ 5377) (l11 : 0 ≤ v) (u11 : v ≤ 400) : (True) ∧ (True) ∧ rxILW2_15 S0 ws S base (i + 1) ∧ rxmLW2_15 S0 ws S base (i + 1) < rxmLW2_17 S0 ws S base i a v := by
  obtain ⟨hI, hx⟩ := hinv
  obtain ⟨a_, b_, c_, d_⟩ := rxc242_17_0 hP hin I0 hI l8 u8 l9 u9 l10 u10 l11 u11
  exact ⟨a_, b_, ⟨c_, hx⟩, d_⟩
theorem rxgLW2_17_0 {X : (Nat → Int → Int) → Prop} {S0 : Nat → Int → Int} {ws : List Int} (hP : rxPLW2 S0 ws) : bx_obC rxL X S0 rxC242.2.2.1 (rxILW2 S0 ws) (rxmLW2 S0 ws) 17 rxzLW2_17 rxoLW2_17_0 := by
  intro S S_p r r_p hinv hX hin hsm_ hseg
  obtain ⟨I0, I1, h0_, hr_, b_, f_, d_⟩ := bx_cl (evs := []) (fvs := []) hseg (by decide +kernel) (by decide +kernel)
  have hinv : rxILW2_17 S0 ws S (r 8) (r 9) (r 10) (r 11) := hinv
  rw [← hr_ 8 (by decide), ← hr_ 9 (by decide), ← hr_ 10 (by decide), ← hr_ 11 (by decide)] at hinv
  obtain ⟨⟨l8, u8⟩, ⟨l9, u9⟩, ⟨l10, u10⟩, ⟨l11, u11⟩, -⟩ := b_
  have w_ := d_
  subst w_
  have g := rxcLW2_17_0 hP hin I0 hinv l8 u8 l9 u9 l10 u10 l11 u11
  refine ⟨bx_narP_ok (l := []) g.1, bx_nfP_ok h0_ (fvs := []) (by decide +kernel) g.2.1, ?_, ?_⟩
  · show rxILW2_15 S0 ws S_p (bx_val [(0, 0), (0, 0), (0, 0), (0, 0), (0, 0), (0, 0), (0, 0), (0, 0), (8, 0), (9, 1)] r_p 8) (bx_val [(0, 0), (0, 0), (0, 0), (0, 0), (0, 0), (0, 0), (0, 0), (0, 0), (8, 0), (9, 1)] r_p 9)
    rw [bx_val_x (n := 8) (e := (8, 0)) h0_ rfl, bx_val_x (n := 9) (e := (9, 1)) h0_ rfl]
    exact g.2.2.1
  · show rxmLW2_15 S0 ws S_p (bx_val [(0, 0), (0, 0), (0, 0), (0, 0), (0, 0), (0, 0), (0, 0), (0, 0), (8, 0), (9, 1)] r_p 8) (bx_val [(0, 0), (0, 0), (0, 0), (0, 0), (0, 0), (0, 0), (0, 0), (0, 0), (8, 0), (9, 1)] r_p 9) < rxmLW2_17 S0 ws S_p (r 8) (r 9) (r 10) (r 11)
    rw [bx_val_x (n := 8) (e := (8, 0)) h0_ rfl, bx_val_x (n := 9) (e := (9, 1)) h0_ rfl, ← hr_ 8 (by decide), ← hr_ 9 (by decide), ← hr_ 10 (by decide), ← hr_ 11 (by decide)]
    exact g.2.2.2
theorem rxcLW2_18_0 {S0 : Nat → Int → Int} {ws : List Int} {S : Nat → Int → Int} {base i x10 x11 x12 x13 : Int} (hP : rxPLW2 S0 ws) (hin : bx_same rxL (bx_mdl rxC242.2.2.1) S0 S) (I0 : bx_Inv rxL S) (hinv : rxILW2_18 S0 ws S base i) (l8 : 780 ≤ base) (u8 : base ≤ 5280) (l9 : 0 ≤ i) (u9 : i ≤ 399) (l10 : 1 ≤ x10) (u10 : x10 ≤ 400) (l11 : 0 ≤ x11) (u11 : x11 ≤ 798) (l12 : 878 ≤ x12) (u12 : x12 ≤ 6176) (l13 : 0 ≤ x13) (u13 : x13 ≤ 30) (f0 : x12 = base + 98 + x11) (f1 : x11 = 2 * (i)) (f2 : i < x10) (e1 : S 480 18 = x10) (e0 : S 487 i = x13) : (True) ∧ (True) ∧ rxILW2_19 S0 ws S base i x12 x13 ∧ rxmLW2_19 S0 ws S base i x12 x13 < rxmLW2_18 S0 ws S base i := by
  obtain ⟨hI, hx⟩ := hinv
  obtain ⟨a_, b_, c_, d_⟩ := rxc242_18_0 hP hin I0 hI l8 u8 l9 u9 l10 u10 l11 u11 l12 u12 l13 u13 f0 f1 f2 e1 e0
  exact ⟨a_, b_, ⟨c_, hx⟩, d_⟩
theorem rxgLW2_18_0 {X : (Nat → Int → Int) → Prop} {S0 : Nat → Int → Int} {ws : List Int} (hP : rxPLW2 S0 ws) : bx_obC rxL X S0 rxC242.2.2.1 (rxILW2 S0 ws) (rxmLW2 S0 ws) 18 rxzLW2_18 rxoLW2_18_0 := by
  intro S S_p r r_p hinv hX hin hsm_ hseg
  obtain ⟨I0, I1, h0_, hr_, b_, f_, d_⟩ := bx_cl (evs := [(0, (0, 487), (9, 0), .inr (0, (13, 0))), (0, (0, 480), (0, 18), .inr (0, (10, 0)))]) (fvs := [(5, (12, 0), (8, 98), (11, 0)), (4, (11, 0), (9, 0), (0, 2)), (0, (9, 0), (10, 0), (0, 0))]) hseg (by decide +kernel) (by decide +kernel)
  have hinv : rxILW2_18 S0 ws S (r 8) (r 9) := hinv
  rw [← hr_ 8 (by decide), ← hr_ 9 (by decide)] at hinv
  obtain ⟨⟨l8, u8⟩, ⟨l9, u9⟩, ⟨l10, u10⟩, ⟨l11, u11⟩, ⟨l12, u12⟩, ⟨l13, u13⟩, -⟩ := b_
  obtain ⟨f0, f1, f2, -⟩ := f_
  obtain ⟨e0, ⟨e1, w_⟩⟩ := d_
  subst w_
  have g := rxcLW2_18_0 hP hin I0 hinv l8 u8 l9 u9 l10 u10 l11 u11 l12 u12 l13 u13 f0 f1 f2 e1 e0
  refine ⟨bx_narP_ok (l := []) g.1, bx_nfP_ok h0_ (fvs := []) (by decide +kernel) g.2.1, ?_, ?_⟩
  · show rxILW2_19 S0 ws S_p (bx_val [(0, 0), (0, 0), (0, 0), (0, 0), (0, 0), (0, 0), (0, 0), (0, 0), (8, 0), (9, 0), (12, 0), (13, 0)] r_p 8) (bx_val [(0, 0), (0, 0), (0, 0), (0, 0), (0, 0), (0, 0), (0, 0), (0, 0), (8, 0), (9, 0), (12, 0), (13, 0)] r_p 9) (bx_val [(0, 0), (0, 0), (0, 0), (0, 0), (0, 0), (0, 0), (0, 0), (0, 0), (8, 0), (9, 0), (12, 0), (13, 0)] r_p 10) (bx_val [(0, 0), (0, 0), (0, 0), (0, 0), (0, 0), (0, 0), (0, 0), (0, 0), (8, 0), (9, 0), (12, 0), (13, 0)] r_p 11)
    rw [bx_val_x (n := 8) (e := (8, 0)) h0_ rfl, bx_val_x (n := 9) (e := (9, 0)) h0_ rfl, bx_val_x (n := 10) (e := (12, 0)) h0_ rfl, bx_val_x (n := 11) (e := (13, 0)) h0_ rfl]
    exact g.2.2.1
  · show rxmLW2_19 S0 ws S_p (bx_val [(0, 0), (0, 0), (0, 0), (0, 0), (0, 0), (0, 0), (0, 0), (0, 0), (8, 0), (9, 0), (12, 0), (13, 0)] r_p 8) (bx_val [(0, 0), (0, 0), (0, 0), (0, 0), (0, 0), (0, 0), (0, 0), (0, 0), (8, 0), (9, 0), (12, 0), (13, 0)] r_p 9) (bx_val [(0, 0), (0, 0), (0, 0), (0, 0), (0, 0), (0, 0), (0, 0), (0, 0), (8, 0), (9, 0), (12, 0), (13, 0)] r_p 10) (bx_val [(0, 0), (0, 0), (0, 0), (0, 0), (0, 0), (0, 0), (0, 0), (0, 0), (8, 0), (9, 0), (12, 0), (13, 0)] r_p 11) < rxmLW2_18 S0 ws S_p (r 8) (r 9)
    rw [bx_val_x (n := 8) (e := (8, 0)) h0_ rfl, bx_val_x (n := 9) (e := (9, 0)) h0_ rfl, bx_val_x (n := 10) (e := (12, 0)) h0_ rfl, bx_val_x (n := 11) (e := (13, 0)) h0_ rfl, ← hr_ 8 (by decide), ← hr_ 9 (by decide)]
    exact g.2.2.2
theorem rxcLW2_18_1 {S0 : Nat → Int → Int} {ws : List Int} {S : Nat → Int → Int} {base i x10 x11 : Int} (hP : rxPLW2 S0 ws) (hin : bx_same rxL (bx_mdl rxC242.2.2.1) S0 S) (I0 : bx_Inv rxL S) (hinv : rxILW2_18 S0 ws S base i) (l8 : 780 ≤ base) (u8 : base ≤ 5280) (l9 : 0 ≤ i) (u9 : i ≤ 400) (l10 : 0 ≤ x10) (u10 : x10 ≤ 400) (l11 : 0 ≤ x11) (u11 : x11 ≤ 6) (f0 : x10 ≤ i) (e1 : S 480 18 = x10) (e0 : S 482 3 = x11) : ((0 ≤ x11 ∧ x11 ≤ 5) ∧ True) ∧ (True) ∧ rxILW2_23 S0 ws S x11 ∧ rxmLW2_23 S0 ws S x11 < rxmLW2_18 S0 ws S base i := by
  obtain ⟨hI, hx⟩ := hinv
  obtain ⟨a_, b_, c_, d_⟩ := rxc242_18_1 hP hin I0 hI l8 u8 l9 u9 l10 u10 l11 u11 f0 e1 e0
  exact ⟨a_, b_, ⟨c_, hx⟩, d_⟩
theorem rxgLW2_18_1 {X : (Nat → Int → Int) → Prop} {S0 : Nat → Int → Int} {ws : List Int} (hP : rxPLW2 S0 ws) : bx_obC rxL X S0 rxC242.2.2.1 (rxILW2 S0 ws) (rxmLW2 S0 ws) 18 rxzLW2_18 rxoLW2_18_1 := by
  intro S S_p r r_p hinv hX hin hsm_ hseg
  obtain ⟨I0, I1, h0_, hr_, b_, f_, d_⟩ := bx_cl (evs := [(0, (0, 482), (0, 3), .inr (0, (11, 0))), (0, (0, 480), (0, 18), .inr (0, (10, 0)))]) (fvs := [(1, (10, 0), (9, 0), (0, 0))]) hseg (by decide +kernel) (by decide +kernel)
  have hinv : rxILW2_18 S0 ws S (r 8) (r 9) := hinv
  rw [← hr_ 8 (by decide), ← hr_ 9 (by decide)] at hinv
  obtain ⟨⟨l8, u8⟩, ⟨l9, u9⟩, ⟨l10, u10⟩, ⟨l11, u11⟩, -⟩ := b_
  obtain ⟨f0, -⟩ := f_
  obtain ⟨e0, ⟨e1, w_⟩⟩ := d_
  subst w_
  have g := rxcLW2_18_1 hP hin I0 hinv l8 u8 l9 u9 l10 u10 l11 u11 f0 e1 e0
  refine ⟨bx_narP_ok (l := [(11, 0, 5)]) g.1, bx_nfP_ok h0_ (fvs := []) (by decide +kernel) g.2.1, ?_, ?_⟩
  · show rxILW2_23 S0 ws S_p (bx_val [(0, 0), (0, 0), (0, 0), (0, 0), (0, 0), (0, 0), (0, 0), (0, 0), (11, 0)] r_p 8)
    rw [bx_val_x (n := 8) (e := (11, 0)) h0_ rfl]
    exact g.2.2.1
  · show rxmLW2_23 S0 ws S_p (bx_val [(0, 0), (0, 0), (0, 0), (0, 0), (0, 0), (0, 0), (0, 0), (0, 0), (11, 0)] r_p 8) < rxmLW2_18 S0 ws S_p (r 8) (r 9)
    rw [bx_val_x (n := 8) (e := (11, 0)) h0_ rfl, ← hr_ 8 (by decide), ← hr_ 9 (by decide)]
    exact g.2.2.2
theorem rxcLW2_20_0 {S0 : Nat → Int → Int} {ws : List Int} {S : Nat → Int → Int} {base i a v x12 x13 x14 : Int} (hP : rxPLW2 S0 ws) (hin : bx_same rxL (bx_mdl rxC242.2.2.1) S0 S) (I0 : bx_Inv rxL S) (hinv : rxILW2_20 S0 ws S base i a v) (l8 : 780 ≤ base) (u8 : base ≤ 5280) (l9 : 0 ≤ i) (u9 : i ≤ 399) (l10 : 878 ≤ a) (u10 : a ≤ 6176) (l11 : 0 ≤ v) (u11 : v ≤ 30) (l12 : 0 ≤ x12) (u12 : x12 ≤ 798) (l13 : 878 ≤ x13) (u13 : x13 ≤ 6176) (l14 : 0 ≤ x14) (u14 : x14 ≤ 1000) (f0 : x13 = base + 98 + x12) (f1 : x12 = 2 * (i)) (e0 : S 488 i = x14) : (True) ∧ (True) ∧ rxILW2_21 S0 ws S base i (x13 + 1) x14 ∧ rxmLW2_21 S0 ws S base i (x13 + 1) x14 < rxmLW2_20 S0 ws S base i a v := by
  obtain ⟨hI, hx⟩ := hinv
  obtain ⟨a_, b_, c_, d_⟩ := rxc242_20_0 hP hin I0 hI l8 u8 l9 u9 l10 u10 l11 u11 l12 u12 l13 u13 l14 u14 f0 f1 e0
  exact ⟨a_, b_, ⟨c_, hx⟩, d_⟩
theorem rxgLW2_20_0 {X : (Nat → Int → Int) → Prop} {S0 : Nat → Int → Int} {ws : List Int} (hP : rxPLW2 S0 ws) : bx_obC rxL X S0 rxC242.2.2.1 (rxILW2 S0 ws) (rxmLW2 S0 ws) 20 rxzLW2_20 rxoLW2_20_0 := by
  intro S S_p r r_p hinv hX hin hsm_ hseg
  obtain ⟨I0, I1, h0_, hr_, b_, f_, d_⟩ := bx_cl (evs := [(0, (0, 488), (9, 0), .inr (0, (14, 0)))]) (fvs := [(5, (13, 0), (8, 98), (12, 0)), (4, (12, 0), (9, 0), (0, 2))]) hseg (by decide +kernel) (by decide +kernel)
  have hinv : rxILW2_20 S0 ws S (r 8) (r 9) (r 10) (r 11) := hinv
  rw [← hr_ 8 (by decide), ← hr_ 9 (by decide), ← hr_ 10 (by decide), ← hr_ 11 (by decide)] at hinv
  obtain ⟨⟨l8, u8⟩, ⟨l9, u9⟩, ⟨l10, u10⟩, ⟨l11, u11⟩, ⟨l12, u12⟩, ⟨l13, u13⟩, ⟨l14, u14⟩, -⟩ := b_
  obtain ⟨f0, f1, -⟩ := f_
  obtain ⟨e0, w_⟩ := d_
  subst w_
  have g := rxcLW2_20_0 hP hin I0 hinv l8 u8 l9 u9 l10 u10 l11 u11 l12 u12 l13 u13 l14 u14 f0 f1 e0
  refine ⟨bx_narP_ok (l := []) g.1, bx_nfP_ok h0_ (fvs := []) (by decide +kernel) g.2.1, ?_, ?_⟩
  · show rxILW2_21 S0 ws S_p (bx_val [(0, 0), (0, 0), (0, 0), (0, 0), (0, 0), (0, 0), (0, 0), (0, 0), (8, 0), (9, 0), (13, 1), (14, 0)] r_p 8) (bx_val [(0, 0), (0, 0), (0, 0), (0, 0), (0, 0), (0, 0), (0, 0), (0, 0), (8, 0), (9, 0), (13, 1), (14, 0)] r_p 9) (bx_val [(0, 0), (0, 0), (0, 0), (0, 0), (0, 0), (0, 0), (0, 0), (0, 0), (8, 0), (9, 0), (13, 1), (14, 0)] r_p 10) (bx_val [(0, 0), (0, 0), (0, 0), (0, 0), (0, 0), (0, 0), (0, 0), (0, 0), (8, 0), (9, 0), (13, 1), (14, 0)] r_p 11)
    rw [bx_val_x (n := 8) (e := (8, 0)) h0_ rfl, bx_val_x (n := 9) (e := (9, 0)) h0_ rfl, bx_val_x (n := 10) (e := (13, 1)) h0_ rfl, bx_val_x (n := 11) (e := (14, 0)) h0_ rfl]
    exact g.2.2.1
  · show rxmLW2_21 S0 ws S_p (bx_val [(0, 0), (0, 0), (0, 0), (0, 0), (0, 0), (0, 0), (0, 0), (0, 0), (8, 0), (9, 0), (13, 1), (14, 0)] r_p 8) (bx_val [(0, 0), (0, 0), (0, 0), (0, 0), (0, 0), (0, 0), (0, 0), (0, 0), (8, 0), (9, 0), (13, 1), (14, 0)] r_p 9) (bx_val [(0, 0), (0, 0), (0, 0), (0, 0), (0, 0), (0, 0), (0, 0), (0, 0), (8, 0), (9, 0), (13, 1), (14, 0)] r_p 10) (bx_val [(0, 0), (0, 0), (0, 0), (0, 0), (0, 0), (0, 0), (0, 0), (0, 0), (8, 0), (9, 0), (13, 1), (14, 0)] r_p 11) < rxmLW2_20 S0 ws S_p (r 8) (r 9) (r 10) (r 11)
    rw [bx_val_x (n := 8) (e := (8, 0)) h0_ rfl, bx_val_x (n := 9) (e := (9, 0)) h0_ rfl, bx_val_x (n := 10) (e := (13, 1)) h0_ rfl, bx_val_x (n := 11) (e := (14, 0)) h0_ rfl, ← hr_ 8 (by decide), ← hr_ 9 (by decide), ← hr_ 10 (by decide), ← hr_ 11 (by decide)]
    exact g.2.2.2
theorem rxcLW2_22_0 {S0 : Nat → Int → Int} {ws : List Int} {S : Nat → Int → Int} {base i a v : Int} (hP : rxPLW2 S0 ws) (hin : bx_same rxL (bx_mdl rxC242.2.2.1) S0 S) (I0 : bx_Inv rxL S) (hinv : rxILW2_22 S0 ws S base i a v) (l8 : 780 ≤ base) (u8 : base ≤ 5280) (l9 : 0 ≤ i) (u9 : i ≤ 399) (l10 : 879 ≤ a) (u10 : a ≤ 6177) (l11 : 0 ≤ v) (u11 : v ≤ 1000) : (True) ∧ (True) ∧ rxILW2_18 S0 ws S base (i + 1) ∧ rxmLW2_18 S0 ws S base (i + 1) < rxmLW2_22 S0 ws S base i a v := by
  obtain ⟨hI, hx⟩ := hinv
  obtain ⟨a_, b_, c_, d_⟩ := rxc242_22_0 hP hin I0 hI l8 u8 l9 u9 l10 u10 l11 u11
  exact ⟨a_, b_, ⟨c_, hx⟩, d_⟩
theorem rxgLW2_22_0 {X : (Nat → Int → Int) → Prop} {S0 : Nat → Int → Int} {ws : List Int} (hP : rxPLW2 S0 ws) : bx_obC rxL X S0 rxC242.2.2.1 (rxILW2 S0 ws) (rxmLW2 S0 ws) 22 rxzLW2_22 rxoLW2_22_0 := by
  intro S S_p r r_p hinv hX hin hsm_ hseg
  obtain ⟨I0, I1, h0_, hr_, b_, f_, d_⟩ := bx_cl (evs := []) (fvs := []) hseg (by decide +kernel) (by decide +kernel)
  have hinv : rxILW2_22 S0 ws S (r 8) (r 9) (r 10) (r 11) := hinv
  rw [← hr_ 8 (by decide), ← hr_ 9 (by decide), ← hr_ 10 (by decide), ← hr_ 11 (by decide)] at hinv
  obtain ⟨⟨l8, u8⟩, ⟨l9, u9⟩, ⟨l10, u10⟩, ⟨l11, u11⟩, -⟩ := b_
  have w_ := d_
  subst w_
  have g := rxcLW2_22_0 hP hin I0 hinv l8 u8 l9 u9 l10 u10 l11 u11
  refine ⟨bx_narP_ok (l := []) g.1, bx_nfP_ok h0_ (fvs := []) (by decide +kernel) g.2.1, ?_, ?_⟩
  · show rxILW2_18 S0 ws S_p (bx_val [(0, 0), (0, 0), (0, 0), (0, 0), (0, 0), (0, 0), (0, 0), (0, 0), (8, 0), (9, 1)] r_p 8) (bx_val [(0, 0), (0, 0), (0, 0), (0, 0), (0, 0), (0, 0), (0, 0), (0, 0), (8, 0), (9, 1)] r_p 9)
    rw [bx_val_x (n := 8) (e := (8, 0)) h0_ rfl, bx_val_x (n := 9) (e := (9, 1)) h0_ rfl]
    exact g.2.2.1
  · show rxmLW2_18 S0 ws S_p (bx_val [(0, 0), (0, 0), (0, 0), (0, 0), (0, 0), (0, 0), (0, 0), (0, 0), (8, 0), (9, 1)] r_p 8) (bx_val [(0, 0), (0, 0), (0, 0), (0, 0), (0, 0), (0, 0), (0, 0), (0, 0), (8, 0), (9, 1)] r_p 9) < rxmLW2_22 S0 ws S_p (r 8) (r 9) (r 10) (r 11)
    rw [bx_val_x (n := 8) (e := (8, 0)) h0_ rfl, bx_val_x (n := 9) (e := (9, 1)) h0_ rfl, ← hr_ 8 (by decide), ← hr_ 9 (by decide), ← hr_ 10 (by decide), ← hr_ 11 (by decide)]
    exact g.2.2.2
theorem rxdLW2_23_0 {S0 : Nat → Int → Int} {ws : List Int} {S : Nat → Int → Int} {n3 : Int} (hP : rxPLW2 S0 ws) (hin : bx_same rxL (bx_mdl rxC242.2.2.1) S0 S) (hin2 : bx_same rxL (bx_mdl rxC242.2.2.1) S (bx_up (bx_up S 482 3 (n3 + 1)) 480 1 0)) (I0 : bx_Inv rxL S) (I1 : bx_Inv rxL (bx_up (bx_up S 482 3 (n3 + 1)) 480 1 0)) (hinv : rxILW2_23 S0 ws S n3) (l8 : 0 ≤ n3) (u8 : n3 ≤ 5) : (True) ∧ rxPSLW2 S0 ws (bx_up (bx_up S 482 3 (n3 + 1)) 480 1 0) (some n3) := by
  obtain ⟨hI, hx⟩ := hinv
  obtain ⟨a_, c_⟩ := rxd242_23_0 hP hin hin2 I0 I1 hI l8 u8
  exact ⟨a_, c_, ⟨True.intro, True.intro, ((bx_up_ne (by omega)).trans ((bx_up_ne (by omega)))).trans hx⟩⟩
theorem rxfLW2_23_0 {X : (Nat → Int → Int) → Prop} {S0 : Nat → Int → Int} {ws : List Int} (hP : rxPLW2 S0 ws) : bx_obE rxL X S0 rxC242.2.2.1 (rxILW2 S0 ws) (rxPSLW2 S0 ws) 23 rxzLW2_23 rxeLW2_23_0 := by
  intro S S_p r r_p hinv hX hin hsm_ hseg
  obtain ⟨I0, I1, h0_, hr_, b_, f_, d_⟩ := bx_cl (evs := [(1, (0, 480), (0, 1), .inr (0, (0, 0))), (1, (0, 482), (0, 3), .inr (0, (8, 1)))]) (fvs := []) hseg (by decide +kernel) (by decide +kernel)
  have hinv : rxILW2_23 S0 ws S (r 8) := hinv
  rw [← hr_ 8 (by decide)] at hinv
  obtain ⟨⟨l8, u8⟩, -⟩ := b_
  obtain ⟨T0, ⟨T1, w_, w1⟩, w0⟩ := d_
  subst w0
  subst w1
  subst w_
  have g := rxdLW2_23_0 hP hin hsm_ I0 I1 hinv l8 u8
  refine ⟨bx_narP_ok (l := []) g.1, ?_⟩
  show rxPSLW2 S0 ws (bx_up (bx_up T1 482 (3) (r_p 8 + 1)) 480 (1) (0)) (some (bx_num r_p (.inr (0, (8, 0)))))
  rw [bx_xv_ok h0_]
  exact g.2
theorem rxgCLW2 {X : (Nat → Int → Int) → Prop} {S0 : Nat → Int → Int} {ws : List Int} (hP : rxPLW2 S0 ws) : bx_allI (fun i q => rxULW2 q = true ∨ bx_allP (fun o => bx_obC rxL X S0 rxC242.2.2.1 (rxILW2 S0 ws) (rxmLW2 S0 ws) i q.1 o) q.2.1) 0 rxYLW2 := ⟨Or.inr ⟨rxgLW2_0_0 hP, trivial⟩, Or.inl rfl, Or.inr ⟨rxgLW2_2_0 hP, trivial⟩, Or.inl rfl, Or.inr ⟨rxgLW2_4_0 hP, rxgLW2_4_1 hP, rxgLW2_4_2 hP, rxgLW2_4_3 hP, trivial⟩, Or.inr ⟨rxgLW2_5_0 hP, rxgLW2_5_1 hP, rxgLW2_5_2 hP, rxgLW2_5_3 hP, trivial⟩, Or.inl rfl, Or.inr ⟨rxgLW2_7_0 hP, trivial⟩, Or.inl rfl, Or.inr ⟨rxgLW2_9_0 hP, trivial⟩, Or.inl rfl, Or.inr ⟨rxgLW2_11_0 hP, trivial⟩, Or.inr ⟨rxgLW2_12_0 hP, trivial⟩, Or.inl rfl, Or.inr ⟨rxgLW2_14_0 hP, trivial⟩, Or.inr ⟨rxgLW2_15_0 hP, rxgLW2_15_1 hP, trivial⟩, Or.inl rfl, Or.inr ⟨rxgLW2_17_0 hP, trivial⟩, Or.inr ⟨rxgLW2_18_0 hP, rxgLW2_18_1 hP, trivial⟩, Or.inl rfl, Or.inr ⟨rxgLW2_20_0 hP, trivial⟩, Or.inl rfl, Or.inr ⟨rxgLW2_22_0 hP, trivial⟩, Or.inr trivial, trivial⟩
theorem rxgELW2 {X : (Nat → Int → Int) → Prop} {S0 : Nat → Int → Int} {ws : List Int} (hP : rxPLW2 S0 ws) : bx_allI (fun i q => rxULW2 q = true ∨ bx_allP (fun E => bx_obE rxL X S0 rxC242.2.2.1 (rxILW2 S0 ws) (rxPSLW2 S0 ws) i q.1 E) q.2.2) 0 rxYLW2 := ⟨Or.inr ⟨rxfLW2_0_0 hP, trivial⟩, Or.inl rfl, Or.inr trivial, Or.inl rfl, Or.inr trivial, Or.inr trivial, Or.inl rfl, Or.inr trivial, Or.inl rfl, Or.inr trivial, Or.inl rfl, Or.inr ⟨rxfLW2_11_0 hP, trivial⟩, Or.inr trivial, Or.inl rfl, Or.inr trivial, Or.inr trivial, Or.inl rfl, Or.inr trivial, Or.inr trivial, Or.inl rfl, Or.inr trivial, Or.inl rfl, Or.inr trivial, Or.inr ⟨rxfLW2_23_0 hP, trivial⟩, trivial⟩
theorem rxuLW2 {PX : State → Prop} {Dg : va_G} {A : Nat → Prop} {ad xa : Nat → Nat} {l : Launch} {X : (Nat → Int → Int) → Prop} (hPX : rx_PXOK rxNW A PX) (hX : ∀ S S1 : Nat → Int → Int, X S → bx_same rxL (bx_mdl rxC242.2.2.1) S S1 → X S1) (hQBX : bx_ConP rxG rxNW rxAO PX Dg rxL X vwCl A ad l rxM283 rxCBX rxPBX rxPSBX) (hQRL : bx_ConP rxG rxNW rxAO PX Dg rxL X vwCl A ad l rxM284 rxCRL rxPRL rxPSRL) (hQNX : bx_ConP rxG rxNW rxAO PX Dg rxL X vwCl A ad l rxM264 rxCNX rxPNX rxPSNX) (hQET2 : bx_ConP rxG rxNW rxAO PX Dg rxL X vwCl A ad l rxM285 rxCET2 rxPET2 rxPSET2) {S0 : Nat → Int → Int} {ws : List Int} (hP : rxPLW2 S0 ws) : ∀ (i : Nat) (q : bx_HE), rxYLW2[i]? = some q → rxULW2 q = true → ∀ {p : Program} {e : Env} {R : Room} {s : State} {m : MethodId} {args : Array Value} {below : List Frame} {meth : Method} {c : Code} {Q : State → Prop} {H0 : Heap}, rx_Fr rxG rxNW rxAO PX p s m args meth c rxM242 → (∀ q, H0.size ≤ q → A q) → H0 = s.heap → rxM242.2.2.2.2.2.2.1 ≤ R.cells → rxM242.2.2.2.2.2.2.2 ≤ R.slots → rxC242.2.2.2.1 ≤ R.frames → rxC242.2.2.2.1 * 40 ≤ R.locals → bx_Step p l e R s m args below meth c Q Dg rxL X vwCl A xa H0 ad rxM242 rxYLW2 (rxILW2 S0 ws) (rxmLW2 S0 ws) S0 rxC242.2.2.1 i q := by
  intro i q hq hus p e R s m args below meth c Q H0 hF hA hH0 hmc hms hd hdl
  match i, hq with
  | 0, hq =>
    cases hq
    exact absurd (show false = true from hus) Bool.false_ne_true
  | 1, hq =>
    cases hq
    exact rx_stepC (ins := .invokevirtual 388) (len := 3) (i_p := 2) (M_p := rxM283) (d := rxC242.2.2.2.1) (as := [.inr (3, (0, 480)), .inr (0, (0, 0))]) (t := []) (ct := rxCBX) hPX hF rfl hA hH0 hmc hms hd hdl (by decide +kernel) rfl rfl (by decide +kernel) (by decide +kernel) hQBX (by decide +kernel) rfl (Or.inl ⟨rfl, rfl, rfl⟩) (rxsLW2_1 hP)
  | 2, hq =>
    cases hq
    exact absurd (show false = true from hus) Bool.false_ne_true
  | 3, hq =>
    cases hq
    exact rx_stepC (ins := .invokevirtual 391) (len := 3) (i_p := 4) (M_p := rxM284) (d := rxC242.2.2.2.1) (as := [.inr (3, (0, 480))]) (t := []) (ct := rxCRL) hPX hF rfl hA hH0 hmc hms hd hdl (by decide +kernel) rfl rfl (by decide +kernel) (by decide +kernel) hQRL (by decide +kernel) rfl (Or.inl ⟨rfl, rfl, rfl⟩) (rxsLW2_3 hP)
  | 4, hq =>
    cases hq
    exact absurd (show false = true from hus) Bool.false_ne_true
  | 5, hq =>
    cases hq
    exact absurd (show false = true from hus) Bool.false_ne_true
  | 6, hq =>
    cases hq
    exact rx_stepC (ins := .invokevirtual 253) (len := 3) (i_p := 7) (M_p := rxM264) (d := rxC242.2.2.2.1) (as := [.inr (3, (0, 480))]) (t := []) (ct := rxCNX) hPX hF rfl hA hH0 hmc hms hd hdl (by decide +kernel) rfl rfl (by decide +kernel) (by decide +kernel) hQNX (by decide +kernel) rfl (Or.inl ⟨rfl, rfl, rfl⟩) (rxsLW2_6 hP)
  | 7, hq =>
    cases hq
    exact absurd (show false = true from hus) Bool.false_ne_true
  | 8, hq =>
    cases hq
    exact rx_stepC (ins := .invokevirtual 391) (len := 3) (i_p := 9) (M_p := rxM284) (d := rxC242.2.2.2.1) (as := [.inr (3, (0, 480))]) (t := []) (ct := rxCRL) hPX hF rfl hA hH0 hmc hms hd hdl (by decide +kernel) rfl rfl (by decide +kernel) (by decide +kernel) hQRL (by decide +kernel) rfl (Or.inl ⟨rfl, rfl, rfl⟩) (rxsLW2_8 hP)
  | 9, hq =>
    cases hq
    exact absurd (show false = true from hus) Bool.false_ne_true
  | 10, hq =>
    cases hq
    exact rx_stepC (ins := .invokevirtual 394) (len := 3) (i_p := 11) (M_p := rxM285) (d := rxC242.2.2.2.1) (as := [.inr (3, (0, 480))]) (t := []) (ct := rxCET2) hPX hF rfl hA hH0 hmc hms hd hdl (by decide +kernel) rfl rfl (by decide +kernel) (by decide +kernel) hQET2 (by decide +kernel) rfl (Or.inl ⟨rfl, rfl, rfl⟩) (rxsLW2_10 hP)
  | 11, hq =>
    cases hq
    exact absurd (show false = true from hus) Bool.false_ne_true
  | 12, hq =>
    cases hq
    exact absurd (show false = true from hus) Bool.false_ne_true
  | 13, hq =>
    cases hq
    exact rx_stepS (i_p := 14) (pl := 482) (a := 9) (b := 10) (n := 6180) (g := 63) (lo := 781) (hi := 5281) (ty := (0, 0, 12)) (t := []) hF (by decide +kernel) rfl rfl rfl rfl (by omega) (by omega) (by decide +kernel) rfl rfl (rxsLW2_13 hP hX)
  | 14, hq =>
    cases hq
    exact absurd (show false = true from hus) Bool.false_ne_true
  | 15, hq =>
    cases hq
    exact absurd (show false = true from hus) Bool.false_ne_true
  | 16, hq =>
    cases hq
    exact rx_stepS (i_p := 17) (pl := 482) (a := 10) (b := 11) (n := 6180) (g := 63) (lo := 782) (hi := 5377) (ty := (0, 0, 400)) (t := []) hF (by decide +kernel) rfl rfl rfl rfl (by omega) (by omega) (by decide +kernel) rfl rfl (rxsLW2_16 hP hX)
  | 17, hq =>
    cases hq
    exact absurd (show false = true from hus) Bool.false_ne_true
  | 18, hq =>
    cases hq
    exact absurd (show false = true from hus) Bool.false_ne_true
  | 19, hq =>
    cases hq
    exact rx_stepS (i_p := 20) (pl := 482) (a := 10) (b := 11) (n := 6180) (g := 63) (lo := 878) (hi := 6176) (ty := (0, 0, 30)) (t := []) hF (by decide +kernel) rfl rfl rfl rfl (by omega) (by omega) (by decide +kernel) rfl rfl (rxsLW2_19 hP hX)
  | 20, hq =>
    cases hq
    exact absurd (show false = true from hus) Bool.false_ne_true
  | 21, hq =>
    cases hq
    exact rx_stepS (i_p := 22) (pl := 482) (a := 10) (b := 11) (n := 6180) (g := 63) (lo := 879) (hi := 6177) (ty := (0, 0, 1000)) (t := []) hF (by decide +kernel) rfl rfl rfl rfl (by omega) (by omega) (by decide +kernel) rfl rfl (rxsLW2_21 hP hX)
  | 22, hq =>
    cases hq
    exact absurd (show false = true from hus) Bool.false_ne_true
  | 23, hq =>
    cases hq
    exact absurd (show false = true from hus) Bool.false_ne_true
  | n + 24, hq => cases hq
theorem rxQLW2 {PX : State → Prop} {Dg : va_G} {A : Nat → Prop} {ad xa : Nat → Nat} {l : Launch} {X : (Nat → Int → Int) → Prop} (hPX : rx_PXOK rxNW A PX) (hsl : ∀ s : State, PX s → ∀ o idx n : Nat, rxSl o idx = some n → ∃ tx : String, vk_R (rxNm o) idx tx (ad n) s)
    (hX : ∀ S S_p : Nat → Int → Int, X S → bx_same rxL (bx_mdl rxC242.2.2.1) S S_p → X S_p)
    (ih : ∀ (j2 : Nat) (ct2 : bx_Ct) (M2 : rx_Mt), ct2 ∈ rxCnE j2 → ct2.2.2.2.1 + 1 ≤ rxC242.2.2.2.1 → rxT.2.2.2.2.2 j2 = some M2 → bx_Con rxG rxNW rxAO PX Dg rxL X vwCl A ad l M2 ct2) (hQBX : bx_ConP rxG rxNW rxAO PX Dg rxL X vwCl A ad l rxM283 rxCBX rxPBX rxPSBX) (hQRL : bx_ConP rxG rxNW rxAO PX Dg rxL X vwCl A ad l rxM284 rxCRL rxPRL rxPSRL) (hQNX : bx_ConP rxG rxNW rxAO PX Dg rxL X vwCl A ad l rxM264 rxCNX rxPNX rxPSNX) (hQET2 : bx_ConP rxG rxNW rxAO PX Dg rxL X vwCl A ad l rxM285 rxCET2 rxPET2 rxPSET2) : bx_ConP rxG rxNW rxAO PX Dg rxL X vwCl A ad l rxM242 rxC242 rxPLW2 rxPSLW2 :=
  rxQof (xa := xa) (Cn := rxCnE) (f := 30000) (j := 242) (tab := rxYLW2) (us := rxULW2) hPX hsl hX ih rfl rxYcLW2 rxILW2 rxmLW2
    (fun S0 ws r I0 I ht0 ht as he he1 hX0 hI0 hP hs ha => by
      have e := he.symm.trans (show bx_ent0 rxNP rxC242.1 bx_I0 [] = some ([(0, 0), (0, 0), (0, 0), (0, 0), (0, 0), (0, 0), (0, 0), (0, 0)], [], [.inr (3, (0, 480))]) from rfl)
      cases e
      subst ha
      have h0 : r 0 = 0 := hs.1
      show rxILW2_0 S0 _ S0
      refine ⟨⟨rfl, ?_⟩, trivial⟩
      simp only [List.map_cons, List.map_nil, bx_xv_ok h0]
      rfl)
    (fun S0 ws hP => rxuLW2 (xa := xa) hPX hX hQBX hQRL hQNX hQET2 hP) (fun S0 ws hP => rxgCLW2 hP) (fun S0 ws hP => rxgELW2 hP)
def rzPT242 (S0 : Nat → Int → Int) (ws : List Int) (S : Nat → Int → Int) (w : Option Int) : Prop := True ∧ True ∧ S 480 8 = 0
set_option maxHeartbeats 1000000 in
theorem rzQ242 {PX : State → Prop} {Dg : va_G} {A : Nat → Prop} {ad : Nat → Nat} {l : Launch} (hPX : rx_PXOK rxNW A PX) (hsl : ∀ s : State, PX s → ∀ o idx n : Nat, rxSl o idx = some n → ∃ tx : String, vk_R (rxNm o) idx tx (ad n) s) : bx_ConP rxG rxNW rxAO PX Dg rxL rxX vwCl A ad l rxM242 rxC242 (fun _ _ => True) rzPT242 := by
  have qNX := rxQNX (PX := PX) (Dg := Dg) (A := A) (ad := ad) (xa := fun n => n) (l := l) (X := (fun _ => True)) hPX hsl (fun _ _ h _ => h) (fun _ _ _ h => absurd h List.not_mem_nil)
  have qBG := rxQBG (PX := PX) (Dg := Dg) (A := A) (ad := ad) (xa := fun n => n) (l := l) (X := (fun _ => True)) hPX hsl (fun _ _ h _ => h) (fun _ _ _ h => absurd h List.not_mem_nil) qNX
  have qBX := rxQBX (PX := PX) (Dg := Dg) (A := A) (ad := ad) (xa := fun n => n) (l := l) (X := (fun _ => True)) hPX hsl (fun _ _ h _ => h) (fun _ _ _ h => absurd h List.not_mem_nil) qBG
  have qMU := rxQMU (PX := PX) (Dg := Dg) (A := A) (ad := ad) (xa := fun n => n) (l := l) (X := (fun _ => True)) hPX hsl (fun _ _ h _ => h) (fun _ _ _ h => absurd h List.not_mem_nil) qNX
  have qPU := rxQPU (PX := PX) (Dg := Dg) (A := A) (ad := ad) (xa := fun n => n) (l := l) (X := (fun _ => True)) hPX hsl (fun _ _ h _ => h) (fun _ _ _ h => absurd h List.not_mem_nil)
  have qOB := rxQOB (PX := PX) (Dg := Dg) (A := A) (ad := ad) (xa := fun n => n) (l := l) (X := (fun _ => True)) hPX hsl (fun _ _ h _ => h) (fun _ _ _ h => absurd h List.not_mem_nil) qMU qPU
  have qPP := rxQPP (PX := PX) (Dg := Dg) (A := A) (ad := ad) (xa := fun n => n) (l := l) (X := (fun _ => True)) hPX hsl (fun _ _ h _ => h) (fun _ _ _ h => absurd h List.not_mem_nil)
  have qPA := rxQPA (PX := PX) (Dg := Dg) (A := A) (ad := ad) (xa := fun n => n) (l := l) (X := (fun _ => True)) hPX hsl (fun _ _ h _ => h) (fun _ _ _ h => absurd h List.not_mem_nil)
  have qEM := rxQEM (PX := PX) (Dg := Dg) (A := A) (ad := ad) (xa := fun n => n) (l := l) (X := (fun _ => True)) hPX hsl (fun _ _ h _ => h) (fun _ _ _ h => absurd h List.not_mem_nil)
  have qLF := rxQLF (PX := PX) (Dg := Dg) (A := A) (ad := ad) (xa := fun n => n) (l := l) (X := (fun _ => True)) hPX hsl (fun _ _ h _ => h) (fun _ _ _ h => absurd h List.not_mem_nil) qMU qEM
  have qRP := rxQRP (PX := PX) (Dg := Dg) (A := A) (ad := ad) (xa := fun n => n) (l := l) (X := (fun _ => True)) hPX hsl (fun _ _ h _ => h) (fun _ _ _ h => absurd h List.not_mem_nil) qOB qPP qPA qLF
  have qRN := rxQRN (PX := PX) (Dg := Dg) (A := A) (ad := ad) (xa := fun n => n) (l := l) (X := (fun _ => True)) hPX hsl (fun _ _ h _ => h) (fun _ _ _ h => absurd h List.not_mem_nil) qPU qNX qOB qRP
  have qBI := rxQBI (PX := PX) (Dg := Dg) (A := A) (ad := ad) (xa := fun n => n) (l := l) (X := (fun _ => True)) hPX hsl (fun _ _ h _ => h) (fun _ _ _ h => absurd h List.not_mem_nil)
  have qST := rxQST (PX := PX) (Dg := Dg) (A := A) (ad := ad) (xa := fun n => n) (l := l) (X := (fun _ => True)) hPX hsl (fun _ _ h _ => h) (fun _ _ _ h => absurd h List.not_mem_nil) qEM
  have qIN := rxQIN (PX := PX) (Dg := Dg) (A := A) (ad := ad) (xa := fun n => n) (l := l) (X := (fun _ => True)) hPX hsl (fun _ _ h _ => h) (fun _ _ _ h => absurd h List.not_mem_nil)
  have qIS := rxQIS (PX := PX) (Dg := Dg) (A := A) (ad := ad) (xa := fun n => n) (l := l) (X := (fun _ => True)) hPX hsl (fun _ _ h _ => h) (fun _ _ _ h => absurd h List.not_mem_nil)
  have qIC := rxQIC (PX := PX) (Dg := Dg) (A := A) (ad := ad) (xa := fun n => n) (l := l) (X := (fun _ => True)) hPX hsl (fun _ _ h _ => h) (fun _ _ _ h => absurd h List.not_mem_nil)
  have qBS := rxQBS (PX := PX) (Dg := Dg) (A := A) (ad := ad) (xa := fun n => n) (l := l) (X := (fun _ => True)) hPX hsl (fun _ _ h _ => h) (fun _ _ _ h => absurd h List.not_mem_nil) qBI qST qPU qNX qIN qIS qMU qIC
  have qBT := rxQBT (PX := PX) (Dg := Dg) (A := A) (ad := ad) (xa := fun n => n) (l := l) (X := (fun _ => True)) hPX hsl (fun _ _ h _ => h) (fun _ _ _ h => absurd h List.not_mem_nil) qST qPU qEM qNX qIN qIS qMU
  have qRE := rxQRE (PX := PX) (Dg := Dg) (A := A) (ad := ad) (xa := fun n => n) (l := l) (X := (fun _ => True)) hPX hsl (fun _ _ h _ => h) (fun _ _ _ h => absurd h List.not_mem_nil) qRN qRP qBS qBT qST
  have qRL := rxQRL (PX := PX) (Dg := Dg) (A := A) (ad := ad) (xa := fun n => n) (l := l) (X := (fun _ => True)) hPX hsl (fun _ _ h _ => h) (fun _ _ _ h => absurd h List.not_mem_nil) qMU qRE qNX
  have qET2 := rxQET2 (PX := PX) (Dg := Dg) (A := A) (ad := ad) (xa := fun n => n) (l := l) (X := (fun _ => True)) hPX hsl (fun _ _ h _ => h) (fun _ _ _ h => absurd h List.not_mem_nil) qMU
  have qLW2 := rxQLW2 (PX := PX) (Dg := Dg) (A := A) (ad := ad) (xa := fun n => n) (l := l) (X := (fun _ => True)) hPX hsl (fun _ _ h _ => h) (fun _ _ _ h => absurd h List.not_mem_nil) qBX qRL qNX qET2
  exact rx_conW (rx_conX qLW2 (fun S0 ws h => h) (fun S0 ws S w _ _ h => h.1)) (fun _ _ _ _ h => h.2)
