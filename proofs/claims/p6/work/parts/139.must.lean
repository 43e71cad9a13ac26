/-! CONTRACT BY HAND, by program (wip/sim/genhand.py): DeadUnderstudiesModel.must -/
def rxCMU : bx_Ct := ([(3, (1, 480, 0)), (0, (0, 0, 1))], none, [(12, 9), (12, 10), (12, 11), (12, 12), (12, 13), (12, 14)], 2, [])
def rxIMU_0 (S0 : Nat → Int → Int) (ws : List Int) (S : Nat → Int → Int) (is : Int) : Prop := S = S0 ∧ ws = [480, is]
def rxmMU_0 (S0 : Nat → Int → Int) (ws : List Int) (S : Nat → Int → Int) (is : Int) : Nat := 100
def rxzMU_0 : rx_Z := ([(0, 0), (0, 0), (0, 0), (0, 0), (0, 0), (0, 0), (0, 0), (0, 0), (0, 1)], [], [], 0, 0, 0, [(0, .inr (3, (0, 480))), (1, .inr (0, (8, 0)))], [])
def rxIMU_1 (S0 : Nat → Int → Int) (ws : List Int) (S : Nat → Int → Int) (is : Int) : Prop := S = S0 ∧ S 480 14 = 0 ∧ ws = [480, is]
def rxmMU_1 (S0 : Nat → Int → Int) (ws : List Int) (S : Nat → Int → Int) (is : Int) : Nat := 90
def rxzMU_1 : rx_Z := ([(0, 0), (0, 0), (0, 0), (0, 0), (0, 0), (0, 0), (0, 0), (0, 0), (1, 1)], [], [], 0, 0, 32, [(0, .inr (3, (0, 480))), (1, .inr (0, (8, 0)))], [.inr (3, (0, 480))])
def rxIMU_2 (S0 : Nat → Int → Int) (ws : List Int) (S : Nat → Int → Int) (is : Int) : Prop := S0 480 14 = 0 ∧ S 480 14 = 0 ∧ ws = [480, is] ∧ rxTk S ∧ S0 480 10 ≤ S 480 9
def rxmMU_2 (S0 : Nat → Int → Int) (ws : List Int) (S : Nat → Int → Int) (is : Int) : Nat := 80
def rxzMU_2 : rx_Z := ([(0, 0), (0, 0), (0, 0), (0, 0), (0, 0), (0, 0), (0, 0), (0, 0), (1, 1)], [], [], 0, 0, 35, [(0, .inr (3, (0, 480))), (1, .inr (0, (8, 0)))], [])
def rxoMU_0_0 : bx_HO := (([(0, 0), (0, 0), (0, 0), (0, 0), (0, 0), (0, 0), (0, 0), (0, 0), (1, 1), (0, 0)], [(3, (8, 0), (0, 0))], [(((0, 0), 1851192626986356800234234225391877833944518517379736727590010880000000), .inr (0, (9, 0))), (((0, 480), 14), .inr (0, (9, 0)))], 0, 0, 32, [(0, .inr (3, (0, 480))), (1, .inr (0, (8, 0)))], [.inr (3, (0, 480))]), [], [], [(0, 0), (0, 0), (0, 0), (0, 0), (0, 0), (0, 0), (0, 0), (0, 0), (8, 0)], 1)
def rxeMU_0_0 : rx_End × List (Nat × Int × Int) := (([(0, 0), (0, 0), (0, 0), (0, 0), (0, 0), (0, 0), (0, 0), (0, 0), (0, 0), (0, 0), (0, 400)], [], [(((0, 0), 1851192626986356800033527518605102225670697052925901474036187139000000), .inr (0, (10, 0))), (((0, 480), 13), .inr (0, (10, 0))), (((0, 0), 1851192626986356799230700691457999792575411195110560459820892160000000), .inr (0, (10, 0))), (((0, 480), 9), .inr (0, (10, 0))), (((0, 0), 1851192626986356800234234225391877833944518517379736727590010883000000), .inr (0, (0, 1))), (((0, 480), 14), .inr (0, (0, 1))), (((0, 0), 1851192626986356800234234225391877833944518517379736727590010880000000), .inr (0, (9, 0)))], none), [])
def rxeMU_0_1 : rx_End × List (Nat × Int × Int) := (([(0, 0), (0, 0), (0, 0), (0, 0), (0, 0), (0, 0), (0, 0), (0, 0), (0, 1), (1, 1)], [(3, (9, 0), (0, 0))], [(((0, 0), 1851192626986356800234234225391877833944518517379736727590010880000000), .inr (0, (9, 0))), (((0, 480), 14), .inr (0, (9, 0)))], none), [])
def rxeMU_2_0 : rx_End × List (Nat × Int × Int) := (([(0, 0), (0, 0), (0, 0), (0, 0), (0, 0), (0, 0), (0, 0), (0, 0), (1, 1)], [], [], none), [])
def rxYMU : List bx_HE := [(rxzMU_0, [rxoMU_0_0], [rxeMU_0_0, rxeMU_0_1]), (rxzMU_1, [], []), (rxzMU_2, [], [rxeMU_2_0])]
def rxUMU (q : bx_HE) : Bool := Nat.beq (rx_zpc q.1) 32
def rxYBMU : bx_B := (rxV, rxNP, rxDmf, bx_mdH rxCMU.2.2.1)
set_option maxRecDepth 100000 in
theorem rxYcMU : bx_chkH rxYBMU rxM265 rxCMU rxYMU (rxUMU, fun cut z => rx_ex2 (rxCT rxYBMU rxCnE) cut 30000 rxCMU.2.2.2.1 265 z) = true := by decide +kernel
def rxIMU (S0 : Nat → Int → Int) (ws : List Int) (i : Nat) : bx_SP := fun S r => match i with | 0 => rxIMU_0 S0 ws S (r 8) | 1 => rxIMU_1 S0 ws S (r 8) | 2 => rxIMU_2 S0 ws S (r 8) | _ => False
def rxmMU (S0 : Nat → Int → Int) (ws : List Int) (i : Nat) (S : Nat → Int → Int) (r : Nat → Int) : Nat := match i with | 0 => rxmMU_0 S0 ws S (r 8) | 1 => rxmMU_1 S0 ws S (r 8) | 2 => rxmMU_2 S0 ws S (r 8) | _ => 0
def rxPMU (S0 : Nat → Int → Int) (ws : List Int) : Prop := rxTk S0
def rxPSMU (S0 : Nat → Int → Int) (ws : List Int) (S : Nat → Int → Int) (w : Option Int) : Prop := w = none ∧ rxTk S ∧ ∃ is : Int, ws = [480, is] ∧ ((S0 480 14 = 0 ∧ is = 1 ∧ S 480 14 = 0 ∧ S0 480 10 ≤ S 480 9) ∨ ((S0 480 14 ≠ 0 ∨ is = 0) ∧ S 480 14 = 1 ∧ S 480 9 = S0 480 9 ∧ S 480 10 = S0 480 10 ∧ S 480 11 = S0 480 11 ∧ S 480 12 = S0 480 12))
theorem rxkMU_1 {S0 : Nat → Int → Int} {ws : List Int} {S : Nat → Int → Int} {is : Int} (hP : rxPMU S0 ws) (hin : bx_same rxL (bx_mdl rxCMU.2.2.1) S0 S) (I0 : bx_Inv rxL S) (hinv : rxIMU_1 S0 ws S is) (l8 : 1 ≤ is) (u8 : is ≤ 1) : rxPNX S [480] ∧ ∀ (S_p : Nat → Int → Int), rxPSNX S [480] S_p none → bx_Inv rxL S_p → bx_same rxL (bx_mdl rxCNX.2.2.1) S S_p → rxIMU_2 S0 ws S_p is ∧ rxmMU_2 S0 ws S_p is < rxmMU_1 S0 ws S is := by
  obtain ⟨rfl, h1, hw⟩ := hinv
  have hT : rxTk S := hP
  refine ⟨hT.2.2.1, fun S_p hq I1 hsm => ⟨⟨h1, ?_, hw, hq.2.1, hq.2.2⟩, by unfold rxmMU_1 rxmMU_2; omega⟩⟩
  have := rx_sameO hsm (p := 480) (j := 14) rfl (by omega) (by decide +kernel) (by decide)
  exact this.trans h1
theorem rxsMU_1 {X : (Nat → Int → Int) → Prop} {S0 : Nat → Int → Int} {ws : List Int} (hP : rxPMU S0 ws) : rx_obK X S0 rxCMU.2.2.1 rxCNX.2.2.1 (rxIMU S0 ws) (rxmMU S0 ws) 1 2 rxzMU_1 rxzMU_2 [.inr (3, (0, 480))] none rxPNX rxPSNX := by
  intro S r hinv hXS I0 hin hs_ hf_
  have b_ := bx_bds_sat hs_
  have f_ := bx_fcl_ok hs_.1 hf_
  obtain ⟨⟨l8, u8⟩, -⟩ := b_
  have g := rxkMU_1 hP hin I0 hinv l8 u8
  have ea : List.map (bx_num r) [.inr (3, (0, 480))] = [480] := by
    simp only [List.map_cons, List.map_nil, bx_xv_ok hs_.1]
    rfl
  rw [ea]
  refine ⟨g.1, fun S_p w r_p hPS hX_p I1 hsm hr hw hs_p => ?_⟩
  have hw : w = none := hPS.1
  subst hw
  have g2 := g.2 S_p hPS I1 hsm
  show rxIMU_2 S0 ws S_p (r_p 8) ∧ rxmMU_2 S0 ws S_p (r_p 8) < _
  rw [hr 8 (by decide)]
  exact g2
theorem rxcMU_0_0 {S0 : Nat → Int → Int} {ws : List Int} {S : Nat → Int → Int} {is x9 : Int} (hP : rxPMU S0 ws) (hin : bx_same rxL (bx_mdl rxCMU.2.2.1) S0 S) (I0 : bx_Inv rxL S) (hinv : rxIMU_0 S0 ws S is) (l8 : 1 ≤ is) (u8 : is ≤ 1) (l9 : 0 ≤ x9) (u9 : x9 ≤ 0) (f0 : is ≠ 0) (e0 : S 480 14 = x9) : (True) ∧ (True) ∧ rxIMU_1 S0 ws S is ∧ rxmMU_1 S0 ws S is < rxmMU_0 S0 ws S is := by
  obtain ⟨rfl, hw⟩ := hinv
  exact ⟨trivial, trivial, ⟨rfl, by omega, by rw [hw]⟩, by unfold rxmMU_0 rxmMU_1; omega⟩
theorem rxgMU_0_0 {X : (Nat → Int → Int) → Prop} {S0 : Nat → Int → Int} {ws : List Int} (hP : rxPMU S0 ws) : bx_obC rxL X S0 rxCMU.2.2.1 (rxIMU S0 ws) (rxmMU S0 ws) 0 rxzMU_0 rxoMU_0_0 := by
  intro S S_p r r_p hinv hX hin hsm_ hseg
  obtain ⟨I0, I1, h0_, hr_, b_, f_, d_⟩ := bx_cl (evs := [(0, (0, 480), (0, 14), .inr (0, (9, 0)))]) (fvs := [(3, (8, 0), (0, 0), (0, 0))]) hseg (by decide +kernel) (by decide +kernel)
  have hinv : rxIMU_0 S0 ws S (r 8) := hinv
  rw [← hr_ 8 (by decide)] at hinv
  obtain ⟨⟨l8, u8⟩, ⟨l9, u9⟩, -⟩ := b_
  obtain ⟨f0, -⟩ := f_
  obtain ⟨e0, w_⟩ := d_
  subst w_
  have g := rxcMU_0_0 hP hin I0 hinv l8 u8 l9 u9 f0 e0
  refine ⟨bx_narP_ok (l := []) g.1, bx_nfP_ok h0_ (fvs := []) (by decide +kernel) g.2.1, ?_, ?_⟩
  · show rxIMU_1 S0 ws S_p (bx_val [(0, 0), (0, 0), (0, 0), (0, 0), (0, 0), (0, 0), (0, 0), (0, 0), (8, 0)] r_p 8)
    rw [bx_val_x (n := 8) (e := (8, 0)) h0_ rfl]
    exact g.2.2.1
  · show rxmMU_1 S0 ws S_p (bx_val [(0, 0), (0, 0), (0, 0), (0, 0), (0, 0), (0, 0), (0, 0), (0, 0), (8, 0)] r_p 8) < rxmMU_0 S0 ws S_p (r 8)
    rw [bx_val_x (n := 8) (e := (8, 0)) h0_ rfl, ← hr_ 8 (by decide)]
    exact g.2.2.2
theorem rxdMU_0_0 {S0 : Nat → Int → Int} {ws : List Int} {S : Nat → Int → Int} {is x9 x10 : Int} (hP : rxPMU S0 ws) (hin : bx_same rxL (bx_mdl rxCMU.2.2.1) S0 S) (hin2 : bx_same rxL (bx_mdl rxCMU.2.2.1) S (bx_up (bx_up S 480 14 1) 480 13 x10)) (I0 : bx_Inv rxL S) (I1 : bx_Inv rxL (bx_up (bx_up S 480 14 1) 480 13 x10)) (hinv : rxIMU_0 S0 ws S is) (l8 : 0 ≤ is) (u8 : is ≤ 0) (l9 : 0 ≤ x9) (u9 : x9 ≤ 0) (l10 : 0 ≤ x10) (u10 : x10 ≤ 400) (e3 : S 480 14 = x9) (e1 : (bx_up S 480 14 1) 480 9 = x10) : (True) ∧ rxPSMU S0 ws (bx_up (bx_up S 480 14 1) 480 13 x10) none := by
  obtain ⟨rfl, hw⟩ := hinv
  have hT : rxTk S := hP
  have t8 : (bx_up (bx_up S 480 14 1) 480 13 x10) 480 8 = S 480 8 := by simp [bx_up]
  have t9 : (bx_up (bx_up S 480 14 1) 480 13 x10) 480 9 = S 480 9 := by simp [bx_up]
  have t10 : (bx_up (bx_up S 480 14 1) 480 13 x10) 480 10 = S 480 10 := by simp [bx_up]
  have t11 : (bx_up (bx_up S 480 14 1) 480 13 x10) 480 11 = S 480 11 := by simp [bx_up]
  have t12 : (bx_up (bx_up S 480 14 1) 480 13 x10) 480 12 = S 480 12 := by simp [bx_up]
  have t14 : (bx_up (bx_up S 480 14 1) 480 13 x10) 480 14 = 1 := by simp [bx_up]
  refine ⟨trivial, rfl, ?_, is, hw, Or.inr ⟨by omega, by omega, by omega, by omega, by omega, by omega⟩⟩
  unfold rxTk at hT ⊢
  omega
theorem rxfMU_0_0 {X : (Nat → Int → Int) → Prop} {S0 : Nat → Int → Int} {ws : List Int} (hP : rxPMU S0 ws) : bx_obE rxL X S0 rxCMU.2.2.1 (rxIMU S0 ws) (rxPSMU S0 ws) 0 rxzMU_0 rxeMU_0_0 := by
  intro S S_p r r_p hinv hX hin hsm_ hseg
  obtain ⟨I0, I1, h0_, hr_, b_, f_, d_⟩ := bx_cl (evs := [(1, (0, 480), (0, 13), .inr (0, (10, 0))), (0, (0, 480), (0, 9), .inr (0, (10, 0))), (1, (0, 480), (0, 14), .inr (0, (0, 1))), (0, (0, 480), (0, 14), .inr (0, (9, 0)))]) (fvs := []) hseg (by decide +kernel) (by decide +kernel)
  have hinv : rxIMU_0 S0 ws S (r 8) := hinv
  rw [← hr_ 8 (by decide)] at hinv
  obtain ⟨⟨l8, u8⟩, ⟨l9, u9⟩, ⟨l10, u10⟩, -⟩ := b_
  obtain ⟨T0, ⟨e1, ⟨T2, ⟨e3, w_⟩, w2⟩⟩, w0⟩ := d_
  subst w0
  subst w2
  subst w_
  have g := rxdMU_0_0 hP hin hsm_ I0 I1 hinv l8 u8 l9 u9 l10 u10 e3 e1
  refine ⟨bx_narP_ok (l := []) g.1, ?_⟩
  exact g.2
theorem rxdMU_0_1 {S0 : Nat → Int → Int} {ws : List Int} {S : Nat → Int → Int} {is x9 : Int} (hP : rxPMU S0 ws) (hin : bx_same rxL (bx_mdl rxCMU.2.2.1) S0 S) (hin2 : bx_same rxL (bx_mdl rxCMU.2.2.1) S S) (I0 : bx_Inv rxL S) (I1 : bx_Inv rxL S) (hinv : rxIMU_0 S0 ws S is) (l8 : 0 ≤ is) (u8 : is ≤ 1) (l9 : 1 ≤ x9) (u9 : x9 ≤ 1) (f0 : x9 ≠ 0) (e0 : S 480 14 = x9) : (True) ∧ rxPSMU S0 ws S none := by
  obtain ⟨rfl, hw⟩ := hinv
  have hT : rxTk S := hP
  
  refine ⟨trivial, rfl, ?_, is, hw, Or.inr ⟨by omega, by omega, by omega, by omega, by omega, by omega⟩⟩
  unfold rxTk at hT ⊢
  omega
theorem rxfMU_0_1 {X : (Nat → Int → Int) → Prop} {S0 : Nat → Int → Int} {ws : List Int} (hP : rxPMU S0 ws) : bx_obE rxL X S0 rxCMU.2.2.1 (rxIMU S0 ws) (rxPSMU S0 ws) 0 rxzMU_0 rxeMU_0_1 := by
  intro S S_p r r_p hinv hX hin hsm_ hseg
  obtain ⟨I0, I1, h0_, hr_, b_, f_, d_⟩ := bx_cl (evs := [(0, (0, 480), (0, 14), .inr (0, (9, 0)))]) (fvs := [(3, (9, 0), (0, 0), (0, 0))]) hseg (by decide +kernel) (by decide +kernel)
  have hinv : rxIMU_0 S0 ws S (r 8) := hinv
  rw [← hr_ 8 (by decide)] at hinv
  obtain ⟨⟨l8, u8⟩, ⟨l9, u9⟩, -⟩ := b_
  obtain ⟨f0, -⟩ := f_
  obtain ⟨e0, w_⟩ := d_
  subst w_
  have g := rxdMU_0_1 hP hin hsm_ I0 I1 hinv l8 u8 l9 u9 f0 e0
  refine ⟨bx_narP_ok (l := []) g.1, ?_⟩
  exact g.2
theorem rxdMU_2_0 {S0 : Nat → Int → Int} {ws : List Int} {S : Nat → Int → Int} {is : Int} (hP : rxPMU S0 ws) (hin : bx_same rxL (bx_mdl rxCMU.2.2.1) S0 S) (hin2 : bx_same rxL (bx_mdl rxCMU.2.2.1) S S) (I0 : bx_Inv rxL S) (I1 : bx_Inv rxL S) (hinv : rxIMU_2 S0 ws S is) (l8 : 1 ≤ is) (u8 : is ≤ 1) : (True) ∧ rxPSMU S0 ws S none := by
  obtain ⟨h0, h1, hw, h2, h3⟩ := hinv
  exact ⟨trivial, rfl, h2, is, hw, Or.inl ⟨h0, by omega, h1, h3⟩⟩
theorem rxfMU_2_0 {X : (Nat → Int → Int) → Prop} {S0 : Nat → Int → Int} {ws : List Int} (hP : rxPMU S0 ws) : bx_obE rxL X S0 rxCMU.2.2.1 (rxIMU S0 ws) (rxPSMU S0 ws) 2 rxzMU_2 rxeMU_2_0 := by
  intro S S_p r r_p hinv hX hin hsm_ hseg
  obtain ⟨I0, I1, h0_, hr_, b_, f_, d_⟩ := bx_cl (evs := []) (fvs := []) hseg (by decide +kernel) (by decide +kernel)
  have hinv : rxIMU_2 S0 ws S (r 8) := hinv
  rw [← hr_ 8 (by decide)] at hinv
  obtain ⟨⟨l8, u8⟩, -⟩ := b_
  have w_ := d_
  subst w_
  have g := rxdMU_2_0 hP hin hsm_ I0 I1 hinv l8 u8
  refine ⟨bx_narP_ok (l := []) g.1, ?_⟩
  exact g.2
theorem rxgCMU {X : (Nat → Int → Int) → Prop} {S0 : Nat → Int → Int} {ws : List Int} (hP : rxPMU S0 ws) : bx_allI (fun i q => rxUMU q = true ∨ bx_allP (fun o => bx_obC rxL X S0 rxCMU.2.2.1 (rxIMU S0 ws) (rxmMU S0 ws) i q.1 o) q.2.1) 0 rxYMU := ⟨Or.inr ⟨rxgMU_0_0 hP, trivial⟩, Or.inl rfl, Or.inr trivial, trivial⟩
theorem rxgEMU {X : (Nat → Int → Int) → Prop} {S0 : Nat → Int → Int} {ws : List Int} (hP : rxPMU S0 ws) : bx_allI (fun i q => rxUMU q = true ∨ bx_allP (fun E => bx_obE rxL X S0 rxCMU.2.2.1 (rxIMU S0 ws) (rxPSMU S0 ws) i q.1 E) q.2.2) 0 rxYMU := ⟨Or.inr ⟨rxfMU_0_0 hP, rxfMU_0_1 hP, trivial⟩, Or.inl rfl, Or.inr ⟨rxfMU_2_0 hP, trivial⟩, trivial⟩
theorem rxuMU {PX : State → Prop} {Dg : va_G} {A : Nat → Prop} {ad xa : Nat → Nat} {l : Launch} {X : (Nat → Int → Int) → Prop} (hPX : rx_PXOK rxNW A PX) (hX : ∀ S S1 : Nat → Int → Int, X S → bx_same rxL (bx_mdl rxCMU.2.2.1) S S1 → X S1) (hQNX : bx_ConP rxG rxNW rxAO PX Dg rxL X vwCl A ad l rxM264 rxCNX rxPNX rxPSNX) {S0 : Nat → Int → Int} {ws : List Int} (hP : rxPMU S0 ws) : ∀ (i : Nat) (q : bx_HE), rxYMU[i]? = some q → rxUMU q = true → ∀ {p : Program} {e : Env} {R : Room} {s : State} {m : MethodId} {args : Array Value} {below : List Frame} {meth : Method} {c : Code} {Q : State → Prop} {H0 : Heap}, rx_Fr rxG rxNW rxAO PX p s m args meth c rxM265 → (∀ q, H0.size ≤ q → A q) → H0 = s.heap → rxM265.2.2.2.2.2.2.1 ≤ R.cells → rxM265.2.2.2.2.2.2.2 ≤ R.slots → rxCMU.2.2.2.1 ≤ R.frames → rxCMU.2.2.2.1 * 40 ≤ R.locals → bx_Step p l e R s m args below meth c Q Dg rxL X vwCl A xa H0 ad rxM265 rxYMU (rxIMU S0 ws) (rxmMU S0 ws) S0 rxCMU.2.2.1 i q := by
  intro i q hq hus p e R s m args below meth c Q H0 hF hA hH0 hmc hms hd hdl
  match i, hq with
  | 0, hq =>
    cases hq
    exact absurd (show false = true from hus) Bool.false_ne_true
  | 1, hq =>
    cases hq
    exact rx_stepC (ins := .invokevirtual 253) (len := 3) (i_p := 2) (M_p := rxM264) (d := rxCMU.2.2.2.1) (as := [.inr (3, (0, 480))]) (t := []) (ct := rxCNX) hPX hF rfl hA hH0 hmc hms hd hdl (by decide +kernel) rfl rfl (by decide +kernel) (by decide +kernel) hQNX (by decide +kernel) rfl (Or.inl ⟨rfl, rfl, rfl⟩) (rxsMU_1 hP)
  | 2, hq =>
    cases hq
    exact absurd (show false = true from hus) Bool.false_ne_true
  | n + 3, hq => cases hq
theorem rxQMU {PX : State → Prop} {Dg : va_G} {A : Nat → Prop} {ad xa : Nat → Nat} {l : Launch} {X : (Nat → Int → Int) → Prop} (hPX : rx_PXOK rxNW A PX) (hsl : ∀ s : State, PX s → ∀ o idx n : Nat, rxSl o idx = some n → ∃ tx : String, vk_R (rxNm o) idx tx (ad n) s)
    (hX : ∀ S S_p : Nat → Int → Int, X S → bx_same rxL (bx_mdl rxCMU.2.2.1) S S_p → X S_p)
    (ih : ∀ (j2 : Nat) (ct2 : bx_Ct) (M2 : rx_Mt), ct2 ∈ rxCnE j2 → ct2.2.2.2.1 + 1 ≤ rxCMU.2.2.2.1 → rxT.2.2.2.2.2 j2 = some M2 → bx_Con rxG rxNW rxAO PX Dg rxL X vwCl A ad l M2 ct2) (hQNX : bx_ConP rxG rxNW rxAO PX Dg rxL X vwCl A ad l rxM264 rxCNX rxPNX rxPSNX) : bx_ConP rxG rxNW rxAO PX Dg rxL X vwCl A ad l rxM265 rxCMU rxPMU rxPSMU :=
  rxQof (xa := xa) (Cn := rxCnE) (f := 30000) (j := 265) (tab := rxYMU) (us := rxUMU) hPX hsl hX ih rfl rxYcMU rxIMU rxmMU
    (fun S0 ws r I0 I ht0 ht as he he1 hX0 hI0 hP hs ha => by
      have e := he.symm.trans (show bx_ent0 rxNP rxCMU.1 bx_I0 [] = some ([(0, 0), (0, 0), (0, 0), (0, 0), (0, 0), (0, 0), (0, 0), (0, 0), (0, 1)], [], [.inr (3, (0, 480)), .inr (0, (8, 0))]) from rfl)
      cases e
      subst ha
      have h0 : r 0 = 0 := hs.1
      show rxIMU_0 S0 _ S0 (r 8)
      refine ⟨rfl, ?_⟩
      simp only [List.map_cons, List.map_nil, bx_xv_ok h0]
      rfl)
    (fun S0 ws hP => rxuMU (xa := xa) hPX hX hQNX hP) (fun S0 ws hP => rxgCMU hP) (fun S0 ws hP => rxgEMU hP)
