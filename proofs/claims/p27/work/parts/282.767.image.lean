section
noncomputable def rxCI0T : bx_Ct := ([(3, (1, 0, 0)), (0, (0, 0, 0))], some (0, (0, (-6), 0)), [(2, 0), (5, 0), (6, 0), (6, 4), (10, 0), (10, 5), (10, 10), (10, 14), (10, 15), (11, 8), (1000, 0), (1001, 0), (1003, 0), (1004, 0), (1005, 0), (1006, 0), (1007, 0), (1008, 0), (1010, 0), (1011, 0), (1012, 0), (1013, 0), (1015, 0), (1019, 0), (1020, 0), (1021, 0), (1022, 0), (1024, 0), (1025, 0), (1026, 0), (1027, 0), (1031, 0), (1037, 0)], 3, [])
noncomputable def rxII0T_0 (S0 : Nat → Int → Int) (ws : List Int) (S : Nat → Int → Int) (ki : Int) : Prop := S = S0 ∧ ws = [0, ki]
noncomputable def rxmI0T_0 (S0 : Nat → Int → Int) (ws : List Int) (S : Nat → Int → Int) (ki : Int) : Nat := 100
noncomputable def rxzI0T_0 : rx_Z := ([(0, 0), (0, 0), (0, 0), (0, 0), (0, 0), (0, 0), (0, 0), (0, 0), (0, 0)], [], [], 0, 0, 0, [(0, .inr (3, (0, 0))), (1, .inr (0, (8, 0)))], [])
noncomputable def rxII0T_1 (S0 : Nat → Int → Int) (ws : List Int) (S : Nat → Int → Int) (ki : Int) : Prop := S = S0
noncomputable def rxmI0T_1 (S0 : Nat → Int → Int) (ws : List Int) (S : Nat → Int → Int) (ki : Int) : Nat := 50
noncomputable def rxzI0T_1 : rx_Z := ([(0, 0), (0, 0), (0, 0), (0, 0), (0, 0), (0, 0), (0, 0), (0, 0), (0, 0)], [], [], 0, 0, 25, [(0, .inr (3, (0, 0))), (1, .inr (0, (8, 0)))], [.inr (3, (0, 1)), .inr (3, (0, 138))])
noncomputable def rxII0T_2 (S0 : Nat → Int → Int) (ws : List Int) (S : Nat → Int → Int) (ki : Int) : Prop := rxPSCZ138x1 S0 [138, 1] S none ∧ ∀ n : Nat, n < 2 → S 410 (n : Int) = S0 410 (n : Int)
noncomputable def rxmI0T_2 (S0 : Nat → Int → Int) (ws : List Int) (S : Nat → Int → Int) (ki : Int) : Nat := 20
noncomputable def rxzI0T_2 : rx_Z := ([(0, 0), (0, 0), (0, 0), (0, 0), (0, 0), (0, 0), (0, 0), (0, 0), (0, 0)], [], [], 0, 0, 28, [(0, .inr (3, (0, 0))), (1, .inr (0, (8, 0)))], [])
noncomputable def rxoI0T_0_0 : bx_HO := (([(0, 0), (0, 0), (0, 0), (0, 0), (0, 0), (0, 0), (0, 0), (0, 0), (0, 0)], [], [(((0, 0), 0), .inr (3, (0, 1))), (((0, 137), 0), .inr (3, (0, 138))), (((0, 0), 1), .inr (3, (0, 137)))], 0, 0, 25, [(0, .inr (3, (0, 0))), (1, .inr (0, (8, 0)))], [.inr (3, (0, 1)), .inr (3, (0, 138))]), [], [], [(0, 0), (0, 0), (0, 0), (0, 0), (0, 0), (0, 0), (0, 0), (0, 0), (8, 0)], 1)
noncomputable def rxeI0T_2_0 : rx_End × List (Nat × Int × Int) := (([(0, 0), (0, 0), (0, 0), (0, 0), (0, 0), (0, 0), (0, 0), (0, 0), (0, 0)], [], [(((0, 0), 1851192626986356799029993984671224184301589730656725205983952899000000), .inr (0, (0, 0))), (((0, 0), 8), .inr (0, (0, 0))), (((0, 0), 1851192626986356797424364830707437625680387377997778265106415619000000), .inr (0, (0, 1))), (((0, 410), 0), .inr (0, (0, 1))), (((0, 0), 2), .inr (3, (0, 410)))], some (.inr (0, (0, 0)))), [])
noncomputable def rxYI0T : List bx_HE := [(rxzI0T_0, [rxoI0T_0_0], []), (rxzI0T_1, [], []), (rxzI0T_2, [], [rxeI0T_2_0])]
noncomputable def rxUI0T (q : bx_HE) : Bool := Nat.beq (rx_zpc q.1) 25
noncomputable def rxYBI0T : bx_B := (rxV, rxNP, rxDmf, bx_mdH rxCI0T.2.2.1)
set_option maxRecDepth 100000 in
theorem rxYcI0T : bx_chkH rxYBI0T rxM208 rxCI0T rxYI0T (rxUI0T, fun cut z => rx_ex2 (rxCT rxYBI0T rxCnE) cut 30000 rxCI0T.2.2.2.1 208 z) = true := by decide +kernel
noncomputable def rxII0T (S0 : Nat → Int → Int) (ws : List Int) (i : Nat) : bx_SP := fun S r => match i with | 0 => rxII0T_0 S0 ws S (r 8) | 1 => rxII0T_1 S0 ws S (r 8) | 2 => rxII0T_2 S0 ws S (r 8) | _ => False
noncomputable def rxmI0T (S0 : Nat → Int → Int) (ws : List Int) (i : Nat) (S : Nat → Int → Int) (r : Nat → Int) : Nat := match i with | 0 => rxmI0T_0 S0 ws S (r 8) | 1 => rxmI0T_1 S0 ws S (r 8) | 2 => rxmI0T_2 S0 ws S (r 8) | _ => 0
noncomputable def rxPI0T (S0 : Nat → Int → Int) (ws : List Int) : Prop := rkPl S0
noncomputable def rxPSI0T (S0 : Nat → Int → Int) (ws : List Int) (S : Nat → Int → Int) (w : Option Int) : Prop := ∃ S1 : Nat → Int → Int, (rxPSCZ138x1 S0 [138, 1] S1 none ∧ ∀ n : Nat, n < 2 → S1 410 (n : Int) = S0 410 (n : Int)) ∧ S = bx_up (bx_up S1 410 0 1) 0 8 0 ∧ w = some 0
theorem rxkI0T_1 {S0 : Nat → Int → Int} {ws : List Int} {S : Nat → Int → Int} {ki : Int} (hP : rxPI0T S0 ws) (hin : bx_same rxL (bx_mdl rxCI0T.2.2.1) S0 S) (I0 : bx_Inv rxL S) (hinv : rxII0T_1 S0 ws S ki) (l8 : 0 ≤ ki) (u8 : ki ≤ 0) : rxPCZ138x1 S [138, 1] ∧ ∀ (S_p : Nat → Int → Int), rxPSCZ138x1 S [138, 1] S_p none → bx_Inv rxL S_p → bx_same rxL (bx_mdl rxCCZ138x1.2.2.1) S S_p → rxII0T_2 S0 ws S_p ki ∧ rxmI0T_2 S0 ws S_p ki < rxmI0T_1 S0 ws S ki := by
  have hinv : S = S0 := hinv
  subst hinv
  refine ⟨hP, fun S_p hq _ hsm => ⟨⟨hq, fun n hn => hsm 410 n (by decide) hn ?_⟩, by unfold rxmI0T_1 rxmI0T_2; omega⟩⟩
  have e : bx_mc (rxL.1 410) n = (1031, if n < 780 then 0 else 1) := rfl
  rw [e, if_pos (by omega)]
  decide +kernel
theorem rxsI0T_1 {X : (Nat → Int → Int) → Prop} {S0 : Nat → Int → Int} {ws : List Int} (hP : rxPI0T S0 ws) : rx_obK X S0 rxCI0T.2.2.1 rxCCZ138x1.2.2.1 (rxII0T S0 ws) (rxmI0T S0 ws) 1 2 rxzI0T_1 rxzI0T_2 [.inr (3, (0, 138)), .inr (3, (0, 1))] none rxPCZ138x1 rxPSCZ138x1 := by
  intro S r hinv hXS I0 hin hs_ hf_
  have b_ := bx_bds_sat hs_
  have f_ := bx_fcl_ok hs_.1 hf_
  obtain ⟨⟨l8, u8⟩, -⟩ := b_
  have g := rxkI0T_1 hP hin I0 hinv l8 u8
  have ea : List.map (bx_num r) [.inr (3, (0, 138)), .inr (3, (0, 1))] = [138, 1] := by
    simp only [List.map_cons, List.map_nil, bx_xv_ok hs_.1]
    rfl
  rw [ea]
  refine ⟨g.1, fun S_p w r_p hPS hX_p I1 hsm hr hw hs_p => ?_⟩
  have hw : w = none := hPS.1
  subst hw
  have g2 := g.2 S_p hPS I1 hsm
  show rxII0T_2 S0 ws S_p (r_p 8) ∧ rxmI0T_2 S0 ws S_p (r_p 8) < _
  rw [hr 8 (by decide)]
  exact g2
theorem rxcI0T_0_0 {S0 : Nat → Int → Int} {ws : List Int} {S : Nat → Int → Int} {ki : Int} (hP : rxPI0T S0 ws) (hin : bx_same rxL (bx_mdl rxCI0T.2.2.1) S0 S) (I0 : bx_Inv rxL S) (hinv : rxII0T_0 S0 ws S ki) (l8 : 0 ≤ ki) (u8 : ki ≤ 0) : (True) ∧ (True) ∧ rxII0T_1 S0 ws S ki ∧ rxmI0T_1 S0 ws S ki < rxmI0T_0 S0 ws S ki := by
  obtain ⟨rfl, hw⟩ := hinv
  exact ⟨trivial, trivial, rfl, by unfold rxmI0T_0 rxmI0T_1; omega⟩
theorem rxgI0T_0_0 {X : (Nat → Int → Int) → Prop} {S0 : Nat → Int → Int} {ws : List Int} (hP : rxPI0T S0 ws) : bx_obC rxL X S0 rxCI0T.2.2.1 (rxII0T S0 ws) (rxmI0T S0 ws) 0 rxzI0T_0 rxoI0T_0_0 := by
  intro S S_p r r_p hinv hX hin hsm_ hseg
  obtain ⟨I0, I1, h0_, hr_, b_, f_, d_⟩ := bx_cl (evs := []) (fvs := []) hseg (by decide +kernel) (by decide +kernel)
  have hinv : rxII0T_0 S0 ws S (r 8) := hinv
  rw [← hr_ 8 (by decide)] at hinv
  obtain ⟨⟨l8, u8⟩, -⟩ := b_
  have w_ := d_
  subst w_
  have g := rxcI0T_0_0 hP hin I0 hinv l8 u8
  refine ⟨bx_narP_ok (l := []) g.1, bx_nfP_ok h0_ (fvs := []) (by decide +kernel) g.2.1, ?_, ?_⟩
  · show rxII0T_1 S0 ws S_p (bx_val [(0, 0), (0, 0), (0, 0), (0, 0), (0, 0), (0, 0), (0, 0), (0, 0), (8, 0)] r_p 8)
    rw [bx_val_x (n := 8) (e := (8, 0)) h0_ rfl]
    exact g.2.2.1
  · show rxmI0T_1 S0 ws S_p (bx_val [(0, 0), (0, 0), (0, 0), (0, 0), (0, 0), (0, 0), (0, 0), (0, 0), (8, 0)] r_p 8) < rxmI0T_0 S0 ws S_p (r 8)
    rw [bx_val_x (n := 8) (e := (8, 0)) h0_ rfl, ← hr_ 8 (by decide)]
    exact g.2.2.2
theorem rxdI0T_2_0 {S0 : Nat → Int → Int} {ws : List Int} {S : Nat → Int → Int} {ki : Int} (hP : rxPI0T S0 ws) (hin : bx_same rxL (bx_mdl rxCI0T.2.2.1) S0 S) (hin2 : bx_same rxL (bx_mdl rxCI0T.2.2.1) S (bx_up (bx_up S 410 ki 1) 0 8 0)) (I0 : bx_Inv rxL S) (I1 : bx_Inv rxL (bx_up (bx_up S 410 ki 1) 0 8 0)) (hinv : rxII0T_2 S0 ws S ki) (l8 : 0 ≤ ki) (u8 : ki ≤ 0) : (True) ∧ rxPSI0T S0 ws (bx_up (bx_up S 410 ki 1) 0 8 0) (some 0) := by
  have e : ki = 0 := by omega
  subst e
  exact ⟨trivial, S, hinv, rfl, rfl⟩
theorem rxfI0T_2_0 {X : (Nat → Int → Int) → Prop} {S0 : Nat → Int → Int} {ws : List Int} (hP : rxPI0T S0 ws) : bx_obE rxL X S0 rxCI0T.2.2.1 (rxII0T S0 ws) (rxPSI0T S0 ws) 2 rxzI0T_2 rxeI0T_2_0 := by
  intro S S_p r r_p hinv hX hin hsm_ hseg
  obtain ⟨I0, I1, h0_, hr_, b_, f_, d_⟩ := bx_cl (evs := [(1, (0, 0), (0, 8), .inr (0, (0, 0))), (1, (0, 410), (8, 0), .inr (0, (0, 1)))]) (fvs := []) hseg (by decide +kernel) (by decide +kernel)
  have hinv : rxII0T_2 S0 ws S (r 8) := hinv
  rw [← hr_ 8 (by decide)] at hinv
  obtain ⟨⟨l8, u8⟩, -⟩ := b_
  obtain ⟨T0, ⟨T1, w_, w1⟩, w0⟩ := d_
  subst w0
  subst w1
  subst w_
  have g := rxdI0T_2_0 hP hin hsm_ I0 I1 hinv l8 u8
  refine ⟨bx_narP_ok (l := []) g.1, ?_⟩
  show rxPSI0T S0 ws (bx_up (bx_up T1 410 (r_p 8) (1)) 0 (8) (0)) (some (bx_num r_p (.inr (0, (0, 0)))))
  rw [bx_xv_ok h0_]
  exact g.2
theorem rxgCI0T {X : (Nat → Int → Int) → Prop} {S0 : Nat → Int → Int} {ws : List Int} (hP : rxPI0T S0 ws) : bx_allI (fun i q => rxUI0T q = true ∨ bx_allP (fun o => bx_obC rxL X S0 rxCI0T.2.2.1 (rxII0T S0 ws) (rxmI0T S0 ws) i q.1 o) q.2.1) 0 rxYI0T := ⟨Or.inr ⟨rxgI0T_0_0 hP, trivial⟩, Or.inl rfl, Or.inr trivial, trivial⟩
theorem rxgEI0T {X : (Nat → Int → Int) → Prop} {S0 : Nat → Int → Int} {ws : List Int} (hP : rxPI0T S0 ws) : bx_allI (fun i q => rxUI0T q = true ∨ bx_allP (fun E => bx_obE rxL X S0 rxCI0T.2.2.1 (rxII0T S0 ws) (rxPSI0T S0 ws) i q.1 E) q.2.2) 0 rxYI0T := ⟨Or.inr trivial, Or.inl rfl, Or.inr ⟨rxfI0T_2_0 hP, trivial⟩, trivial⟩
theorem rxuI0T {PX : State → Prop} {Dg : va_G} {A : Nat → Prop} {ad xa : Nat → Nat} {l : Launch} {X : (Nat → Int → Int) → Prop} (hPX : rx_PXOK rxNW A PX) (hX : ∀ S S1 : Nat → Int → Int, X S → bx_same rxL (bx_mdl rxCI0T.2.2.1) S S1 → X S1) (hQCZ138x1 : bx_ConP rxG rxNW rxAO PX Dg rxL X vwCl A ad l rxM154 rxCCZ138x1 rxPCZ138x1 rxPSCZ138x1) {S0 : Nat → Int → Int} {ws : List Int} (hP : rxPI0T S0 ws) : ∀ (i : Nat) (q : bx_HE), rxYI0T[i]? = some q → rxUI0T q = true → ∀ {p : Program} {e : Env} {R : Room} {s : State} {m : MethodId} {args : Array Value} {below : List Frame} {meth : Method} {c : Code} {Q : State → Prop} {H0 : Heap}, rx_Fr rxG rxNW rxAO PX p s m args meth c rxM208 → (∀ q, H0.size ≤ q → A q) → H0 = s.heap → rxM208.2.2.2.2.2.2.1 ≤ R.cells → rxM208.2.2.2.2.2.2.2 ≤ R.slots → rxCI0T.2.2.2.1 ≤ R.frames → rxCI0T.2.2.2.1 * 40 ≤ R.locals → bx_Step p l e R s m args below meth c Q Dg rxL X vwCl A xa H0 ad rxM208 rxYI0T (rxII0T S0 ws) (rxmI0T S0 ws) S0 rxCI0T.2.2.1 i q := by
  intro i q hq hus p e R s m args below meth c Q H0 hF hA hH0 hmc hms hd hdl
  match i, hq with
  | 0, hq =>
    cases hq
    exact absurd (show false = true from hus) Bool.false_ne_true
  | 1, hq =>
    cases hq
    exact rx_stepC (ins := .invokevirtual 431) (len := 3) (i_p := 2) (M_p := rxM154) (d := rxCI0T.2.2.2.1) (as := [.inr (3, (0, 138)), .inr (3, (0, 1))]) (t := []) (ct := rxCCZ138x1) hPX hF rfl hA hH0 hmc hms hd hdl (by decide +kernel) rfl rfl (by decide +kernel) (by decide +kernel) hQCZ138x1 (by decide +kernel) rfl (Or.inl ⟨rfl, rfl, rfl⟩) (rxsI0T_1 hP)
  | 2, hq =>
    cases hq
    exact absurd (show false = true from hus) Bool.false_ne_true
  | n + 3, hq => cases hq
theorem rxQI0T {PX : State → Prop} {Dg : va_G} {A : Nat → Prop} {ad xa : Nat → Nat} {l : Launch} {X : (Nat → Int → Int) → Prop} (hPX : rx_PXOK rxNW A PX) (hsl : ∀ s : State, PX s → ∀ o idx n : Nat, rxSl o idx = some n → ∃ tx : String, vk_R (rxNm o) idx tx (ad n) s)
    (hX : ∀ S S_p : Nat → Int → Int, X S → bx_same rxL (bx_mdl rxCI0T.2.2.1) S S_p → X S_p)
    (ih : ∀ (j2 : Nat) (ct2 : bx_Ct) (M2 : rx_Mt), ct2 ∈ rxCnE j2 → ct2.2.2.2.1 + 1 ≤ rxCI0T.2.2.2.1 → rxT.2.2.2.2.2 j2 = some M2 → bx_Con rxG rxNW rxAO PX Dg rxL X vwCl A ad l M2 ct2) (hQCZ138x1 : bx_ConP rxG rxNW rxAO PX Dg rxL X vwCl A ad l rxM154 rxCCZ138x1 rxPCZ138x1 rxPSCZ138x1) : bx_ConP rxG rxNW rxAO PX Dg rxL X vwCl A ad l rxM208 rxCI0T rxPI0T rxPSI0T :=
  rxQof (xa := xa) (Cn := rxCnE) (f := 30000) (j := 208) (tab := rxYI0T) (us := rxUI0T) hPX hsl hX ih rfl rxYcI0T rxII0T rxmI0T
    (fun S0 ws r I0 I ht0 ht as he he1 hX0 hI0 hP hs ha => by
      have e := he.symm.trans (show bx_ent0 rxNP rxCI0T.1 bx_I0 [] = some ([(0, 0), (0, 0), (0, 0), (0, 0), (0, 0), (0, 0), (0, 0), (0, 0), (0, 0)], [], [.inr (3, (0, 0)), .inr (0, (8, 0))]) from rfl)
      cases e
      subst ha
      have h0 : r 0 = 0 := hs.1
      show rxII0T_0 S0 _ S0 (r 8)
      refine ⟨rfl, ?_⟩
      simp only [List.map_cons, List.map_nil, bx_xv_ok h0]
      rfl)
    (fun S0 ws hP => rxuI0T (xa := xa) hPX hX hQCZ138x1 hP) (fun S0 ws hP => rxgCI0T hP) (fun S0 ws hP => rxgEI0T hP)
noncomputable def rxCI1T : bx_Ct := ([(3, (1, 0, 0)), (0, (0, 1, 1))], some (0, (0, (-6), 0)), [(2, 0), (5, 0), (6, 0), (6, 4), (10, 0), (10, 5), (10, 10), (10, 14), (10, 15), (11, 8), (1000, 0), (1001, 0), (1003, 0), (1004, 0), (1005, 0), (1006, 0), (1007, 0), (1008, 0), (1010, 0), (1011, 0), (1012, 0), (1013, 0), (1015, 0), (1019, 0), (1020, 0), (1021, 0), (1022, 0), (1024, 0), (1025, 0), (1026, 0), (1027, 0), (1031, 0), (1037, 0)], 3, [])
noncomputable def rxII1T_0 (S0 : Nat → Int → Int) (ws : List Int) (S : Nat → Int → Int) (ki : Int) : Prop := S = S0 ∧ ws = [0, ki]
noncomputable def rxmI1T_0 (S0 : Nat → Int → Int) (ws : List Int) (S : Nat → Int → Int) (ki : Int) : Nat := 100
noncomputable def rxzI1T_0 : rx_Z := ([(0, 0), (0, 0), (0, 0), (0, 0), (0, 0), (0, 0), (0, 0), (0, 0), (1, 1)], [], [], 0, 0, 0, [(0, .inr (3, (0, 0))), (1, .inr (0, (8, 0)))], [])
noncomputable def rxII1T_1 (S0 : Nat → Int → Int) (ws : List Int) (S : Nat → Int → Int) (ki : Int) : Prop := S = S0
noncomputable def rxmI1T_1 (S0 : Nat → Int → Int) (ws : List Int) (S : Nat → Int → Int) (ki : Int) : Nat := 50
noncomputable def rxzI1T_1 : rx_Z := ([(0, 0), (0, 0), (0, 0), (0, 0), (0, 0), (0, 0), (0, 0), (0, 0), (1, 1)], [], [], 0, 0, 25, [(0, .inr (3, (0, 0))), (1, .inr (0, (8, 0)))], [.inr (3, (0, 1)), .inr (3, (0, 274))])
noncomputable def rxII1T_2 (S0 : Nat → Int → Int) (ws : List Int) (S : Nat → Int → Int) (ki : Int) : Prop := rxPSCZ274x1 S0 [274, 1] S none ∧ ∀ n : Nat, n < 2 → S 410 (n : Int) = S0 410 (n : Int)
noncomputable def rxmI1T_2 (S0 : Nat → Int → Int) (ws : List Int) (S : Nat → Int → Int) (ki : Int) : Nat := 20
noncomputable def rxzI1T_2 : rx_Z := ([(0, 0), (0, 0), (0, 0), (0, 0), (0, 0), (0, 0), (0, 0), (0, 0), (1, 1)], [], [], 0, 0, 28, [(0, .inr (3, (0, 0))), (1, .inr (0, (8, 0)))], [])
noncomputable def rxoI1T_0_0 : bx_HO := (([(0, 0), (0, 0), (0, 0), (0, 0), (0, 0), (0, 0), (0, 0), (0, 0), (1, 1)], [], [(((0, 0), 0), .inr (3, (0, 1))), (((0, 137), 1), .inr (3, (0, 274))), (((0, 0), 1), .inr (3, (0, 137)))], 0, 0, 25, [(0, .inr (3, (0, 0))), (1, .inr (0, (8, 0)))], [.inr (3, (0, 1)), .inr (3, (0, 274))]), [], [], [(0, 0), (0, 0), (0, 0), (0, 0), (0, 0), (0, 0), (0, 0), (0, 0), (8, 0)], 1)
noncomputable def rxeI1T_2_0 : rx_End × List (Nat × Int × Int) := (([(0, 0), (0, 0), (0, 0), (0, 0), (0, 0), (0, 0), (0, 0), (0, 0), (1, 1)], [], [(((0, 0), 1851192626986356799029993984671224184301589730656725205983952899000000), .inr (0, (0, 0))), (((0, 0), 8), .inr (0, (0, 0))), (((0, 0), 1851192626986356797424364830707437625680387377997778265106415619000000), .inr (0, (0, 1))), (((0, 410), 1), .inr (0, (0, 1))), (((0, 0), 2), .inr (3, (0, 410)))], some (.inr (0, (0, 0)))), [])
noncomputable def rxYI1T : List bx_HE := [(rxzI1T_0, [rxoI1T_0_0], []), (rxzI1T_1, [], []), (rxzI1T_2, [], [rxeI1T_2_0])]
noncomputable def rxUI1T (q : bx_HE) : Bool := Nat.beq (rx_zpc q.1) 25
noncomputable def rxYBI1T : bx_B := (rxV, rxNP, rxDmf, bx_mdH rxCI1T.2.2.1)
set_option maxRecDepth 100000 in
theorem rxYcI1T : bx_chkH rxYBI1T rxM208 rxCI1T rxYI1T (rxUI1T, fun cut z => rx_ex2 (rxCT rxYBI1T rxCnE) cut 30000 rxCI1T.2.2.2.1 208 z) = true := by decide +kernel
noncomputable def rxII1T (S0 : Nat → Int → Int) (ws : List Int) (i : Nat) : bx_SP := fun S r => match i with | 0 => rxII1T_0 S0 ws S (r 8) | 1 => rxII1T_1 S0 ws S (r 8) | 2 => rxII1T_2 S0 ws S (r 8) | _ => False
noncomputable def rxmI1T (S0 : Nat → Int → Int) (ws : List Int) (i : Nat) (S : Nat → Int → Int) (r : Nat → Int) : Nat := match i with | 0 => rxmI1T_0 S0 ws S (r 8) | 1 => rxmI1T_1 S0 ws S (r 8) | 2 => rxmI1T_2 S0 ws S (r 8) | _ => 0
noncomputable def rxPI1T (S0 : Nat → Int → Int) (ws : List Int) : Prop := rkPl S0
noncomputable def rxPSI1T (S0 : Nat → Int → Int) (ws : List Int) (S : Nat → Int → Int) (w : Option Int) : Prop := ∃ S1 : Nat → Int → Int, (rxPSCZ274x1 S0 [274, 1] S1 none ∧ ∀ n : Nat, n < 2 → S1 410 (n : Int) = S0 410 (n : Int)) ∧ S = bx_up (bx_up S1 410 1 1) 0 8 0 ∧ w = some 0
theorem rxkI1T_1 {S0 : Nat → Int → Int} {ws : List Int} {S : Nat → Int → Int} {ki : Int} (hP : rxPI1T S0 ws) (hin : bx_same rxL (bx_mdl rxCI1T.2.2.1) S0 S) (I0 : bx_Inv rxL S) (hinv : rxII1T_1 S0 ws S ki) (l8 : 1 ≤ ki) (u8 : ki ≤ 1) : rxPCZ274x1 S [274, 1] ∧ ∀ (S_p : Nat → Int → Int), rxPSCZ274x1 S [274, 1] S_p none → bx_Inv rxL S_p → bx_same rxL (bx_mdl rxCCZ274x1.2.2.1) S S_p → rxII1T_2 S0 ws S_p ki ∧ rxmI1T_2 S0 ws S_p ki < rxmI1T_1 S0 ws S ki := by
  have hinv : S = S0 := hinv
  subst hinv
  refine ⟨hP, fun S_p hq _ hsm => ⟨⟨hq, fun n hn => hsm 410 n (by decide) hn ?_⟩, by unfold rxmI1T_1 rxmI1T_2; omega⟩⟩
  have e : bx_mc (rxL.1 410) n = (1031, if n < 780 then 0 else 1) := rfl
  rw [e, if_pos (by omega)]
  decide +kernel
theorem rxsI1T_1 {X : (Nat → Int → Int) → Prop} {S0 : Nat → Int → Int} {ws : List Int} (hP : rxPI1T S0 ws) : rx_obK X S0 rxCI1T.2.2.1 rxCCZ274x1.2.2.1 (rxII1T S0 ws) (rxmI1T S0 ws) 1 2 rxzI1T_1 rxzI1T_2 [.inr (3, (0, 274)), .inr (3, (0, 1))] none rxPCZ274x1 rxPSCZ274x1 := by
  intro S r hinv hXS I0 hin hs_ hf_
  have b_ := bx_bds_sat hs_
  have f_ := bx_fcl_ok hs_.1 hf_
  obtain ⟨⟨l8, u8⟩, -⟩ := b_
  have g := rxkI1T_1 hP hin I0 hinv l8 u8
  have ea : List.map (bx_num r) [.inr (3, (0, 274)), .inr (3, (0, 1))] = [274, 1] := by
    simp only [List.map_cons, List.map_nil, bx_xv_ok hs_.1]
    rfl
  rw [ea]
  refine ⟨g.1, fun S_p w r_p hPS hX_p I1 hsm hr hw hs_p => ?_⟩
  have hw : w = none := hPS.1
  subst hw
  have g2 := g.2 S_p hPS I1 hsm
  show rxII1T_2 S0 ws S_p (r_p 8) ∧ rxmI1T_2 S0 ws S_p (r_p 8) < _
  rw [hr 8 (by decide)]
  exact g2
theorem rxcI1T_0_0 {S0 : Nat → Int → Int} {ws : List Int} {S : Nat → Int → Int} {ki : Int} (hP : rxPI1T S0 ws) (hin : bx_same rxL (bx_mdl rxCI1T.2.2.1) S0 S) (I0 : bx_Inv rxL S) (hinv : rxII1T_0 S0 ws S ki) (l8 : 1 ≤ ki) (u8 : ki ≤ 1) : (True) ∧ (True) ∧ rxII1T_1 S0 ws S ki ∧ rxmI1T_1 S0 ws S ki < rxmI1T_0 S0 ws S ki := by
  obtain ⟨rfl, hw⟩ := hinv
  exact ⟨trivial, trivial, rfl, by unfold rxmI1T_0 rxmI1T_1; omega⟩
theorem rxgI1T_0_0 {X : (Nat → Int → Int) → Prop} {S0 : Nat → Int → Int} {ws : List Int} (hP : rxPI1T S0 ws) : bx_obC rxL X S0 rxCI1T.2.2.1 (rxII1T S0 ws) (rxmI1T S0 ws) 0 rxzI1T_0 rxoI1T_0_0 := by
  intro S S_p r r_p hinv hX hin hsm_ hseg
  obtain ⟨I0, I1, h0_, hr_, b_, f_, d_⟩ := bx_cl (evs := []) (fvs := []) hseg (by decide +kernel) (by decide +kernel)
  have hinv : rxII1T_0 S0 ws S (r 8) := hinv
  rw [← hr_ 8 (by decide)] at hinv
  obtain ⟨⟨l8, u8⟩, -⟩ := b_
  have w_ := d_
  subst w_
  have g := rxcI1T_0_0 hP hin I0 hinv l8 u8
  refine ⟨bx_narP_ok (l := []) g.1, bx_nfP_ok h0_ (fvs := []) (by decide +kernel) g.2.1, ?_, ?_⟩
  · show rxII1T_1 S0 ws S_p (bx_val [(0, 0), (0, 0), (0, 0), (0, 0), (0, 0), (0, 0), (0, 0), (0, 0), (8, 0)] r_p 8)
    rw [bx_val_x (n := 8) (e := (8, 0)) h0_ rfl]
    exact g.2.2.1
  · show rxmI1T_1 S0 ws S_p (bx_val [(0, 0), (0, 0), (0, 0), (0, 0), (0, 0), (0, 0), (0, 0), (0, 0), (8, 0)] r_p 8) < rxmI1T_0 S0 ws S_p (r 8)
    rw [bx_val_x (n := 8) (e := (8, 0)) h0_ rfl, ← hr_ 8 (by decide)]
    exact g.2.2.2
theorem rxdI1T_2_0 {S0 : Nat → Int → Int} {ws : List Int} {S : Nat → Int → Int} {ki : Int} (hP : rxPI1T S0 ws) (hin : bx_same rxL (bx_mdl rxCI1T.2.2.1) S0 S) (hin2 : bx_same rxL (bx_mdl rxCI1T.2.2.1) S (bx_up (bx_up S 410 ki 1) 0 8 0)) (I0 : bx_Inv rxL S) (I1 : bx_Inv rxL (bx_up (bx_up S 410 ki 1) 0 8 0)) (hinv : rxII1T_2 S0 ws S ki) (l8 : 1 ≤ ki) (u8 : ki ≤ 1) : (True) ∧ rxPSI1T S0 ws (bx_up (bx_up S 410 ki 1) 0 8 0) (some 0) := by
  have e : ki = 1 := by omega
  subst e
  exact ⟨trivial, S, hinv, rfl, rfl⟩
theorem rxfI1T_2_0 {X : (Nat → Int → Int) → Prop} {S0 : Nat → Int → Int} {ws : List Int} (hP : rxPI1T S0 ws) : bx_obE rxL X S0 rxCI1T.2.2.1 (rxII1T S0 ws) (rxPSI1T S0 ws) 2 rxzI1T_2 rxeI1T_2_0 := by
  intro S S_p r r_p hinv hX hin hsm_ hseg
  obtain ⟨I0, I1, h0_, hr_, b_, f_, d_⟩ := bx_cl (evs := [(1, (0, 0), (0, 8), .inr (0, (0, 0))), (1, (0, 410), (8, 0), .inr (0, (0, 1)))]) (fvs := []) hseg (by decide +kernel) (by decide +kernel)
  have hinv : rxII1T_2 S0 ws S (r 8) := hinv
  rw [← hr_ 8 (by decide)] at hinv
  obtain ⟨⟨l8, u8⟩, -⟩ := b_
  obtain ⟨T0, ⟨T1, w_, w1⟩, w0⟩ := d_
  subst w0
  subst w1
  subst w_
  have g := rxdI1T_2_0 hP hin hsm_ I0 I1 hinv l8 u8
  refine ⟨bx_narP_ok (l := []) g.1, ?_⟩
  show rxPSI1T S0 ws (bx_up (bx_up T1 410 (r_p 8) (1)) 0 (8) (0)) (some (bx_num r_p (.inr (0, (0, 0)))))
  rw [bx_xv_ok h0_]
  exact g.2
theorem rxgCI1T {X : (Nat → Int → Int) → Prop} {S0 : Nat → Int → Int} {ws : List Int} (hP : rxPI1T S0 ws) : bx_allI (fun i q => rxUI1T q = true ∨ bx_allP (fun o => bx_obC rxL X S0 rxCI1T.2.2.1 (rxII1T S0 ws) (rxmI1T S0 ws) i q.1 o) q.2.1) 0 rxYI1T := ⟨Or.inr ⟨rxgI1T_0_0 hP, trivial⟩, Or.inl rfl, Or.inr trivial, trivial⟩
theorem rxgEI1T {X : (Nat → Int → Int) → Prop} {S0 : Nat → Int → Int} {ws : List Int} (hP : rxPI1T S0 ws) : bx_allI (fun i q => rxUI1T q = true ∨ bx_allP (fun E => bx_obE rxL X S0 rxCI1T.2.2.1 (rxII1T S0 ws) (rxPSI1T S0 ws) i q.1 E) q.2.2) 0 rxYI1T := ⟨Or.inr trivial, Or.inl rfl, Or.inr ⟨rxfI1T_2_0 hP, trivial⟩, trivial⟩
theorem rxuI1T {PX : State → Prop} {Dg : va_G} {A : Nat → Prop} {ad xa : Nat → Nat} {l : Launch} {X : (Nat → Int → Int) → Prop} (hPX : rx_PXOK rxNW A PX) (hX : ∀ S S1 : Nat → Int → Int, X S → bx_same rxL (bx_mdl rxCI1T.2.2.1) S S1 → X S1) (hQCZ274x1 : bx_ConP rxG rxNW rxAO PX Dg rxL X vwCl A ad l rxM154 rxCCZ274x1 rxPCZ274x1 rxPSCZ274x1) {S0 : Nat → Int → Int} {ws : List Int} (hP : rxPI1T S0 ws) : ∀ (i : Nat) (q : bx_HE), rxYI1T[i]? = some q → rxUI1T q = true → ∀ {p : Program} {e : Env} {R : Room} {s : State} {m : MethodId} {args : Array Value} {below : List Frame} {meth : Method} {c : Code} {Q : State → Prop} {H0 : Heap}, rx_Fr rxG rxNW rxAO PX p s m args meth c rxM208 → (∀ q, H0.size ≤ q → A q) → H0 = s.heap → rxM208.2.2.2.2.2.2.1 ≤ R.cells → rxM208.2.2.2.2.2.2.2 ≤ R.slots → rxCI1T.2.2.2.1 ≤ R.frames → rxCI1T.2.2.2.1 * 40 ≤ R.locals → bx_Step p l e R s m args below meth c Q Dg rxL X vwCl A xa H0 ad rxM208 rxYI1T (rxII1T S0 ws) (rxmI1T S0 ws) S0 rxCI1T.2.2.1 i q := by
  intro i q hq hus p e R s m args below meth c Q H0 hF hA hH0 hmc hms hd hdl
  match i, hq with
  | 0, hq =>
    cases hq
    exact absurd (show false = true from hus) Bool.false_ne_true
  | 1, hq =>
    cases hq
    exact rx_stepC (ins := .invokevirtual 431) (len := 3) (i_p := 2) (M_p := rxM154) (d := rxCI1T.2.2.2.1) (as := [.inr (3, (0, 274)), .inr (3, (0, 1))]) (t := []) (ct := rxCCZ274x1) hPX hF rfl hA hH0 hmc hms hd hdl (by decide +kernel) rfl rfl (by decide +kernel) (by decide +kernel) hQCZ274x1 (by decide +kernel) rfl (Or.inl ⟨rfl, rfl, rfl⟩) (rxsI1T_1 hP)
  | 2, hq =>
    cases hq
    exact absurd (show false = true from hus) Bool.false_ne_true
  | n + 3, hq => cases hq
theorem rxQI1T {PX : State → Prop} {Dg : va_G} {A : Nat → Prop} {ad xa : Nat → Nat} {l : Launch} {X : (Nat → Int → Int) → Prop} (hPX : rx_PXOK rxNW A PX) (hsl : ∀ s : State, PX s → ∀ o idx n : Nat, rxSl o idx = some n → ∃ tx : String, vk_R (rxNm o) idx tx (ad n) s)
    (hX : ∀ S S_p : Nat → Int → Int, X S → bx_same rxL (bx_mdl rxCI1T.2.2.1) S S_p → X S_p)
    (ih : ∀ (j2 : Nat) (ct2 : bx_Ct) (M2 : rx_Mt), ct2 ∈ rxCnE j2 → ct2.2.2.2.1 + 1 ≤ rxCI1T.2.2.2.1 → rxT.2.2.2.2.2 j2 = some M2 → bx_Con rxG rxNW rxAO PX Dg rxL X vwCl A ad l M2 ct2) (hQCZ274x1 : bx_ConP rxG rxNW rxAO PX Dg rxL X vwCl A ad l rxM154 rxCCZ274x1 rxPCZ274x1 rxPSCZ274x1) : bx_ConP rxG rxNW rxAO PX Dg rxL X vwCl A ad l rxM208 rxCI1T rxPI1T rxPSI1T :=
  rxQof (xa := xa) (Cn := rxCnE) (f := 30000) (j := 208) (tab := rxYI1T) (us := rxUI1T) hPX hsl hX ih rfl rxYcI1T rxII1T rxmI1T
    (fun S0 ws r I0 I ht0 ht as he he1 hX0 hI0 hP hs ha => by
      have e := he.symm.trans (show bx_ent0 rxNP rxCI1T.1 bx_I0 [] = some ([(0, 0), (0, 0), (0, 0), (0, 0), (0, 0), (0, 0), (0, 0), (0, 0), (1, 1)], [], [.inr (3, (0, 0)), .inr (0, (8, 0))]) from rfl)
      cases e
      subst ha
      have h0 : r 0 = 0 := hs.1
      show rxII1T_0 S0 _ S0 (r 8)
      refine ⟨rfl, ?_⟩
      simp only [List.map_cons, List.map_nil, bx_xv_ok h0]
      rfl)
    (fun S0 ws hP => rxuI1T (xa := xa) hPX hX hQCZ274x1 hP) (fun S0 ws hP => rxgCI1T hP) (fun S0 ws hP => rxgEI1T hP)
noncomputable def rzPS208T (S0 : Nat → Int → Int) (ws : List Int) (S : Nat → Int → Int) (w : Option Int) : Prop := ∃ k : Int, ws = [0, k] ∧ ((k = 0 ∧ rxPSI0T S0 [0, 0] S w) ∨ (k = 1 ∧ rxPSI1T S0 [0, 1] S w) ∨ ((k < 0 ∨ 1 < k) ∧ rxPS208 S0 [0, k] S w))
set_option maxHeartbeats 2000000 in
theorem rzQ208T {PX : State → Prop} {Dg : va_G} {A : Nat → Prop} {ad : Nat → Nat} {l : Launch} (hPX : rx_PXOK rxNW A PX) (hsl : ∀ s : State, PX s → ∀ o idx n : Nat, rxSl o idx = some n → ∃ tx : String, vk_R (rxNm o) idx tx (ad n) s) (ih : ∀ (j : Nat) (ct : bx_Ct) (M : rx_Mt), ct ∈ rxCn j → rxT.2.2.2.2.2 j = some M → bx_Con rxG rxNW rxAO PX Dg rxL rxX vwCl A ad l M ct) : bx_ConP rxG rxNW rxAO PX Dg rxL rxX vwCl A ad l rxM208 rxC208 (fun S0 _ => rkPl S0) rzPS208T := by
  have q110 := rxQ110 (PX := PX) (Dg := Dg) (A := A) (ad := ad) (xa := fun n => n) (l := l) (X := rxX) hPX hsl (fun _ _ h hm => rxX_of (by decide +kernel) h hm) (fun _ _ _ h => absurd h List.not_mem_nil)
  have qsc := rxQSCZ (PX := PX) (Dg := Dg) (A := A) (ad := ad) (xa := fun n => n) (l := l) (X := rxX) hPX hsl (fun _ _ h hm => rxX_of (by decide +kernel) h hm) (fun _ _ _ h => absurd h List.not_mem_nil)
  have qqc := rxQQCZ (PX := PX) (Dg := Dg) (A := A) (ad := ad) (xa := fun n => n) (l := l) (X := rxX) hPX hsl (fun _ _ h hm => rxX_of (by decide +kernel) h hm) (fun _ _ _ h => absurd h List.not_mem_nil)
  have qp0 := rxQPC142x5 (PX := PX) (Dg := Dg) (A := A) (ad := ad) (xa := fun n => n) (l := l) (X := rxX) hPX hsl (fun _ _ h hm => rxX_of (by decide +kernel) h hm) (fun _ _ _ h => absurd h List.not_mem_nil)
  have qd0 := rxQDC151x14 (PX := PX) (Dg := Dg) (A := A) (ad := ad) (xa := fun n => n) (l := l) (X := rxX) hPX hsl (fun _ _ h hm => rxX_of (by decide +kernel) h hm) (fun _ _ _ h => absurd h List.not_mem_nil)
  have qc0 := rxQCZ138x1 (PX := PX) (Dg := Dg) (A := A) (ad := ad) (xa := fun n => n) (l := l) (X := rxX) hPX hsl (fun _ _ h hm => rxX_of (by decide +kernel) h hm) (fun _ _ _ h => absurd h List.not_mem_nil) qsc qp0 qd0 qqc
  have qi0 := rxQI0T (PX := PX) (Dg := Dg) (A := A) (ad := ad) (xa := fun n => n) (l := l) (X := rxX) hPX hsl (fun _ _ h hm => rxX_of (by decide +kernel) h hm) (fun _ _ _ h => absurd h List.not_mem_nil) qc0
  have qp1 := rxQPC278x5 (PX := PX) (Dg := Dg) (A := A) (ad := ad) (xa := fun n => n) (l := l) (X := rxX) hPX hsl (fun _ _ h hm => rxX_of (by decide +kernel) h hm) (fun _ _ _ h => absurd h List.not_mem_nil)
  have qd1 := rxQDC287x14 (PX := PX) (Dg := Dg) (A := A) (ad := ad) (xa := fun n => n) (l := l) (X := rxX) hPX hsl (fun _ _ h hm => rxX_of (by decide +kernel) h hm) (fun _ _ _ h => absurd h List.not_mem_nil)
  have qc1 := rxQCZ274x1 (PX := PX) (Dg := Dg) (A := A) (ad := ad) (xa := fun n => n) (l := l) (X := rxX) hPX hsl (fun _ _ h hm => rxX_of (by decide +kernel) h hm) (fun _ _ _ h => absurd h List.not_mem_nil) qsc qp1 qd1 qqc
  have qi1 := rxQI1T (PX := PX) (Dg := Dg) (A := A) (ad := ad) (xa := fun n => n) (l := l) (X := rxX) hPX hsl (fun _ _ h hm => rxX_of (by decide +kernel) h hm) (fun _ _ _ h => absurd h List.not_mem_nil) qc1
  have qg := rxQ208 (PX := PX) (Dg := Dg) (A := A) (ad := ad) (xa := fun n => n) (l := l) (X := rxX) hPX hsl (fun _ _ h hm => rxX_of (by decide +kernel) h hm) (fun j2 ct2 M2 hc hd hM => ih j2 ct2 M2 hc hM) q110
  intro S0 ws hX ha hpre hP Qc hQ
  obtain ⟨w0, wt, rfl, e0, k, wt2, rfl, hk, rfl⟩ := ha
  have e0 : w0 = 0 + 0 := e0
  have e1 : w0 = 0 := by omega
  subst e1
  rcases (show k = 0 ∨ k = 1 ∨ (k < 0 ∨ 1 < k) by omega) with rfl | rfl | h
  · refine qi0 S0 [0, 0] hX ⟨0, _, rfl, rfl, 0, _, rfl, (show (0 : Int) ≤ 0 ∧ (0 : Int) ≤ 0 from ⟨Int.le_refl _, Int.le_refl _⟩), rfl⟩ hpre hP Qc fun x st oc t h => hQ x st oc t ?_
    obtain ⟨⟨S_p, rv, g1, g2, g3, g4, g5, w, g6, g7⟩, g8⟩ := h
    exact ⟨⟨S_p, rv, g1, g2, g3, g4, g5, w, ⟨0, rfl, Or.inl ⟨rfl, g6⟩⟩, g7⟩, g8⟩
  · refine qi1 S0 [0, 1] hX ⟨0, _, rfl, rfl, 1, _, rfl, (show (1 : Int) ≤ 1 ∧ (1 : Int) ≤ 1 from ⟨Int.le_refl _, Int.le_refl _⟩), rfl⟩ hpre hP Qc fun x st oc t h => hQ x st oc t ?_
    obtain ⟨⟨S_p, rv, g1, g2, g3, g4, g5, w, g6, g7⟩, g8⟩ := h
    exact ⟨⟨S_p, rv, g1, g2, g3, g4, g5, w, ⟨1, rfl, Or.inr (Or.inl ⟨rfl, g6⟩)⟩, g7⟩, g8⟩
  · refine qg S0 [0, k] hX ⟨0, _, rfl, rfl, k, _, rfl, hk, rfl⟩ hpre ⟨k, rfl, h⟩ Qc fun x st oc t h2 => hQ x st oc t ?_
    obtain ⟨⟨S_p, rv, g1, g2, g3, g4, g5, w, g6, g7⟩, g8⟩ := h2
    exact ⟨⟨S_p, rv, g1, g2, g3, g4, g5, w, ⟨k, rfl, Or.inr (Or.inr ⟨h, g6⟩)⟩, g7⟩, g8⟩
end
section
noncomputable def rxCB0T : bx_Ct := ([(3, (1, 0, 0)), (0, (0, 0, 0))], some (0, (0, (-6), 0)), [(2, 0), (5, 0), (6, 0), (6, 4), (10, 0), (10, 5), (10, 10), (10, 14), (10, 15), (11, 8), (1000, 0), (1001, 0), (1003, 0), (1004, 0), (1005, 0), (1006, 0), (1007, 0), (1008, 0), (1010, 0), (1011, 0), (1012, 0), (1013, 0), (1015, 0), (1019, 0), (1020, 0), (1021, 0), (1022, 0), (1024, 0), (1025, 0), (1026, 0), (1027, 0), (1037, 0)], 3, [])
noncomputable def rxIB0T_0 (S0 : Nat → Int → Int) (ws : List Int) (S : Nat → Int → Int) (ki : Int) : Prop := S = S0 ∧ ws = [0, ki]
noncomputable def rxmB0T_0 (S0 : Nat → Int → Int) (ws : List Int) (S : Nat → Int → Int) (ki : Int) : Nat := 100
noncomputable def rxzB0T_0 : rx_Z := ([(0, 0), (0, 0), (0, 0), (0, 0), (0, 0), (0, 0), (0, 0), (0, 0), (0, 0)], [], [], 0, 0, 0, [(0, .inr (3, (0, 0))), (1, .inr (0, (8, 0)))], [])
noncomputable def rxIB0T_1 (S0 : Nat → Int → Int) (ws : List Int) (S : Nat → Int → Int) (ki : Int) : Prop := S = S0 ∧ S0 410 0 = 0
noncomputable def rxmB0T_1 (S0 : Nat → Int → Int) (ws : List Int) (S : Nat → Int → Int) (ki : Int) : Nat := 50
noncomputable def rxzB0T_1 : rx_Z := ([(0, 0), (0, 0), (0, 0), (0, 0), (0, 0), (0, 0), (0, 0), (0, 0), (0, 0)], [], [], 0, 0, 27, [(0, .inr (3, (0, 0))), (1, .inr (0, (8, 0)))], [.inr (0, (0, (-2))), .inr (3, (0, 0))])
noncomputable def rxIB0T_2 (S0 : Nat → Int → Int) (ws : List Int) (S : Nat → Int → Int) (ki res : Int) : Prop := res = -2 ∧ S0 410 0 = 0 ∧ bx_same rxL (bx_mdl rxC110.2.2.1) S0 S
noncomputable def rxmB0T_2 (S0 : Nat → Int → Int) (ws : List Int) (S : Nat → Int → Int) (ki res : Int) : Nat := 20
noncomputable def rxzB0T_2 : rx_Z := ([(0, 0), (0, 0), (0, 0), (0, 0), (0, 0), (0, 0), (0, 0), (0, 0), (0, 0), ((-6), (-1))], [], [], 0, 0, 30, [(0, .inr (3, (0, 0))), (1, .inr (0, (8, 0)))], [.inr (0, (9, 0))])
noncomputable def rxIB0T_3 (S0 : Nat → Int → Int) (ws : List Int) (S : Nat → Int → Int) (ki : Int) : Prop := S = S0 ∧ S0 410 0 ≠ 0
noncomputable def rxmB0T_3 (S0 : Nat → Int → Int) (ws : List Int) (S : Nat → Int → Int) (ki : Int) : Nat := 50
noncomputable def rxzB0T_3 : rx_Z := ([(0, 0), (0, 0), (0, 0), (0, 0), (0, 0), (0, 0), (0, 0), (0, 0), (0, 0)], [], [], 0, 0, 41, [(0, .inr (3, (0, 0))), (1, .inr (0, (8, 0)))], [.inr (3, (0, 138)), .inr (3, (0, 1))])
noncomputable def rxIB0T_4 (S0 : Nat → Int → Int) (ws : List Int) (S : Nat → Int → Int) (ki : Int) : Prop := rxPSCZ1x138 S0 [1, 138] S none ∧ S0 410 0 ≠ 0
noncomputable def rxmB0T_4 (S0 : Nat → Int → Int) (ws : List Int) (S : Nat → Int → Int) (ki : Int) : Nat := 20
noncomputable def rxzB0T_4 : rx_Z := ([(0, 0), (0, 0), (0, 0), (0, 0), (0, 0), (0, 0), (0, 0), (0, 0), (0, 0)], [], [], 0, 0, 44, [(0, .inr (3, (0, 0))), (1, .inr (0, (8, 0)))], [])
noncomputable def rxoB0T_0_0 : bx_HO := (([(0, 0), (0, 0), (0, 0), (0, 0), (0, 0), (0, 0), (0, 0), (0, 0), (0, 0), (0, 0)], [], [(((0, 0), 1851192626986356797424364830707437625680387377997778265106415616000000), .inr (0, (9, 0))), (((0, 410), 0), .inr (0, (9, 0))), (((0, 0), 2), .inr (3, (0, 410)))], 0, 0, 27, [(0, .inr (3, (0, 0))), (1, .inr (0, (8, 0)))], [.inr (0, (0, (-2))), .inr (3, (0, 0))]), [], [], [(0, 0), (0, 0), (0, 0), (0, 0), (0, 0), (0, 0), (0, 0), (0, 0), (8, 0)], 1)
noncomputable def rxoB0T_0_1 : bx_HO := (([(0, 0), (0, 0), (0, 0), (0, 0), (0, 0), (0, 0), (0, 0), (0, 0), (0, 0), (1, 1)], [(3, (9, 0), (0, 0))], [(((0, 137), 0), .inr (3, (0, 138))), (((0, 0), 1), .inr (3, (0, 137))), (((0, 0), 0), .inr (3, (0, 1))), (((0, 0), 1851192626986356797424364830707437625680387377997778265106415616000000), .inr (0, (9, 0))), (((0, 410), 0), .inr (0, (9, 0))), (((0, 0), 2), .inr (3, (0, 410)))], 0, 0, 41, [(0, .inr (3, (0, 0))), (1, .inr (0, (8, 0)))], [.inr (3, (0, 138)), .inr (3, (0, 1))]), [], [], [(0, 0), (0, 0), (0, 0), (0, 0), (0, 0), (0, 0), (0, 0), (0, 0), (8, 0)], 3)
noncomputable def rxeB0T_2_0 : rx_End × List (Nat × Int × Int) := (([(0, 0), (0, 0), (0, 0), (0, 0), (0, 0), (0, 0), (0, 0), (0, 0), (0, 0), ((-6), (-1))], [], [], some (.inr (0, (9, 0)))), [])
noncomputable def rxeB0T_4_0 : rx_End × List (Nat × Int × Int) := (([(0, 0), (0, 0), (0, 0), (0, 0), (0, 0), (0, 0), (0, 0), (0, 0), (0, 0)], [], [(((0, 0), 1851192626986356799029993984671224184301589730656725205983952899000000), .inr (0, (0, 0))), (((0, 0), 8), .inr (0, (0, 0)))], some (.inr (0, (0, 0)))), [])
noncomputable def rxYB0T : List bx_HE := [(rxzB0T_0, [rxoB0T_0_0, rxoB0T_0_1], []), (rxzB0T_1, [], []), (rxzB0T_2, [], [rxeB0T_2_0]), (rxzB0T_3, [], []), (rxzB0T_4, [], [rxeB0T_4_0])]
noncomputable def rxUB0T (q : bx_HE) : Bool := Nat.beq (rx_zpc q.1) 27 || Nat.beq (rx_zpc q.1) 41
noncomputable def rxYBB0T : bx_B := (rxV, rxNP, rxDmf, bx_mdH rxCB0T.2.2.1)
set_option maxRecDepth 100000 in
theorem rxYcB0T : bx_chkH rxYBB0T rxM210 rxCB0T rxYB0T (rxUB0T, fun cut z => rx_ex2 (rxCT rxYBB0T rxCnE) cut 30000 rxCB0T.2.2.2.1 210 z) = true := by decide +kernel
noncomputable def rxIB0T (S0 : Nat → Int → Int) (ws : List Int) (i : Nat) : bx_SP := fun S r => match i with | 0 => rxIB0T_0 S0 ws S (r 8) | 1 => rxIB0T_1 S0 ws S (r 8) | 2 => rxIB0T_2 S0 ws S (r 8) (r 9) | 3 => rxIB0T_3 S0 ws S (r 8) | 4 => rxIB0T_4 S0 ws S (r 8) | _ => False
noncomputable def rxmB0T (S0 : Nat → Int → Int) (ws : List Int) (i : Nat) (S : Nat → Int → Int) (r : Nat → Int) : Nat := match i with | 0 => rxmB0T_0 S0 ws S (r 8) | 1 => rxmB0T_1 S0 ws S (r 8) | 2 => rxmB0T_2 S0 ws S (r 8) (r 9) | 3 => rxmB0T_3 S0 ws S (r 8) | 4 => rxmB0T_4 S0 ws S (r 8) | _ => 0
noncomputable def rxPB0T (S0 : Nat → Int → Int) (ws : List Int) : Prop := rkPl S0
noncomputable def rxPSB0T (S0 : Nat → Int → Int) (ws : List Int) (S : Nat → Int → Int) (w : Option Int) : Prop := (S0 410 0 = 0 ∧ w = some (-2) ∧ bx_same rxL (bx_mdl rxC110.2.2.1) S0 S) ∨ (S0 410 0 ≠ 0 ∧ w = some 0 ∧ ∃ S1 : Nat → Int → Int, rxPSCZ1x138 S0 [1, 138] S1 none ∧ S = bx_up S1 0 8 0)
theorem rxkB0T_1 {S0 : Nat → Int → Int} {ws : List Int} {S : Nat → Int → Int} {ki : Int} (hP : rxPB0T S0 ws) (hin : bx_same rxL (bx_mdl rxCB0T.2.2.1) S0 S) (I0 : bx_Inv rxL S) (hinv : rxIB0T_1 S0 ws S ki) (l8 : 0 ≤ ki) (u8 : ki ≤ 0) : rxP110 S [0, (-2)] ∧ ∀ (S_p : Nat → Int → Int) (res : Int), (-6) ≤ res → res ≤ (-1) → rxPS110 S [0, (-2)] S_p (some res) → bx_Inv rxL S_p → bx_same rxL (bx_mdl rxC110.2.2.1) S S_p → rxIB0T_2 S0 ws S_p ki res ∧ rxmB0T_2 S0 ws S_p ki res < rxmB0T_1 S0 ws S ki := by
  obtain ⟨rfl, h1⟩ := hinv
  refine ⟨trivial, fun S_p res _ _ hq _ hsm => ⟨⟨?_, h1, hsm⟩, by unfold rxmB0T_1 rxmB0T_2; omega⟩⟩
  obtain ⟨c, hc, hr⟩ := hq
  simp only [List.cons.injEq, and_true, true_and] at hc
  simp only [Option.some.injEq] at hr
  omega
theorem rxsB0T_1 {X : (Nat → Int → Int) → Prop} {S0 : Nat → Int → Int} {ws : List Int} (hP : rxPB0T S0 ws) : rx_obK X S0 rxCB0T.2.2.1 rxC110.2.2.1 (rxIB0T S0 ws) (rxmB0T S0 ws) 1 2 rxzB0T_1 rxzB0T_2 [.inr (3, (0, 0)), .inr (0, (0, (-2)))] (some 9) rxP110 rxPS110 := by
  intro S r hinv hXS I0 hin hs_ hf_
  have b_ := bx_bds_sat hs_
  have f_ := bx_fcl_ok hs_.1 hf_
  obtain ⟨⟨l8, u8⟩, -⟩ := b_
  have g := rxkB0T_1 hP hin I0 hinv l8 u8
  have ea : List.map (bx_num r) [.inr (3, (0, 0)), .inr (0, (0, (-2)))] = [0, -2] := by
    simp only [List.map_cons, List.map_nil, bx_xv_ok hs_.1]
    rfl
  rw [ea]
  refine ⟨g.1, fun S_p w r_p hPS hX_p I1 hsm hr hw hs_p => ?_⟩
  have hw := hw _ rfl
  subst hw
  have b_p := hs_p.2.2 9 _ _ rfl
  have g2 := g.2 S_p (r_p 9) b_p.1 b_p.2 hPS I1 hsm
  show rxIB0T_2 S0 ws S_p (r_p 8) (r_p 9) ∧ rxmB0T_2 S0 ws S_p (r_p 8) (r_p 9) < _
  rw [hr 8 (by decide)]
  exact g2
theorem rxkB0T_3 {S0 : Nat → Int → Int} {ws : List Int} {S : Nat → Int → Int} {ki : Int} (hP : rxPB0T S0 ws) (hin : bx_same rxL (bx_mdl rxCB0T.2.2.1) S0 S) (I0 : bx_Inv rxL S) (hinv : rxIB0T_3 S0 ws S ki) (l8 : 0 ≤ ki) (u8 : ki ≤ 0) : rxPCZ1x138 S [1, 138] ∧ ∀ (S_p : Nat → Int → Int), rxPSCZ1x138 S [1, 138] S_p none → bx_Inv rxL S_p → bx_same rxL (bx_mdl rxCCZ1x138.2.2.1) S S_p → rxIB0T_4 S0 ws S_p ki ∧ rxmB0T_4 S0 ws S_p ki < rxmB0T_3 S0 ws S ki := by
  obtain ⟨rfl, h1⟩ := hinv
  exact ⟨hP, fun S_p hq _ hsm => ⟨⟨hq, h1⟩, by unfold rxmB0T_3 rxmB0T_4; omega⟩⟩
theorem rxsB0T_3 {X : (Nat → Int → Int) → Prop} {S0 : Nat → Int → Int} {ws : List Int} (hP : rxPB0T S0 ws) : rx_obK X S0 rxCB0T.2.2.1 rxCCZ1x138.2.2.1 (rxIB0T S0 ws) (rxmB0T S0 ws) 3 4 rxzB0T_3 rxzB0T_4 [.inr (3, (0, 1)), .inr (3, (0, 138))] none rxPCZ1x138 rxPSCZ1x138 := by
  intro S r hinv hXS I0 hin hs_ hf_
  have b_ := bx_bds_sat hs_
  have f_ := bx_fcl_ok hs_.1 hf_
  obtain ⟨⟨l8, u8⟩, -⟩ := b_
  have g := rxkB0T_3 hP hin I0 hinv l8 u8
  have ea : List.map (bx_num r) [.inr (3, (0, 1)), .inr (3, (0, 138))] = [1, 138] := by
    simp only [List.map_cons, List.map_nil, bx_xv_ok hs_.1]
    rfl
  rw [ea]
  refine ⟨g.1, fun S_p w r_p hPS hX_p I1 hsm hr hw hs_p => ?_⟩
  have hw : w = none := hPS.1
  subst hw
  have g2 := g.2 S_p hPS I1 hsm
  show rxIB0T_4 S0 ws S_p (r_p 8) ∧ rxmB0T_4 S0 ws S_p (r_p 8) < _
  rw [hr 8 (by decide)]
  exact g2
theorem rxcB0T_0_0 {S0 : Nat → Int → Int} {ws : List Int} {S : Nat → Int → Int} {ki x9 : Int} (hP : rxPB0T S0 ws) (hin : bx_same rxL (bx_mdl rxCB0T.2.2.1) S0 S) (I0 : bx_Inv rxL S) (hinv : rxIB0T_0 S0 ws S ki) (l8 : 0 ≤ ki) (u8 : ki ≤ 0) (l9 : 0 ≤ x9) (u9 : x9 ≤ 0) (e0 : S 410 ki = x9) : (True) ∧ (True) ∧ rxIB0T_1 S0 ws S ki ∧ rxmB0T_1 S0 ws S ki < rxmB0T_0 S0 ws S ki := by
  obtain ⟨rfl, hw⟩ := hinv
  have e : ki = 0 := by omega
  subst e
  exact ⟨trivial, trivial, ⟨rfl, by omega⟩, by unfold rxmB0T_0 rxmB0T_1; omega⟩
theorem rxgB0T_0_0 {X : (Nat → Int → Int) → Prop} {S0 : Nat → Int → Int} {ws : List Int} (hP : rxPB0T S0 ws) : bx_obC rxL X S0 rxCB0T.2.2.1 (rxIB0T S0 ws) (rxmB0T S0 ws) 0 rxzB0T_0 rxoB0T_0_0 := by
  intro S S_p r r_p hinv hX hin hsm_ hseg
  obtain ⟨I0, I1, h0_, hr_, b_, f_, d_⟩ := bx_cl (evs := [(0, (0, 410), (8, 0), .inr (0, (9, 0)))]) (fvs := []) hseg (by decide +kernel) (by decide +kernel)
  have hinv : rxIB0T_0 S0 ws S (r 8) := hinv
  rw [← hr_ 8 (by decide)] at hinv
  obtain ⟨⟨l8, u8⟩, ⟨l9, u9⟩, -⟩ := b_
  obtain ⟨e0, w_⟩ := d_
  subst w_
  have g := rxcB0T_0_0 hP hin I0 hinv l8 u8 l9 u9 e0
  refine ⟨bx_narP_ok (l := []) g.1, bx_nfP_ok h0_ (fvs := []) (by decide +kernel) g.2.1, ?_, ?_⟩
  · show rxIB0T_1 S0 ws S_p (bx_val [(0, 0), (0, 0), (0, 0), (0, 0), (0, 0), (0, 0), (0, 0), (0, 0), (8, 0)] r_p 8)
    rw [bx_val_x (n := 8) (e := (8, 0)) h0_ rfl]
    exact g.2.2.1
  · show rxmB0T_1 S0 ws S_p (bx_val [(0, 0), (0, 0), (0, 0), (0, 0), (0, 0), (0, 0), (0, 0), (0, 0), (8, 0)] r_p 8) < rxmB0T_0 S0 ws S_p (r 8)
    rw [bx_val_x (n := 8) (e := (8, 0)) h0_ rfl, ← hr_ 8 (by decide)]
    exact g.2.2.2
theorem rxcB0T_0_1 {S0 : Nat → Int → Int} {ws : List Int} {S : Nat → Int → Int} {ki x9 : Int} (hP : rxPB0T S0 ws) (hin : bx_same rxL (bx_mdl rxCB0T.2.2.1) S0 S) (I0 : bx_Inv rxL S) (hinv : rxIB0T_0 S0 ws S ki) (l8 : 0 ≤ ki) (u8 : ki ≤ 0) (l9 : 1 ≤ x9) (u9 : x9 ≤ 1) (f0 : x9 ≠ 0) (e0 : S 410 ki = x9) : (True) ∧ (True) ∧ rxIB0T_3 S0 ws S ki ∧ rxmB0T_3 S0 ws S ki < rxmB0T_0 S0 ws S ki := by
  obtain ⟨rfl, hw⟩ := hinv
  have e : ki = 0 := by omega
  subst e
  exact ⟨trivial, trivial, ⟨rfl, by omega⟩, by unfold rxmB0T_0 rxmB0T_3; omega⟩
theorem rxgB0T_0_1 {X : (Nat → Int → Int) → Prop} {S0 : Nat → Int → Int} {ws : List Int} (hP : rxPB0T S0 ws) : bx_obC rxL X S0 rxCB0T.2.2.1 (rxIB0T S0 ws) (rxmB0T S0 ws) 0 rxzB0T_0 rxoB0T_0_1 := by
  intro S S_p r r_p hinv hX hin hsm_ hseg
  obtain ⟨I0, I1, h0_, hr_, b_, f_, d_⟩ := bx_cl (evs := [(0, (0, 410), (8, 0), .inr (0, (9, 0)))]) (fvs := [(3, (9, 0), (0, 0), (0, 0))]) hseg (by decide +kernel) (by decide +kernel)
  have hinv : rxIB0T_0 S0 ws S (r 8) := hinv
  rw [← hr_ 8 (by decide)] at hinv
  obtain ⟨⟨l8, u8⟩, ⟨l9, u9⟩, -⟩ := b_
  obtain ⟨f0, -⟩ := f_
  obtain ⟨e0, w_⟩ := d_
  subst w_
  have g := rxcB0T_0_1 hP hin I0 hinv l8 u8 l9 u9 f0 e0
  refine ⟨bx_narP_ok (l := []) g.1, bx_nfP_ok h0_ (fvs := []) (by decide +kernel) g.2.1, ?_, ?_⟩
  · show rxIB0T_3 S0 ws S_p (bx_val [(0, 0), (0, 0), (0, 0), (0, 0), (0, 0), (0, 0), (0, 0), (0, 0), (8, 0)] r_p 8)
    rw [bx_val_x (n := 8) (e := (8, 0)) h0_ rfl]
    exact g.2.2.1
  · show rxmB0T_3 S0 ws S_p (bx_val [(0, 0), (0, 0), (0, 0), (0, 0), (0, 0), (0, 0), (0, 0), (0, 0), (8, 0)] r_p 8) < rxmB0T_0 S0 ws S_p (r 8)
    rw [bx_val_x (n := 8) (e := (8, 0)) h0_ rfl, ← hr_ 8 (by decide)]
    exact g.2.2.2
theorem rxdB0T_2_0 {S0 : Nat → Int → Int} {ws : List Int} {S : Nat → Int → Int} {ki res : Int} (hP : rxPB0T S0 ws) (hin : bx_same rxL (bx_mdl rxCB0T.2.2.1) S0 S) (hin2 : bx_same rxL (bx_mdl rxCB0T.2.2.1) S S) (I0 : bx_Inv rxL S) (I1 : bx_Inv rxL S) (hinv : rxIB0T_2 S0 ws S ki res) (l8 : 0 ≤ ki) (u8 : ki ≤ 0) (l9 : (-6) ≤ res) (u9 : res ≤ (-1)) : (True) ∧ rxPSB0T S0 ws S (some res) := by
  obtain ⟨h1, h2, h3⟩ := hinv
  exact ⟨trivial, Or.inl ⟨h2, congrArg some h1, h3⟩⟩
theorem rxfB0T_2_0 {X : (Nat → Int → Int) → Prop} {S0 : Nat → Int → Int} {ws : List Int} (hP : rxPB0T S0 ws) : bx_obE rxL X S0 rxCB0T.2.2.1 (rxIB0T S0 ws) (rxPSB0T S0 ws) 2 rxzB0T_2 rxeB0T_2_0 := by
  intro S S_p r r_p hinv hX hin hsm_ hseg
  obtain ⟨I0, I1, h0_, hr_, b_, f_, d_⟩ := bx_cl (evs := []) (fvs := []) hseg (by decide +kernel) (by decide +kernel)
  have hinv : rxIB0T_2 S0 ws S (r 8) (r 9) := hinv
  rw [← hr_ 8 (by decide), ← hr_ 9 (by decide)] at hinv
  obtain ⟨⟨l8, u8⟩, ⟨l9, u9⟩, -⟩ := b_
  have w_ := d_
  subst w_
  have g := rxdB0T_2_0 hP hin hsm_ I0 I1 hinv l8 u8 l9 u9
  refine ⟨bx_narP_ok (l := []) g.1, ?_⟩
  show rxPSB0T S0 ws S_p (some (bx_num r_p (.inr (0, (9, 0)))))
  rw [bx_xv_ok h0_]
  exact g.2
theorem rxdB0T_4_0 {S0 : Nat → Int → Int} {ws : List Int} {S : Nat → Int → Int} {ki : Int} (hP : rxPB0T S0 ws) (hin : bx_same rxL (bx_mdl rxCB0T.2.2.1) S0 S) (hin2 : bx_same rxL (bx_mdl rxCB0T.2.2.1) S (bx_up S 0 8 0)) (I0 : bx_Inv rxL S) (I1 : bx_Inv rxL (bx_up S 0 8 0)) (hinv : rxIB0T_4 S0 ws S ki) (l8 : 0 ≤ ki) (u8 : ki ≤ 0) : (True) ∧ rxPSB0T S0 ws (bx_up S 0 8 0) (some 0) := by
  obtain ⟨h1, h2⟩ := hinv
  exact ⟨trivial, Or.inr ⟨h2, rfl, S, h1, rfl⟩⟩
theorem rxfB0T_4_0 {X : (Nat → Int → Int) → Prop} {S0 : Nat → Int → Int} {ws : List Int} (hP : rxPB0T S0 ws) : bx_obE rxL X S0 rxCB0T.2.2.1 (rxIB0T S0 ws) (rxPSB0T S0 ws) 4 rxzB0T_4 rxeB0T_4_0 := by
  intro S S_p r r_p hinv hX hin hsm_ hseg
  obtain ⟨I0, I1, h0_, hr_, b_, f_, d_⟩ := bx_cl (evs := [(1, (0, 0), (0, 8), .inr (0, (0, 0)))]) (fvs := []) hseg (by decide +kernel) (by decide +kernel)
  have hinv : rxIB0T_4 S0 ws S (r 8) := hinv
  rw [← hr_ 8 (by decide)] at hinv
  obtain ⟨⟨l8, u8⟩, -⟩ := b_
  obtain ⟨T0, w_, w0⟩ := d_
  subst w0
  subst w_
  have g := rxdB0T_4_0 hP hin hsm_ I0 I1 hinv l8 u8
  refine ⟨bx_narP_ok (l := []) g.1, ?_⟩
  show rxPSB0T S0 ws (bx_up T0 0 (8) (0)) (some (bx_num r_p (.inr (0, (0, 0)))))
  rw [bx_xv_ok h0_]
  exact g.2
theorem rxgCB0T {X : (Nat → Int → Int) → Prop} {S0 : Nat → Int → Int} {ws : List Int} (hP : rxPB0T S0 ws) : bx_allI (fun i q => rxUB0T q = true ∨ bx_allP (fun o => bx_obC rxL X S0 rxCB0T.2.2.1 (rxIB0T S0 ws) (rxmB0T S0 ws) i q.1 o) q.2.1) 0 rxYB0T := ⟨Or.inr ⟨rxgB0T_0_0 hP, rxgB0T_0_1 hP, trivial⟩, Or.inl rfl, Or.inr trivial, Or.inl rfl, Or.inr trivial, trivial⟩
theorem rxgEB0T {X : (Nat → Int → Int) → Prop} {S0 : Nat → Int → Int} {ws : List Int} (hP : rxPB0T S0 ws) : bx_allI (fun i q => rxUB0T q = true ∨ bx_allP (fun E => bx_obE rxL X S0 rxCB0T.2.2.1 (rxIB0T S0 ws) (rxPSB0T S0 ws) i q.1 E) q.2.2) 0 rxYB0T := ⟨Or.inr trivial, Or.inl rfl, Or.inr ⟨rxfB0T_2_0 hP, trivial⟩, Or.inl rfl, Or.inr ⟨rxfB0T_4_0 hP, trivial⟩, trivial⟩
theorem rxuB0T {PX : State → Prop} {Dg : va_G} {A : Nat → Prop} {ad xa : Nat → Nat} {l : Launch} {X : (Nat → Int → Int) → Prop} (hPX : rx_PXOK rxNW A PX) (hX : ∀ S S1 : Nat → Int → Int, X S → bx_same rxL (bx_mdl rxCB0T.2.2.1) S S1 → X S1) (hQ110 : bx_ConP rxG rxNW rxAO PX Dg rxL X vwCl A ad l rxM110 rxC110 rxP110 rxPS110) (hQCZ1x138 : bx_ConP rxG rxNW rxAO PX Dg rxL X vwCl A ad l rxM154 rxCCZ1x138 rxPCZ1x138 rxPSCZ1x138) {S0 : Nat → Int → Int} {ws : List Int} (hP : rxPB0T S0 ws) : ∀ (i : Nat) (q : bx_HE), rxYB0T[i]? = some q → rxUB0T q = true → ∀ {p : Program} {e : Env} {R : Room} {s : State} {m : MethodId} {args : Array Value} {below : List Frame} {meth : Method} {c : Code} {Q : State → Prop} {H0 : Heap}, rx_Fr rxG rxNW rxAO PX p s m args meth c rxM210 → (∀ q, H0.size ≤ q → A q) → H0 = s.heap → rxM210.2.2.2.2.2.2.1 ≤ R.cells → rxM210.2.2.2.2.2.2.2 ≤ R.slots → rxCB0T.2.2.2.1 ≤ R.frames → rxCB0T.2.2.2.1 * 40 ≤ R.locals → bx_Step p l e R s m args below meth c Q Dg rxL X vwCl A xa H0 ad rxM210 rxYB0T (rxIB0T S0 ws) (rxmB0T S0 ws) S0 rxCB0T.2.2.1 i q := by
  intro i q hq hus p e R s m args below meth c Q H0 hF hA hH0 hmc hms hd hdl
  match i, hq with
  | 0, hq =>
    cases hq
    exact absurd (show false = true from hus) Bool.false_ne_true
  | 1, hq =>
    cases hq
    exact rx_stepC (ins := .invokevirtual 110) (len := 3) (i_p := 2) (M_p := rxM110) (d := rxCB0T.2.2.2.1) (as := [.inr (3, (0, 0)), .inr (0, (0, (-2)))]) (t := []) (ct := rxC110) hPX hF rfl hA hH0 hmc hms hd hdl (by decide +kernel) rfl rfl (by decide +kernel) (by decide +kernel) hQ110 (by decide +kernel) rfl (Or.inr ⟨_, _, _, 1, rfl, rfl, by omega, rfl, rfl, rfl⟩) (rxsB0T_1 hP)
  | 2, hq =>
    cases hq
    exact absurd (show false = true from hus) Bool.false_ne_true
  | 3, hq =>
    cases hq
    exact rx_stepC (ins := .invokevirtual 431) (len := 3) (i_p := 4) (M_p := rxM154) (d := rxCB0T.2.2.2.1) (as := [.inr (3, (0, 1)), .inr (3, (0, 138))]) (t := []) (ct := rxCCZ1x138) hPX hF rfl hA hH0 hmc hms hd hdl (by decide +kernel) rfl rfl (by decide +kernel) (by decide +kernel) hQCZ1x138 (by decide +kernel) rfl (Or.inl ⟨rfl, rfl, rfl⟩) (rxsB0T_3 hP)
  | 4, hq =>
    cases hq
    exact absurd (show false = true from hus) Bool.false_ne_true
  | n + 5, hq => cases hq
theorem rxQB0T {PX : State → Prop} {Dg : va_G} {A : Nat → Prop} {ad xa : Nat → Nat} {l : Launch} {X : (Nat → Int → Int) → Prop} (hPX : rx_PXOK rxNW A PX) (hsl : ∀ s : State, PX s → ∀ o idx n : Nat, rxSl o idx = some n → ∃ tx : String, vk_R (rxNm o) idx tx (ad n) s)
    (hX : ∀ S S_p : Nat → Int → Int, X S → bx_same rxL (bx_mdl rxCB0T.2.2.1) S S_p → X S_p)
    (ih : ∀ (j2 : Nat) (ct2 : bx_Ct) (M2 : rx_Mt), ct2 ∈ rxCnE j2 → ct2.2.2.2.1 + 1 ≤ rxCB0T.2.2.2.1 → rxT.2.2.2.2.2 j2 = some M2 → bx_Con rxG rxNW rxAO PX Dg rxL X vwCl A ad l M2 ct2) (hQ110 : bx_ConP rxG rxNW rxAO PX Dg rxL X vwCl A ad l rxM110 rxC110 rxP110 rxPS110) (hQCZ1x138 : bx_ConP rxG rxNW rxAO PX Dg rxL X vwCl A ad l rxM154 rxCCZ1x138 rxPCZ1x138 rxPSCZ1x138) : bx_ConP rxG rxNW rxAO PX Dg rxL X vwCl A ad l rxM210 rxCB0T rxPB0T rxPSB0T :=
  rxQof (xa := xa) (Cn := rxCnE) (f := 30000) (j := 210) (tab := rxYB0T) (us := rxUB0T) hPX hsl hX ih rfl rxYcB0T rxIB0T rxmB0T
    (fun S0 ws r I0 I ht0 ht as he he1 hX0 hI0 hP hs ha => by
      have e := he.symm.trans (show bx_ent0 rxNP rxCB0T.1 bx_I0 [] = some ([(0, 0), (0, 0), (0, 0), (0, 0), (0, 0), (0, 0), (0, 0), (0, 0), (0, 0)], [], [.inr (3, (0, 0)), .inr (0, (8, 0))]) from rfl)
      cases e
      subst ha
      have h0 : r 0 = 0 := hs.1
      show rxIB0T_0 S0 _ S0 (r 8)
      refine ⟨rfl, ?_⟩
      simp only [List.map_cons, List.map_nil, bx_xv_ok h0]
      rfl)
    (fun S0 ws hP => rxuB0T (xa := xa) hPX hX hQ110 hQCZ1x138 hP) (fun S0 ws hP => rxgCB0T hP) (fun S0 ws hP => rxgEB0T hP)
noncomputable def rxCB1T : bx_Ct := ([(3, (1, 0, 0)), (0, (0, 1, 1))], some (0, (0, (-6), 0)), [(2, 0), (5, 0), (6, 0), (6, 4), (10, 0), (10, 5), (10, 10), (10, 14), (10, 15), (11, 8), (1000, 0), (1001, 0), (1003, 0), (1004, 0), (1005, 0), (1006, 0), (1007, 0), (1008, 0), (1010, 0), (1011, 0), (1012, 0), (1013, 0), (1015, 0), (1019, 0), (1020, 0), (1021, 0), (1022, 0), (1024, 0), (1025, 0), (1026, 0), (1027, 0), (1037, 0)], 3, [])
noncomputable def rxIB1T_0 (S0 : Nat → Int → Int) (ws : List Int) (S : Nat → Int → Int) (ki : Int) : Prop := S = S0 ∧ ws = [0, ki]
noncomputable def rxmB1T_0 (S0 : Nat → Int → Int) (ws : List Int) (S : Nat → Int → Int) (ki : Int) : Nat := 100
noncomputable def rxzB1T_0 : rx_Z := ([(0, 0), (0, 0), (0, 0), (0, 0), (0, 0), (0, 0), (0, 0), (0, 0), (1, 1)], [], [], 0, 0, 0, [(0, .inr (3, (0, 0))), (1, .inr (0, (8, 0)))], [])
noncomputable def rxIB1T_1 (S0 : Nat → Int → Int) (ws : List Int) (S : Nat → Int → Int) (ki : Int) : Prop := S = S0 ∧ S0 410 1 = 0
noncomputable def rxmB1T_1 (S0 : Nat → Int → Int) (ws : List Int) (S : Nat → Int → Int) (ki : Int) : Nat := 50
noncomputable def rxzB1T_1 : rx_Z := ([(0, 0), (0, 0), (0, 0), (0, 0), (0, 0), (0, 0), (0, 0), (0, 0), (1, 1)], [], [], 0, 0, 27, [(0, .inr (3, (0, 0))), (1, .inr (0, (8, 0)))], [.inr (0, (0, (-2))), .inr (3, (0, 0))])
noncomputable def rxIB1T_2 (S0 : Nat → Int → Int) (ws : List Int) (S : Nat → Int → Int) (ki res : Int) : Prop := res = -2 ∧ S0 410 1 = 0 ∧ bx_same rxL (bx_mdl rxC110.2.2.1) S0 S
noncomputable def rxmB1T_2 (S0 : Nat → Int → Int) (ws : List Int) (S : Nat → Int → Int) (ki res : Int) : Nat := 20
noncomputable def rxzB1T_2 : rx_Z := ([(0, 0), (0, 0), (0, 0), (0, 0), (0, 0), (0, 0), (0, 0), (0, 0), (1, 1), ((-6), (-1))], [], [], 0, 0, 30, [(0, .inr (3, (0, 0))), (1, .inr (0, (8, 0)))], [.inr (0, (9, 0))])
noncomputable def rxIB1T_3 (S0 : Nat → Int → Int) (ws : List Int) (S : Nat → Int → Int) (ki : Int) : Prop := S = S0 ∧ S0 410 1 ≠ 0
noncomputable def rxmB1T_3 (S0 : Nat → Int → Int) (ws : List Int) (S : Nat → Int → Int) (ki : Int) : Nat := 50
noncomputable def rxzB1T_3 : rx_Z := ([(0, 0), (0, 0), (0, 0), (0, 0), (0, 0), (0, 0), (0, 0), (0, 0), (1, 1)], [], [], 0, 0, 41, [(0, .inr (3, (0, 0))), (1, .inr (0, (8, 0)))], [.inr (3, (0, 274)), .inr (3, (0, 1))])
noncomputable def rxIB1T_4 (S0 : Nat → Int → Int) (ws : List Int) (S : Nat → Int → Int) (ki : Int) : Prop := rxPSCZ1x274 S0 [1, 274] S none ∧ S0 410 1 ≠ 0
noncomputable def rxmB1T_4 (S0 : Nat → Int → Int) (ws : List Int) (S : Nat → Int → Int) (ki : Int) : Nat := 20
noncomputable def rxzB1T_4 : rx_Z := ([(0, 0), (0, 0), (0, 0), (0, 0), (0, 0), (0, 0), (0, 0), (0, 0), (1, 1)], [], [], 0, 0, 44, [(0, .inr (3, (0, 0))), (1, .inr (0, (8, 0)))], [])
noncomputable def rxoB1T_0_0 : bx_HO := (([(0, 0), (0, 0), (0, 0), (0, 0), (0, 0), (0, 0), (0, 0), (0, 0), (1, 1), (0, 0)], [], [(((0, 0), 1851192626986356797424364830707437625680387377997778265106415616000000), .inr (0, (9, 0))), (((0, 410), 1), .inr (0, (9, 0))), (((0, 0), 2), .inr (3, (0, 410)))], 0, 0, 27, [(0, .inr (3, (0, 0))), (1, .inr (0, (8, 0)))], [.inr (0, (0, (-2))), .inr (3, (0, 0))]), [], [], [(0, 0), (0, 0), (0, 0), (0, 0), (0, 0), (0, 0), (0, 0), (0, 0), (8, 0)], 1)
noncomputable def rxoB1T_0_1 : bx_HO := (([(0, 0), (0, 0), (0, 0), (0, 0), (0, 0), (0, 0), (0, 0), (0, 0), (1, 1), (1, 1)], [(3, (9, 0), (0, 0))], [(((0, 137), 1), .inr (3, (0, 274))), (((0, 0), 1), .inr (3, (0, 137))), (((0, 0), 0), .inr (3, (0, 1))), (((0, 0), 1851192626986356797424364830707437625680387377997778265106415616000000), .inr (0, (9, 0))), (((0, 410), 1), .inr (0, (9, 0))), (((0, 0), 2), .inr (3, (0, 410)))], 0, 0, 41, [(0, .inr (3, (0, 0))), (1, .inr (0, (8, 0)))], [.inr (3, (0, 274)), .inr (3, (0, 1))]), [], [], [(0, 0), (0, 0), (0, 0), (0, 0), (0, 0), (0, 0), (0, 0), (0, 0), (8, 0)], 3)
noncomputable def rxeB1T_2_0 : rx_End × List (Nat × Int × Int) := (([(0, 0), (0, 0), (0, 0), (0, 0), (0, 0), (0, 0), (0, 0), (0, 0), (1, 1), ((-6), (-1))], [], [], some (.inr (0, (9, 0)))), [])
noncomputable def rxeB1T_4_0 : rx_End × List (Nat × Int × Int) := (([(0, 0), (0, 0), (0, 0), (0, 0), (0, 0), (0, 0), (0, 0), (0, 0), (1, 1)], [], [(((0, 0), 1851192626986356799029993984671224184301589730656725205983952899000000), .inr (0, (0, 0))), (((0, 0), 8), .inr (0, (0, 0)))], some (.inr (0, (0, 0)))), [])
noncomputable def rxYB1T : List bx_HE := [(rxzB1T_0, [rxoB1T_0_0, rxoB1T_0_1], []), (rxzB1T_1, [], []), (rxzB1T_2, [], [rxeB1T_2_0]), (rxzB1T_3, [], []), (rxzB1T_4, [], [rxeB1T_4_0])]
noncomputable def rxUB1T (q : bx_HE) : Bool := Nat.beq (rx_zpc q.1) 27 || Nat.beq (rx_zpc q.1) 41
noncomputable def rxYBB1T : bx_B := (rxV, rxNP, rxDmf, bx_mdH rxCB1T.2.2.1)
set_option maxRecDepth 100000 in
theorem rxYcB1T : bx_chkH rxYBB1T rxM210 rxCB1T rxYB1T (rxUB1T, fun cut z => rx_ex2 (rxCT rxYBB1T rxCnE) cut 30000 rxCB1T.2.2.2.1 210 z) = true := by decide +kernel
noncomputable def rxIB1T (S0 : Nat → Int → Int) (ws : List Int) (i : Nat) : bx_SP := fun S r => match i with | 0 => rxIB1T_0 S0 ws S (r 8) | 1 => rxIB1T_1 S0 ws S (r 8) | 2 => rxIB1T_2 S0 ws S (r 8) (r 9) | 3 => rxIB1T_3 S0 ws S (r 8) | 4 => rxIB1T_4 S0 ws S (r 8) | _ => False
noncomputable def rxmB1T (S0 : Nat → Int → Int) (ws : List Int) (i : Nat) (S : Nat → Int → Int) (r : Nat → Int) : Nat := match i with | 0 => rxmB1T_0 S0 ws S (r 8) | 1 => rxmB1T_1 S0 ws S (r 8) | 2 => rxmB1T_2 S0 ws S (r 8) (r 9) | 3 => rxmB1T_3 S0 ws S (r 8) | 4 => rxmB1T_4 S0 ws S (r 8) | _ => 0
noncomputable def rxPB1T (S0 : Nat → Int → Int) (ws : List Int) : Prop := rkPl S0
noncomputable def rxPSB1T (S0 : Nat → Int → Int) (ws : List Int) (S : Nat → Int → Int) (w : Option Int) : Prop := (S0 410 1 = 0 ∧ w = some (-2) ∧ bx_same rxL (bx_mdl rxC110.2.2.1) S0 S) ∨ (S0 410 1 ≠ 0 ∧ w = some 0 ∧ ∃ S1 : Nat → Int → Int, rxPSCZ1x274 S0 [1, 274] S1 none ∧ S = bx_up S1 0 8 0)
theorem rxkB1T_1 {S0 : Nat → Int → Int} {ws : List Int} {S : Nat → Int → Int} {ki : Int} (hP : rxPB1T S0 ws) (hin : bx_same rxL (bx_mdl rxCB1T.2.2.1) S0 S) (I0 : bx_Inv rxL S) (hinv : rxIB1T_1 S0 ws S ki) (l8 : 1 ≤ ki) (u8 : ki ≤ 1) : rxP110 S [0, (-2)] ∧ ∀ (S_p : Nat → Int → Int) (res : Int), (-6) ≤ res → res ≤ (-1) → rxPS110 S [0, (-2)] S_p (some res) → bx_Inv rxL S_p → bx_same rxL (bx_mdl rxC110.2.2.1) S S_p → rxIB1T_2 S0 ws S_p ki res ∧ rxmB1T_2 S0 ws S_p ki res < rxmB1T_1 S0 ws S ki := by
  obtain ⟨rfl, h1⟩ := hinv
  refine ⟨trivial, fun S_p res _ _ hq _ hsm => ⟨⟨?_, h1, hsm⟩, by unfold rxmB1T_1 rxmB1T_2; omega⟩⟩
  obtain ⟨c, hc, hr⟩ := hq
  simp only [List.cons.injEq, and_true, true_and] at hc
  simp only [Option.some.injEq] at hr
  omega
theorem rxsB1T_1 {X : (Nat → Int → Int) → Prop} {S0 : Nat → Int → Int} {ws : List Int} (hP : rxPB1T S0 ws) : rx_obK X S0 rxCB1T.2.2.1 rxC110.2.2.1 (rxIB1T S0 ws) (rxmB1T S0 ws) 1 2 rxzB1T_1 rxzB1T_2 [.inr (3, (0, 0)), .inr (0, (0, (-2)))] (some 9) rxP110 rxPS110 := by
  intro S r hinv hXS I0 hin hs_ hf_
  have b_ := bx_bds_sat hs_
  have f_ := bx_fcl_ok hs_.1 hf_
  obtain ⟨⟨l8, u8⟩, -⟩ := b_
  have g := rxkB1T_1 hP hin I0 hinv l8 u8
  have ea : List.map (bx_num r) [.inr (3, (0, 0)), .inr (0, (0, (-2)))] = [0, -2] := by
    simp only [List.map_cons, List.map_nil, bx_xv_ok hs_.1]
    rfl
  rw [ea]
  refine ⟨g.1, fun S_p w r_p hPS hX_p I1 hsm hr hw hs_p => ?_⟩
  have hw := hw _ rfl
  subst hw
  have b_p := hs_p.2.2 9 _ _ rfl
  have g2 := g.2 S_p (r_p 9) b_p.1 b_p.2 hPS I1 hsm
  show rxIB1T_2 S0 ws S_p (r_p 8) (r_p 9) ∧ rxmB1T_2 S0 ws S_p (r_p 8) (r_p 9) < _
  rw [hr 8 (by decide)]
  exact g2
theorem rxkB1T_3 {S0 : Nat → Int → Int} {ws : List Int} {S : Nat → Int → Int} {ki : Int} (hP : rxPB1T S0 ws) (hin : bx_same rxL (bx_mdl rxCB1T.2.2.1) S0 S) (I0 : bx_Inv rxL S) (hinv : rxIB1T_3 S0 ws S ki) (l8 : 1 ≤ ki) (u8 : ki ≤ 1) : rxPCZ1x274 S [1, 274] ∧ ∀ (S_p : Nat → Int → Int), rxPSCZ1x274 S [1, 274] S_p none → bx_Inv rxL S_p → bx_same rxL (bx_mdl rxCCZ1x274.2.2.1) S S_p → rxIB1T_4 S0 ws S_p ki ∧ rxmB1T_4 S0 ws S_p ki < rxmB1T_3 S0 ws S ki := by
  obtain ⟨rfl, h1⟩ := hinv
  exact ⟨hP, fun S_p hq _ hsm => ⟨⟨hq, h1⟩, by unfold rxmB1T_3 rxmB1T_4; omega⟩⟩
theorem rxsB1T_3 {X : (Nat → Int → Int) → Prop} {S0 : Nat → Int → Int} {ws : List Int} (hP : rxPB1T S0 ws) : rx_obK X S0 rxCB1T.2.2.1 rxCCZ1x274.2.2.1 (rxIB1T S0 ws) (rxmB1T S0 ws) 3 4 rxzB1T_3 rxzB1T_4 [.inr (3, (0, 1)), .inr (3, (0, 274))] none rxPCZ1x274 rxPSCZ1x274 := by
  intro S r hinv hXS I0 hin hs_ hf_
  have b_ := bx_bds_sat hs_
  have f_ := bx_fcl_ok hs_.1 hf_
  obtain ⟨⟨l8, u8⟩, -⟩ := b_
  have g := rxkB1T_3 hP hin I0 hinv l8 u8
  have ea : List.map (bx_num r) [.inr (3, (0, 1)), .inr (3, (0, 274))] = [1, 274] := by
    simp only [List.map_cons, List.map_nil, bx_xv_ok hs_.1]
    rfl
  rw [ea]
  refine ⟨g.1, fun S_p w r_p hPS hX_p I1 hsm hr hw hs_p => ?_⟩
  have hw : w = none := hPS.1
  subst hw
  have g2 := g.2 S_p hPS I1 hsm
  show rxIB1T_4 S0 ws S_p (r_p 8) ∧ rxmB1T_4 S0 ws S_p (r_p 8) < _
  rw [hr 8 (by decide)]
  exact g2
theorem rxcB1T_0_0 {S0 : Nat → Int → Int} {ws : List Int} {S : Nat → Int → Int} {ki x9 : Int} (hP : rxPB1T S0 ws) (hin : bx_same rxL (bx_mdl rxCB1T.2.2.1) S0 S) (I0 : bx_Inv rxL S) (hinv : rxIB1T_0 S0 ws S ki) (l8 : 1 ≤ ki) (u8 : ki ≤ 1) (l9 : 0 ≤ x9) (u9 : x9 ≤ 0) (e0 : S 410 ki = x9) : (True) ∧ (True) ∧ rxIB1T_1 S0 ws S ki ∧ rxmB1T_1 S0 ws S ki < rxmB1T_0 S0 ws S ki := by
  obtain ⟨rfl, hw⟩ := hinv
  have e : ki = 1 := by omega
  subst e
  exact ⟨trivial, trivial, ⟨rfl, by omega⟩, by unfold rxmB1T_0 rxmB1T_1; omega⟩
theorem rxgB1T_0_0 {X : (Nat → Int → Int) → Prop} {S0 : Nat → Int → Int} {ws : List Int} (hP : rxPB1T S0 ws) : bx_obC rxL X S0 rxCB1T.2.2.1 (rxIB1T S0 ws) (rxmB1T S0 ws) 0 rxzB1T_0 rxoB1T_0_0 := by
  intro S S_p r r_p hinv hX hin hsm_ hseg
  obtain ⟨I0, I1, h0_, hr_, b_, f_, d_⟩ := bx_cl (evs := [(0, (0, 410), (8, 0), .inr (0, (9, 0)))]) (fvs := []) hseg (by decide +kernel) (by decide +kernel)
  have hinv : rxIB1T_0 S0 ws S (r 8) := hinv
  rw [← hr_ 8 (by decide)] at hinv
  obtain ⟨⟨l8, u8⟩, ⟨l9, u9⟩, -⟩ := b_
  obtain ⟨e0, w_⟩ := d_
  subst w_
  have g := rxcB1T_0_0 hP hin I0 hinv l8 u8 l9 u9 e0
  refine ⟨bx_narP_ok (l := []) g.1, bx_nfP_ok h0_ (fvs := []) (by decide +kernel) g.2.1, ?_, ?_⟩
  · show rxIB1T_1 S0 ws S_p (bx_val [(0, 0), (0, 0), (0, 0), (0, 0), (0, 0), (0, 0), (0, 0), (0, 0), (8, 0)] r_p 8)
    rw [bx_val_x (n := 8) (e := (8, 0)) h0_ rfl]
    exact g.2.2.1
  · show rxmB1T_1 S0 ws S_p (bx_val [(0, 0), (0, 0), (0, 0), (0, 0), (0, 0), (0, 0), (0, 0), (0, 0), (8, 0)] r_p 8) < rxmB1T_0 S0 ws S_p (r 8)
    rw [bx_val_x (n := 8) (e := (8, 0)) h0_ rfl, ← hr_ 8 (by decide)]
    exact g.2.2.2
theorem rxcB1T_0_1 {S0 : Nat → Int → Int} {ws : List Int} {S : Nat → Int → Int} {ki x9 : Int} (hP : rxPB1T S0 ws) (hin : bx_same rxL (bx_mdl rxCB1T.2.2.1) S0 S) (I0 : bx_Inv rxL S) (hinv : rxIB1T_0 S0 ws S ki) (l8 : 1 ≤ ki) (u8 : ki ≤ 1) (l9 : 1 ≤ x9) (u9 : x9 ≤ 1) (f0 : x9 ≠ 0) (e0 : S 410 ki = x9) : (True) ∧ (True) ∧ rxIB1T_3 S0 ws S ki ∧ rxmB1T_3 S0 ws S ki < rxmB1T_0 S0 ws S ki := by
  obtain ⟨rfl, hw⟩ := hinv
  have e : ki = 1 := by omega
  subst e
  exact ⟨trivial, trivial, ⟨rfl, by omega⟩, by unfold rxmB1T_0 rxmB1T_3; omega⟩
theorem rxgB1T_0_1 {X : (Nat → Int → Int) → Prop} {S0 : Nat → Int → Int} {ws : List Int} (hP : rxPB1T S0 ws) : bx_obC rxL X S0 rxCB1T.2.2.1 (rxIB1T S0 ws) (rxmB1T S0 ws) 0 rxzB1T_0 rxoB1T_0_1 := by
  intro S S_p r r_p hinv hX hin hsm_ hseg
  obtain ⟨I0, I1, h0_, hr_, b_, f_, d_⟩ := bx_cl (evs := [(0, (0, 410), (8, 0), .inr (0, (9, 0)))]) (fvs := [(3, (9, 0), (0, 0), (0, 0))]) hseg (by decide +kernel) (by decide +kernel)
  have hinv : rxIB1T_0 S0 ws S (r 8) := hinv
  rw [← hr_ 8 (by decide)] at hinv
  obtain ⟨⟨l8, u8⟩, ⟨l9, u9⟩, -⟩ := b_
  obtain ⟨f0, -⟩ := f_
  obtain ⟨e0, w_⟩ := d_
  subst w_
  have g := rxcB1T_0_1 hP hin I0 hinv l8 u8 l9 u9 f0 e0
  refine ⟨bx_narP_ok (l := []) g.1, bx_nfP_ok h0_ (fvs := []) (by decide +kernel) g.2.1, ?_, ?_⟩
  · show rxIB1T_3 S0 ws S_p (bx_val [(0, 0), (0, 0), (0, 0), (0, 0), (0, 0), (0, 0), (0, 0), (0, 0), (8, 0)] r_p 8)
    rw [bx_val_x (n := 8) (e := (8, 0)) h0_ rfl]
    exact g.2.2.1
  · show rxmB1T_3 S0 ws S_p (bx_val [(0, 0), (0, 0), (0, 0), (0, 0), (0, 0), (0, 0), (0, 0), (0, 0), (8, 0)] r_p 8) < rxmB1T_0 S0 ws S_p (r 8)
    rw [bx_val_x (n := 8) (e := (8, 0)) h0_ rfl, ← hr_ 8 (by decide)]
    exact g.2.2.2
theorem rxdB1T_2_0 {S0 : Nat → Int → Int} {ws : List Int} {S : Nat → Int → Int} {ki res : Int} (hP : rxPB1T S0 ws) (hin : bx_same rxL (bx_mdl rxCB1T.2.2.1) S0 S) (hin2 : bx_same rxL (bx_mdl rxCB1T.2.2.1) S S) (I0 : bx_Inv rxL S) (I1 : bx_Inv rxL S) (hinv : rxIB1T_2 S0 ws S ki res) (l8 : 1 ≤ ki) (u8 : ki ≤ 1) (l9 : (-6) ≤ res) (u9 : res ≤ (-1)) : (True) ∧ rxPSB1T S0 ws S (some res) := by
  obtain ⟨h1, h2, h3⟩ := hinv
  exact ⟨trivial, Or.inl ⟨h2, congrArg some h1, h3⟩⟩
theorem rxfB1T_2_0 {X : (Nat → Int → Int) → Prop} {S0 : Nat → Int → Int} {ws : List Int} (hP : rxPB1T S0 ws) : bx_obE rxL X S0 rxCB1T.2.2.1 (rxIB1T S0 ws) (rxPSB1T S0 ws) 2 rxzB1T_2 rxeB1T_2_0 := by
  intro S S_p r r_p hinv hX hin hsm_ hseg
  obtain ⟨I0, I1, h0_, hr_, b_, f_, d_⟩ := bx_cl (evs := []) (fvs := []) hseg (by decide +kernel) (by decide +kernel)
  have hinv : rxIB1T_2 S0 ws S (r 8) (r 9) := hinv
  rw [← hr_ 8 (by decide), ← hr_ 9 (by decide)] at hinv
  obtain ⟨⟨l8, u8⟩, ⟨l9, u9⟩, -⟩ := b_
  have w_ := d_
  subst w_
  have g := rxdB1T_2_0 hP hin hsm_ I0 I1 hinv l8 u8 l9 u9
  refine ⟨bx_narP_ok (l := []) g.1, ?_⟩
  show rxPSB1T S0 ws S_p (some (bx_num r_p (.inr (0, (9, 0)))))
  rw [bx_xv_ok h0_]
  exact g.2
theorem rxdB1T_4_0 {S0 : Nat → Int → Int} {ws : List Int} {S : Nat → Int → Int} {ki : Int} (hP : rxPB1T S0 ws) (hin : bx_same rxL (bx_mdl rxCB1T.2.2.1) S0 S) (hin2 : bx_same rxL (bx_mdl rxCB1T.2.2.1) S (bx_up S 0 8 0)) (I0 : bx_Inv rxL S) (I1 : bx_Inv rxL (bx_up S 0 8 0)) (hinv : rxIB1T_4 S0 ws S ki) (l8 : 1 ≤ ki) (u8 : ki ≤ 1) : (True) ∧ rxPSB1T S0 ws (bx_up S 0 8 0) (some 0) := by
  obtain ⟨h1, h2⟩ := hinv
  exact ⟨trivial, Or.inr ⟨h2, rfl, S, h1, rfl⟩⟩
theorem rxfB1T_4_0 {X : (Nat → Int → Int) → Prop} {S0 : Nat → Int → Int} {ws : List Int} (hP : rxPB1T S0 ws) : bx_obE rxL X S0 rxCB1T.2.2.1 (rxIB1T S0 ws) (rxPSB1T S0 ws) 4 rxzB1T_4 rxeB1T_4_0 := by
  intro S S_p r r_p hinv hX hin hsm_ hseg
  obtain ⟨I0, I1, h0_, hr_, b_, f_, d_⟩ := bx_cl (evs := [(1, (0, 0), (0, 8), .inr (0, (0, 0)))]) (fvs := []) hseg (by decide +kernel) (by decide +kernel)
  have hinv : rxIB1T_4 S0 ws S (r 8) := hinv
  rw [← hr_ 8 (by decide)] at hinv
  obtain ⟨⟨l8, u8⟩, -⟩ := b_
  obtain ⟨T0, w_, w0⟩ := d_
  subst w0
  subst w_
  have g := rxdB1T_4_0 hP hin hsm_ I0 I1 hinv l8 u8
  refine ⟨bx_narP_ok (l := []) g.1, ?_⟩
  show rxPSB1T S0 ws (bx_up T0 0 (8) (0)) (some (bx_num r_p (.inr (0, (0, 0)))))
  rw [bx_xv_ok h0_]
  exact g.2
theorem rxgCB1T {X : (Nat → Int → Int) → Prop} {S0 : Nat → Int → Int} {ws : List Int} (hP : rxPB1T S0 ws) : bx_allI (fun i q => rxUB1T q = true ∨ bx_allP (fun o => bx_obC rxL X S0 rxCB1T.2.2.1 (rxIB1T S0 ws) (rxmB1T S0 ws) i q.1 o) q.2.1) 0 rxYB1T := ⟨Or.inr ⟨rxgB1T_0_0 hP, rxgB1T_0_1 hP, trivial⟩, Or.inl rfl, Or.inr trivial, Or.inl rfl, Or.inr trivial, trivial⟩
theorem rxgEB1T {X : (Nat → Int → Int) → Prop} {S0 : Nat → Int → Int} {ws : List Int} (hP : rxPB1T S0 ws) : bx_allI (fun i q => rxUB1T q = true ∨ bx_allP (fun E => bx_obE rxL X S0 rxCB1T.2.2.1 (rxIB1T S0 ws) (rxPSB1T S0 ws) i q.1 E) q.2.2) 0 rxYB1T := ⟨Or.inr trivial, Or.inl rfl, Or.inr ⟨rxfB1T_2_0 hP, trivial⟩, Or.inl rfl, Or.inr ⟨rxfB1T_4_0 hP, trivial⟩, trivial⟩
theorem rxuB1T {PX : State → Prop} {Dg : va_G} {A : Nat → Prop} {ad xa : Nat → Nat} {l : Launch} {X : (Nat → Int → Int) → Prop} (hPX : rx_PXOK rxNW A PX) (hX : ∀ S S1 : Nat → Int → Int, X S → bx_same rxL (bx_mdl rxCB1T.2.2.1) S S1 → X S1) (hQ110 : bx_ConP rxG rxNW rxAO PX Dg rxL X vwCl A ad l rxM110 rxC110 rxP110 rxPS110) (hQCZ1x274 : bx_ConP rxG rxNW rxAO PX Dg rxL X vwCl A ad l rxM154 rxCCZ1x274 rxPCZ1x274 rxPSCZ1x274) {S0 : Nat → Int → Int} {ws : List Int} (hP : rxPB1T S0 ws) : ∀ (i : Nat) (q : bx_HE), rxYB1T[i]? = some q → rxUB1T q = true → ∀ {p : Program} {e : Env} {R : Room} {s : State} {m : MethodId} {args : Array Value} {below : List Frame} {meth : Method} {c : Code} {Q : State → Prop} {H0 : Heap}, rx_Fr rxG rxNW rxAO PX p s m args meth c rxM210 → (∀ q, H0.size ≤ q → A q) → H0 = s.heap → rxM210.2.2.2.2.2.2.1 ≤ R.cells → rxM210.2.2.2.2.2.2.2 ≤ R.slots → rxCB1T.2.2.2.1 ≤ R.frames → rxCB1T.2.2.2.1 * 40 ≤ R.locals → bx_Step p l e R s m args below meth c Q Dg rxL X vwCl A xa H0 ad rxM210 rxYB1T (rxIB1T S0 ws) (rxmB1T S0 ws) S0 rxCB1T.2.2.1 i q := by
  intro i q hq hus p e R s m args below meth c Q H0 hF hA hH0 hmc hms hd hdl
  match i, hq with
  | 0, hq =>
    cases hq
    exact absurd (show false = true from hus) Bool.false_ne_true
  | 1, hq =>
    cases hq
    exact rx_stepC (ins := .invokevirtual 110) (len := 3) (i_p := 2) (M_p := rxM110) (d := rxCB1T.2.2.2.1) (as := [.inr (3, (0, 0)), .inr (0, (0, (-2)))]) (t := []) (ct := rxC110) hPX hF rfl hA hH0 hmc hms hd hdl (by decide +kernel) rfl rfl (by decide +kernel) (by decide +kernel) hQ110 (by decide +kernel) rfl (Or.inr ⟨_, _, _, 1, rfl, rfl, by omega, rfl, rfl, rfl⟩) (rxsB1T_1 hP)
  | 2, hq =>
    cases hq
    exact absurd (show false = true from hus) Bool.false_ne_true
  | 3, hq =>
    cases hq
    exact rx_stepC (ins := .invokevirtual 431) (len := 3) (i_p := 4) (M_p := rxM154) (d := rxCB1T.2.2.2.1) (as := [.inr (3, (0, 1)), .inr (3, (0, 274))]) (t := []) (ct := rxCCZ1x274) hPX hF rfl hA hH0 hmc hms hd hdl (by decide +kernel) rfl rfl (by decide +kernel) (by decide +kernel) hQCZ1x274 (by decide +kernel) rfl (Or.inl ⟨rfl, rfl, rfl⟩) (rxsB1T_3 hP)
  | 4, hq =>
    cases hq
    exact absurd (show false = true from hus) Bool.false_ne_true
  | n + 5, hq => cases hq
theorem rxQB1T {PX : State → Prop} {Dg : va_G} {A : Nat → Prop} {ad xa : Nat → Nat} {l : Launch} {X : (Nat → Int → Int) → Prop} (hPX : rx_PXOK rxNW A PX) (hsl : ∀ s : State, PX s → ∀ o idx n : Nat, rxSl o idx = some n → ∃ tx : String, vk_R (rxNm o) idx tx (ad n) s)
    (hX : ∀ S S_p : Nat → Int → Int, X S → bx_same rxL (bx_mdl rxCB1T.2.2.1) S S_p → X S_p)
    (ih : ∀ (j2 : Nat) (ct2 : bx_Ct) (M2 : rx_Mt), ct2 ∈ rxCnE j2 → ct2.2.2.2.1 + 1 ≤ rxCB1T.2.2.2.1 → rxT.2.2.2.2.2 j2 = some M2 → bx_Con rxG rxNW rxAO PX Dg rxL X vwCl A ad l M2 ct2) (hQ110 : bx_ConP rxG rxNW rxAO PX Dg rxL X vwCl A ad l rxM110 rxC110 rxP110 rxPS110) (hQCZ1x274 : bx_ConP rxG rxNW rxAO PX Dg rxL X vwCl A ad l rxM154 rxCCZ1x274 rxPCZ1x274 rxPSCZ1x274) : bx_ConP rxG rxNW rxAO PX Dg rxL X vwCl A ad l rxM210 rxCB1T rxPB1T rxPSB1T :=
  rxQof (xa := xa) (Cn := rxCnE) (f := 30000) (j := 210) (tab := rxYB1T) (us := rxUB1T) hPX hsl hX ih rfl rxYcB1T rxIB1T rxmB1T
    (fun S0 ws r I0 I ht0 ht as he he1 hX0 hI0 hP hs ha => by
      have e := he.symm.trans (show bx_ent0 rxNP rxCB1T.1 bx_I0 [] = some ([(0, 0), (0, 0), (0, 0), (0, 0), (0, 0), (0, 0), (0, 0), (0, 0), (1, 1)], [], [.inr (3, (0, 0)), .inr (0, (8, 0))]) from rfl)
      cases e
      subst ha
      have h0 : r 0 = 0 := hs.1
      show rxIB1T_0 S0 _ S0 (r 8)
      refine ⟨rfl, ?_⟩
      simp only [List.map_cons, List.map_nil, bx_xv_ok h0]
      rfl)
    (fun S0 ws hP => rxuB1T (xa := xa) hPX hX hQ110 hQCZ1x274 hP) (fun S0 ws hP => rxgCB1T hP) (fun S0 ws hP => rxgEB1T hP)
noncomputable def rzPS210T (S0 : Nat → Int → Int) (ws : List Int) (S : Nat → Int → Int) (w : Option Int) : Prop := ∃ k : Int, ws = [0, k] ∧ ((k = 0 ∧ rxPSB0T S0 [0, 0] S w) ∨ (k = 1 ∧ rxPSB1T S0 [0, 1] S w) ∨ ((k < 0 ∨ 1 < k) ∧ rxPS210 S0 [0, k] S w))
set_option maxHeartbeats 2000000 in
theorem rzQ210T {PX : State → Prop} {Dg : va_G} {A : Nat → Prop} {ad : Nat → Nat} {l : Launch} (hPX : rx_PXOK rxNW A PX) (hsl : ∀ s : State, PX s → ∀ o idx n : Nat, rxSl o idx = some n → ∃ tx : String, vk_R (rxNm o) idx tx (ad n) s) (ih : ∀ (j : Nat) (ct : bx_Ct) (M : rx_Mt), ct ∈ rxCn j → rxT.2.2.2.2.2 j = some M → bx_Con rxG rxNW rxAO PX Dg rxL rxX vwCl A ad l M ct) : bx_ConP rxG rxNW rxAO PX Dg rxL rxX vwCl A ad l rxM210 rxC210 (fun S0 _ => rkPl S0) rzPS210T := by
  have q110 := rxQ110 (PX := PX) (Dg := Dg) (A := A) (ad := ad) (xa := fun n => n) (l := l) (X := rxX) hPX hsl (fun _ _ h hm => rxX_of (by decide +kernel) h hm) (fun _ _ _ h => absurd h List.not_mem_nil)
  have qsc := rxQSCZ (PX := PX) (Dg := Dg) (A := A) (ad := ad) (xa := fun n => n) (l := l) (X := rxX) hPX hsl (fun _ _ h hm => rxX_of (by decide +kernel) h hm) (fun _ _ _ h => absurd h List.not_mem_nil)
  have qqc := rxQQCZ (PX := PX) (Dg := Dg) (A := A) (ad := ad) (xa := fun n => n) (l := l) (X := rxX) hPX hsl (fun _ _ h hm => rxX_of (by decide +kernel) h hm) (fun _ _ _ h => absurd h List.not_mem_nil)
  have qp0 := rxQPC5x142 (PX := PX) (Dg := Dg) (A := A) (ad := ad) (xa := fun n => n) (l := l) (X := rxX) hPX hsl (fun _ _ h hm => rxX_of (by decide +kernel) h hm) (fun _ _ _ h => absurd h List.not_mem_nil)
  have qd0 := rxQDC14x151 (PX := PX) (Dg := Dg) (A := A) (ad := ad) (xa := fun n => n) (l := l) (X := rxX) hPX hsl (fun _ _ h hm => rxX_of (by decide +kernel) h hm) (fun _ _ _ h => absurd h List.not_mem_nil)
  have qc0 := rxQCZ1x138 (PX := PX) (Dg := Dg) (A := A) (ad := ad) (xa := fun n => n) (l := l) (X := rxX) hPX hsl (fun _ _ h hm => rxX_of (by decide +kernel) h hm) (fun _ _ _ h => absurd h List.not_mem_nil) qsc qp0 qd0 qqc
  have qi0 := rxQB0T (PX := PX) (Dg := Dg) (A := A) (ad := ad) (xa := fun n => n) (l := l) (X := rxX) hPX hsl (fun _ _ h hm => rxX_of (by decide +kernel) h hm) (fun _ _ _ h => absurd h List.not_mem_nil) q110 qc0
  have qp1 := rxQPC5x278 (PX := PX) (Dg := Dg) (A := A) (ad := ad) (xa := fun n => n) (l := l) (X := rxX) hPX hsl (fun _ _ h hm => rxX_of (by decide +kernel) h hm) (fun _ _ _ h => absurd h List.not_mem_nil)
  have qd1 := rxQDC14x287 (PX := PX) (Dg := Dg) (A := A) (ad := ad) (xa := fun n => n) (l := l) (X := rxX) hPX hsl (fun _ _ h hm => rxX_of (by decide +kernel) h hm) (fun _ _ _ h => absurd h List.not_mem_nil)
  have qc1 := rxQCZ1x274 (PX := PX) (Dg := Dg) (A := A) (ad := ad) (xa := fun n => n) (l := l) (X := rxX) hPX hsl (fun _ _ h hm => rxX_of (by decide +kernel) h hm) (fun _ _ _ h => absurd h List.not_mem_nil) qsc qp1 qd1 qqc
  have qi1 := rxQB1T (PX := PX) (Dg := Dg) (A := A) (ad := ad) (xa := fun n => n) (l := l) (X := rxX) hPX hsl (fun _ _ h hm => rxX_of (by decide +kernel) h hm) (fun _ _ _ h => absurd h List.not_mem_nil) q110 qc1
  have qg := rxQ210 (PX := PX) (Dg := Dg) (A := A) (ad := ad) (xa := fun n => n) (l := l) (X := rxX) hPX hsl (fun _ _ h hm => rxX_of (by decide +kernel) h hm) (fun j2 ct2 M2 hc hd hM => ih j2 ct2 M2 hc hM) q110
  intro S0 ws hX ha hpre hP Qc hQ
  obtain ⟨w0, wt, rfl, e0, k, wt2, rfl, hk, rfl⟩ := ha
  have e0 : w0 = 0 + 0 := e0
  have e1 : w0 = 0 := by omega
  subst e1
  rcases (show k = 0 ∨ k = 1 ∨ (k < 0 ∨ 1 < k) by omega) with rfl | rfl | h
  · refine qi0 S0 [0, 0] hX ⟨0, _, rfl, rfl, 0, _, rfl, (show (0 : Int) ≤ 0 ∧ (0 : Int) ≤ 0 from ⟨Int.le_refl _, Int.le_refl _⟩), rfl⟩ hpre hP Qc fun x st oc t h => hQ x st oc t ?_
    obtain ⟨⟨S_p, rv, g1, g2, g3, g4, g5, w, g6, g7⟩, g8⟩ := h
    exact ⟨⟨S_p, rv, g1, g2, g3, g4, g5, w, ⟨0, rfl, Or.inl ⟨rfl, g6⟩⟩, g7⟩, g8⟩
  · refine qi1 S0 [0, 1] hX ⟨0, _, rfl, rfl, 1, _, rfl, (show (1 : Int) ≤ 1 ∧ (1 : Int) ≤ 1 from ⟨Int.le_refl _, Int.le_refl _⟩), rfl⟩ hpre hP Qc fun x st oc t h => hQ x st oc t ?_
    obtain ⟨⟨S_p, rv, g1, g2, g3, g4, g5, w, g6, g7⟩, g8⟩ := h
    exact ⟨⟨S_p, rv, g1, g2, g3, g4, g5, w, ⟨1, rfl, Or.inr (Or.inl ⟨rfl, g6⟩)⟩, g7⟩, g8⟩
  · refine qg S0 [0, k] hX ⟨0, _, rfl, rfl, k, _, rfl, hk, rfl⟩ hpre ⟨k, rfl, h⟩ Qc fun x st oc t h2 => hQ x st oc t ?_
    obtain ⟨⟨S_p, rv, g1, g2, g3, g4, g5, w, g6, g7⟩, g8⟩ := h2
    exact ⟨⟨S_p, rv, g1, g2, g3, g4, g5, w, ⟨k, rfl, Or.inr (Or.inr ⟨h, g6⟩)⟩, g7⟩, g8⟩
end
section
noncomputable def rkKq (R : Int → Int) (S : Nat → Int → Int) (b : Nat) : Prop := ∀ k : Nat, (k : Int) < R 3 → k < 6 → ∃ L : List rkQ, rkTr R (k : Int) L ∧ rkHl S (b + 10 * k) L ∧ rkLn L
noncomputable def rkKT (S : Nat → Int → Int) : Prop := rkPl S ∧ rkKq (S 482) S 77 ∧ (S 410 0 = 0 ∨ rkKq (S 483) S 214) ∧ (S 410 1 = 0 ∨ rkKq (fun j => S 483 (6180 + j)) S 350)
noncomputable def rkKTi0 (S : Nat → Int → Int) : Prop := rkPl S ∧ rkKq (S 482) S 77 ∧ rkKq (S 482) S 214 ∧ (S 410 1 = 0 ∨ rkKq (fun j => S 483 (6180 + j)) S 350)
noncomputable def rkKTi1 (S : Nat → Int → Int) : Prop := rkPl S ∧ rkKq (S 482) S 77 ∧ (S 410 0 = 0 ∨ rkKq (S 483) S 214) ∧ rkKq (S 482) S 350
noncomputable def rkKTb0 (S : Nat → Int → Int) : Prop := rkPl S ∧ rkKq (S 483) S 77 ∧ (S 410 0 = 0 ∨ rkKq (S 483) S 214) ∧ (S 410 1 = 0 ∨ rkKq (fun j => S 483 (6180 + j)) S 350)
noncomputable def rkKTb1 (S : Nat → Int → Int) : Prop := rkPl S ∧ rkKq (fun j => S 483 (6180 + j)) S 77 ∧ (S 410 0 = 0 ∨ rkKq (S 483) S 214) ∧ (S 410 1 = 0 ∨ rkKq (fun j => S 483 (6180 + j)) S 350)
theorem rkKq_e {R : Int → Int} {S S_p : Nat → Int → Int} {b : Nat} (h : rkKq R S b) (e : ∀ k : Nat, k < 6 → tqEq S S_p (b + 10 * k)) : rkKq R S_p b := fun k x y => by
  obtain ⟨L, h1, h2, h3⟩ := h k x y
  exact ⟨L, h1, rkHl_eq h2 (e k y), h3⟩
theorem rkKq_r {R R_p : Int → Int} {S : Nat → Int → Int} {b : Nat} (h : rkKq R S b) (e : ∀ j : Int, 0 ≤ j → j < 6180 → R_p j = R j) : rkKq R_p S b := fun k x y => by
  rw [e 3 (by omega) (by omega)] at x
  obtain ⟨L, h1, h2, h3⟩ := h k x y
  exact ⟨L, rkTr_cg h1 fun j a c => e j (by omega) (by omega), h2, h3⟩
theorem rkKq_c {R : Int → Int} {S0 S : Nat → Int → Int} {t s : Nat} {n : Int} (h : rkKq R S0 s) (hn : R 3 ≤ n) (c : ∀ k : Nat, (k : Int) < n → k < 6 → tqCp S0 S (t + 10 * k) (s + 10 * k)) : rkKq R S t := fun k x y => by
  obtain ⟨L, h1, h2, h3⟩ := h k x y
  exact ⟨L, h1, rkHl_cq h2 (c k (by omega) y), h3⟩
noncomputable def rkKTk : List (Nat × Nat) := [(6, 0), (6, 4), (6, 8), (6, 9), (6, 10), (1021, 0), (1022, 0), (1024, 0), (1025, 0), (1026, 0), (1027, 0), (1016, 0), (9, 0), (9, 1), (1002, 0), (1009, 0), (1031, 0), (1063, 1), (1063, 5), (1064, 0), (1064, 1)]
theorem rkKT_q {ms : List (Nat × Nat)} (hk : rkKTk.all (fun q => !(bx_mdl ms q.1 q.2)) = true) {l : List (Nat × Nat)} (hl : l.all (fun q => rkKTk.contains q) = true) : l.all (fun q => !(bx_mdl ms q.1 q.2)) = true := List.all_eq_true.mpr fun x hm => List.all_eq_true.mp hk x (List.contains_iff_mem.mp (List.all_eq_true.mp hl x hm))
theorem rkKT_f {ms : List (Nat × Nat)} {l : List (Nat × Nat)} (hk : l.all (fun q => !(bx_mdl ms q.1 q.2)) = true) {a b : Nat} (hm : (a, b) ∈ l) : bx_mdl ms a b = false := by
  have := List.all_eq_true.mp hk (a, b) hm
  rw [Bool.not_eq_true'] at this
  exact this
theorem rkKq_sm {ms : List (Nat × Nat)} {S S_p : Nat → Int → Int} (hs : bx_same rxL (bx_mdl ms) S S_p) (hk : tqKs.all (fun q => !(bx_mdl ms q.1 q.2)) = true) {R : Int → Int} {b : Nat} (hb : b = 77 ∨ b = 214 ∨ b = 350) (h : rkKq R S b) : rkKq R S_p b := rkKq_e h fun k hk6 => tqEq_sm hs hk (rkPg_in hb hk6)
theorem rkR_sm {ms : List (Nat × Nat)} {S S_p : Nat → Int → Int} (hs : bx_same rxL (bx_mdl ms) S S_p) (h1 : bx_mdl ms 1063 1 = false) (h5 : bx_mdl ms 1063 5 = false) {b : Nat} (h : rkKq (S 482) S_p b) : rkKq (S_p 482) S_p b := fun k x y => by
  have e3 : S_p 482 3 = S 482 3 := hs 482 3 (by decide) (by decide) h5
  rw [e3] at x
  obtain ⟨L, g1, g2, g3⟩ := h k x y
  exact ⟨L, rkTr_cg g1 fun j a c => rx_same1 h1 hs (by omega) (by omega), g2, g3⟩
theorem rkKT_sm {ms : List (Nat × Nat)} {S S_p : Nat → Int → Int} (hs : bx_same rxL (bx_mdl ms) S S_p) (hk : rkKTk.all (fun q => !(bx_mdl ms q.1 q.2)) = true) (h : rkKT S) : rkKT S_p := by
  obtain ⟨h0, h1, h2, h3⟩ := h
  have kp : ∀ i : Nat, i < 2 → S_p 410 (i : Int) = S 410 (i : Int) := fun i hi => hs 410 i (by decide) (by
    show i < 2
    exact hi) (by
    have e : bx_mc (rxL.1 410) i = (1031, if i < 780 then 0 else 1) := rfl
    rw [e, if_pos (by omega)]
    exact rkKT_f hk (by decide))
  have r3 : ∀ j : Int, 0 ≤ j → j < 12360 → S_p 483 j = S 483 j := fun j a b => rx_same64 (rkKT_f hk (by decide)) (rkKT_f hk (by decide)) hs a b
  have tk := rkKT_q hk (l := tqKs) (by decide)
  have k0 : S_p 410 0 = S 410 0 := kp 0 (by decide)
  have k1 : S_p 410 1 = S 410 1 := kp 1 (by decide)
  refine ⟨rkPl_sm hs (rkKT_q hk (by decide)) h0, rkR_sm hs (rkKT_f hk (by decide)) (rkKT_f hk (by decide)) (rkKq_sm hs tk (Or.inl rfl) h1), ?_, ?_⟩
  · rw [k0]
    exact h2.imp id fun g => rkKq_r (rkKq_sm hs tk (Or.inr (Or.inl rfl)) g) fun j a b => r3 j a (by omega)
  · rw [k1]
    exact h3.imp id fun g => rkKq_r (rkKq_sm hs tk (Or.inr (Or.inr rfl)) g) fun j a b => r3 (6180 + j) (by omega) (by omega)
section RKKI
variable {S0 S1 S S_p : Nat → Int → Int}
theorem tqEq_w {tb b k : Nat} (hW : rkW4 S0 S1 tb) (e : ∀ (p : Nat) (j : Int), rkRgn p → S p j = S1 p j) (hb : b = 77 ∨ b = 214 ∨ b = 350) (ht : rkTb tb) (hn : tb + 54 ≠ b) (k6 : k < 6) : tqEq S0 S (b + 10 * k) := by
  unfold rkTb at ht
  have f : ∀ (p : Nat) (j : Int), b ≤ p → p < b + 60 → S p j = S0 p j := fun p j p0 p1 => by
    have r : rkRgn p := by
      unfold rkRgn
      omega
    exact (e p j r).trans (hW p j r (by omega))
  exact ⟨f _ _ (by omega) (by omega), f _ _ (by omega) (by omega), ⟨f _ _ (by omega) (by omega), f _ _ (by omega) (by omega), f _ _ (by omega) (by omega)⟩, fun i _ _ => ⟨f _ _ (by omega) (by omega), f _ _ (by omega) (by omega)⟩, fun p p4 p9 i _ _ => f _ _ (by omega) (by omega)⟩
theorem tqCp_w {tb sb : Nat} {n : Int} (hW : rkWt4 S0 S1 tb sb 6 12 n) (e : ∀ (p : Nat) (j : Int), rkRgn p → S p j = S1 p j) (ht : rkTb tb) (k : Nat) (hk : (k : Int) < n) (k6 : k < 6) : tqCp S0 S (tb + 54 + 10 * k) (sb + 54 + 10 * k) := tqCp_cg (hW.2.2.1 k hk k6) fun p j p0 p1 => e p j (rkTb_re ht (by omega) (by omega))
theorem rkKT_i0 (h : rkKT S0) (hl : rkPl S) (hn : S0 1 14 = S0 482 3) (hW : rkWt4 S0 S1 160 23 6 12 (S0 1 14)) (e : ∀ (p : Nat) (j : Int), rkRgn p → S p j = S1 p j) (r : ∀ j : Int, 0 ≤ j → j < 6180 → S 482 j = S0 482 j) (r3 : ∀ j : Int, 0 ≤ j → j < 12360 → S 483 j = S0 483 j) (k1 : S 410 1 = S0 410 1) : rkKTi0 S := by
  obtain ⟨-, h1, h2, h3⟩ := h
  refine ⟨hl, rkKq_r (rkKq_e h1 fun k k6 => tqEq_w hW.2.2.2 e (Or.inl rfl) (Or.inr (Or.inl rfl)) (by omega) k6) r, rkKq_r (rkKq_c (t := 214) h1 (by omega) (tqCp_w hW e (Or.inr (Or.inl rfl)))) r, ?_⟩
  rw [k1]
  exact h3.imp id fun g => rkKq_r (rkKq_e g fun k k6 => tqEq_w hW.2.2.2 e (Or.inr (Or.inr rfl)) (Or.inr (Or.inl rfl)) (by omega) k6) fun j a b => r3 _ (by omega) (by omega)
theorem rkKT_i1 (h : rkKT S0) (hl : rkPl S) (hn : S0 1 14 = S0 482 3) (hW : rkWt4 S0 S1 296 23 6 12 (S0 1 14)) (e : ∀ (p : Nat) (j : Int), rkRgn p → S p j = S1 p j) (r : ∀ j : Int, 0 ≤ j → j < 6180 → S 482 j = S0 482 j) (r3 : ∀ j : Int, 0 ≤ j → j < 12360 → S 483 j = S0 483 j) (k0 : S 410 0 = S0 410 0) : rkKTi1 S := by
  obtain ⟨-, h1, h2, h3⟩ := h
  refine ⟨hl, rkKq_r (rkKq_e h1 fun k k6 => tqEq_w hW.2.2.2 e (Or.inl rfl) (Or.inr (Or.inr rfl)) (by omega) k6) r, ?_, rkKq_r (rkKq_c (t := 350) h1 (by omega) (tqCp_w hW e (Or.inr (Or.inr rfl)))) r⟩
  rw [k0]
  exact h2.imp id fun g => rkKq_r (rkKq_e g fun k k6 => tqEq_w hW.2.2.2 e (Or.inr (Or.inl rfl)) (Or.inr (Or.inr rfl)) (by omega) k6) fun j a b => r3 _ (by omega) (by omega)
theorem rkKT_b0 (h : rkKT S0) (hl : rkPl S) (z : S0 410 0 ≠ 0) (hn : S0 138 14 = S0 483 3) (hW : rkWt4 S0 S1 23 160 6 12 (S0 138 14)) (e : ∀ (p : Nat) (j : Int), rkRgn p → S p j = S1 p j) (r3 : ∀ j : Int, 0 ≤ j → j < 12360 → S 483 j = S0 483 j) (k0 : S 410 0 = S0 410 0) (k1 : S 410 1 = S0 410 1) : rkKTb0 S := by
  obtain ⟨-, h1, h2, h3⟩ := h
  have h2 := h2.resolve_left z
  refine ⟨hl, rkKq_r (rkKq_c (t := 77) h2 (by omega) (tqCp_w hW e (Or.inl rfl))) fun j a b => r3 j a (by omega), Or.inr (rkKq_r (rkKq_e h2 fun k k6 => tqEq_w hW.2.2.2 e (Or.inr (Or.inl rfl)) (Or.inl rfl) (by omega) k6) fun j a b => r3 j a (by omega)), ?_⟩
  rw [k1]
  exact h3.imp id fun g => rkKq_r (rkKq_e g fun k k6 => tqEq_w hW.2.2.2 e (Or.inr (Or.inr rfl)) (Or.inl rfl) (by omega) k6) fun j a b => r3 _ (by omega) (by omega)
theorem rkKT_b1 (h : rkKT S0) (hl : rkPl S) (z : S0 410 1 ≠ 0) (hn : S0 274 14 = S0 483 6183) (hW : rkWt4 S0 S1 23 296 6 12 (S0 274 14)) (e : ∀ (p : Nat) (j : Int), rkRgn p → S p j = S1 p j) (r3 : ∀ j : Int, 0 ≤ j → j < 12360 → S 483 j = S0 483 j) (k0 : S 410 0 = S0 410 0) (k1 : S 410 1 = S0 410 1) : rkKTb1 S := by
  obtain ⟨-, h1, h2, h3⟩ := h
  have h3 := h3.resolve_left z
  refine ⟨hl, rkKq_r (rkKq_c (t := 77) h3 (Int.le_of_eq (show S0 483 (6180 + 3) = S0 274 14 from hn.symm)) (tqCp_w hW e (Or.inl rfl))) fun j a b => r3 (6180 + j) (by omega) (by omega), ?_, Or.inr (rkKq_r (rkKq_e h3 fun k k6 => tqEq_w hW.2.2.2 e (Or.inr (Or.inr rfl)) (Or.inl rfl) (by omega) k6) fun j a b => r3 (6180 + j) (by omega) (by omega))⟩
  rw [k0]
  exact h2.imp id fun g => rkKq_r (rkKq_e g fun k k6 => tqEq_w hW.2.2.2 e (Or.inr (Or.inl rfl)) (Or.inl rfl) (by omega) k6) fun j a b => r3 _ (by omega) (by omega)
end RKKI
section RKKJ
theorem rkKq_j {ms : List (Nat × Nat)} {S S_p : Nat → Int → Int} (hs : bx_same rxL (bx_mdl ms) S S_p) (hk : [(6, 0), (6, 4), (6, 8), (6, 9), (6, 10), (1021, 0), (1022, 0), (1024, 0), (1025, 0), (1026, 0), (1027, 0), (1016, 0), (9, 0), (9, 1), (1002, 0), (1009, 0)].all (fun q => !(bx_mdl ms q.1 q.2)) = true) : (rkPl S → rkPl S_p) ∧ ∀ {R R_p : Int → Int} {b : Nat}, (b = 77 ∨ b = 214 ∨ b = 350) → rkKq R S b → (∀ j : Int, 0 ≤ j → j < 6180 → R_p j = R j) → rkKq R_p S_p b := by
  have q : ∀ l : List (Nat × Nat), l.all (fun q => [(6, 0), (6, 4), (6, 8), (6, 9), (6, 10), (1021, 0), (1022, 0), (1024, 0), (1025, 0), (1026, 0), (1027, 0), (1016, 0), (9, 0), (9, 1), (1002, 0), (1009, 0)].contains q) = true → l.all (fun q => !(bx_mdl ms q.1 q.2)) = true := fun l hl => List.all_eq_true.mpr fun x hm => List.all_eq_true.mp hk x (List.contains_iff_mem.mp (List.all_eq_true.mp hl x hm))
  exact ⟨rkPl_sm hs (q _ (by decide)), fun hb h e => rkKq_r (rkKq_sm hs (q tqKs (by decide)) hb h) e⟩
end RKKJ
section RKKK
theorem rkKT_j0 {S S_p : Nat → Int → Int} (hl : rkPl S → rkPl S_p) (hq : ∀ {R R_p : Int → Int} {b : Nat}, (b = 77 ∨ b = 214 ∨ b = 350) → rkKq R S b → (∀ j : Int, 0 ≤ j → j < 6180 → R_p j = R j) → rkKq R_p S_p b) (h : rkKTi0 S) (r : ∀ j : Int, 0 ≤ j → j < 6180 → S_p 482 j = S 482 j) (c1 : ∀ j : Int, 0 ≤ j → j < 6180 → S_p 483 j = S 482 j) (c2 : ∀ j : Int, 6180 ≤ j → S_p 483 j = S 483 j) (k1 : S_p 410 1 = S 410 1) : rkKT S_p := by
  obtain ⟨h0, h1, h2, h3⟩ := h
  refine ⟨hl h0, hq (Or.inl rfl) h1 r, Or.inr (hq (Or.inr (Or.inl rfl)) h2 c1), ?_⟩
  rw [k1]
  exact h3.imp id fun g => hq (Or.inr (Or.inr rfl)) g fun j a b => c2 _ (by omega)
theorem rkKT_j1 {S S_p : Nat → Int → Int} (hl : rkPl S → rkPl S_p) (hq : ∀ {R R_p : Int → Int} {b : Nat}, (b = 77 ∨ b = 214 ∨ b = 350) → rkKq R S b → (∀ j : Int, 0 ≤ j → j < 6180 → R_p j = R j) → rkKq R_p S_p b) (h : rkKTi1 S) (r : ∀ j : Int, 0 ≤ j → j < 6180 → S_p 482 j = S 482 j) (c1 : ∀ j : Int, 0 ≤ j → j < 6180 → S_p 483 (6180 + j) = S 482 j) (c2 : ∀ j : Int, j < 6180 → S_p 483 j = S 483 j) (k0 : S_p 410 0 = S 410 0) : rkKT S_p := by
  obtain ⟨h0, h1, h2, h3⟩ := h
  refine ⟨hl h0, hq (Or.inl rfl) h1 r, ?_, Or.inr (hq (Or.inr (Or.inr rfl)) h3 c1)⟩
  rw [k0]
  exact h2.imp id fun g => hq (Or.inr (Or.inl rfl)) g fun j a b => c2 _ b
theorem rkKT_j2 {S S_p : Nat → Int → Int} (hl : rkPl S → rkPl S_p) (hq : ∀ {R R_p : Int → Int} {b : Nat}, (b = 77 ∨ b = 214 ∨ b = 350) → rkKq R S b → (∀ j : Int, 0 ≤ j → j < 6180 → R_p j = R j) → rkKq R_p S_p b) (h : rkKT S) (r : ∀ j : Int, 0 ≤ j → j < 6180 → S_p 482 j = S 482 j) (c3 : ∀ j : Int, 0 ≤ j → j < 12360 → S_p 483 j = S 483 j) (k0 : S_p 410 0 = S 410 0) (k1 : S_p 410 1 = S 410 1) : rkKT S_p := by
  obtain ⟨h0, h1, h2, h3⟩ := h
  refine ⟨hl h0, hq (Or.inl rfl) h1 r, ?_, ?_⟩
  · rw [k0]
    exact h2.imp id fun g => hq (Or.inr (Or.inl rfl)) g fun j a b => c3 _ (by omega) (by omega)
  · rw [k1]
    exact h3.imp id fun g => hq (Or.inr (Or.inr rfl)) g fun j a b => c3 _ (by omega) (by omega)
theorem rkKT_k0 {S S_p : Nat → Int → Int} (hl : rkPl S → rkPl S_p) (hq : ∀ {R R_p : Int → Int} {b : Nat}, (b = 77 ∨ b = 214 ∨ b = 350) → rkKq R S b → (∀ j : Int, 0 ≤ j → j < 6180 → R_p j = R j) → rkKq R_p S_p b) (h : rkKTb0 S) (r : ∀ j : Int, 0 ≤ j → j < 6180 → S_p 482 j = S 483 j) (c3 : ∀ j : Int, 0 ≤ j → j < 12360 → S_p 483 j = S 483 j) (k0 : S_p 410 0 = S 410 0) (k1 : S_p 410 1 = S 410 1) : rkKT S_p := by
  obtain ⟨h0, h1, h2, h3⟩ := h
  refine ⟨hl h0, hq (Or.inl rfl) h1 r, ?_, ?_⟩
  · rw [k0]
    exact h2.imp id fun g => hq (Or.inr (Or.inl rfl)) g fun j a b => c3 _ (by omega) (by omega)
  · rw [k1]
    exact h3.imp id fun g => hq (Or.inr (Or.inr rfl)) g fun j a b => c3 _ (by omega) (by omega)
theorem rkKT_k1 {S S_p : Nat → Int → Int} (hl : rkPl S → rkPl S_p) (hq : ∀ {R R_p : Int → Int} {b : Nat}, (b = 77 ∨ b = 214 ∨ b = 350) → rkKq R S b → (∀ j : Int, 0 ≤ j → j < 6180 → R_p j = R j) → rkKq R_p S_p b) (h : rkKTb1 S) (r : ∀ j : Int, 0 ≤ j → j < 6180 → S_p 482 j = S 483 (6180 + j)) (c3 : ∀ j : Int, 0 ≤ j → j < 12360 → S_p 483 j = S 483 j) (k0 : S_p 410 0 = S 410 0) (k1 : S_p 410 1 = S 410 1) : rkKT S_p := by
  obtain ⟨h0, h1, h2, h3⟩ := h
  refine ⟨hl h0, hq (Or.inl rfl) h1 r, ?_, ?_⟩
  · rw [k0]
    exact h2.imp id fun g => hq (Or.inr (Or.inl rfl)) g fun j a b => c3 _ (by omega) (by omega)
  · rw [k1]
    exact h3.imp id fun g => hq (Or.inr (Or.inr rfl)) g fun j a b => c3 _ (by omega) (by omega)
end RKKK
theorem rkTl_st {row b : Nat} (h : ∀ i : Nat, i < 6 → rzS row (i : Int) = ((b + 10 * i : Nat) : Int) ∧ (rzS (b + 10 * i) 8 = ((b + 10 * i : Nat) : Int) + 7 ∧ rzS (b + 10 * i) 9 = ((b + 10 * i : Nat) : Int) + 8 ∧ rzS (b + 10 * i) 10 = ((b + 10 * i : Nat) : Int) + 9)) : rkTl rzS row b := h
theorem rkSl_st {row b n : Nat} (h : ∀ i : Nat, i < n → rzS row (i : Int) = ((b + 3 * i : Nat) : Int) ∧ (rzS (b + 3 * i) 0 = ((b + 3 * i + 1 : Nat) : Int) ∧ rzS (b + 3 * i) 1 = ((b + 3 * i + 2 : Nat) : Int))) : rkSl rzS row b n := h
theorem rkPl_st : rkPl rzS :=
  ⟨⟨⟨by decide +kernel, by decide +kernel, by decide +kernel⟩, rkTl_st (by decide +kernel), rkTl_st (by decide +kernel), rkTl_st (by decide +kernel)⟩, ⟨rkSl_st (by decide +kernel), rkSl_st (by decide +kernel)⟩, ⟨rkSl_st (by decide +kernel), rkSl_st (by decide +kernel)⟩, ⟨rkSl_st (by decide +kernel), rkSl_st (by decide +kernel)⟩⟩
theorem rkKT_st : rkKT rzS := by
  have e3 : rzS 482 3 = 0 := by decide +kernel
  refine ⟨rkPl_st, fun k x _ => ?_, Or.inl (by decide +kernel), Or.inl (by decide +kernel)⟩
  rw [e3] at x
  omega
end
section
noncomputable def rkFu (R : Int → Int) : Prop := R 4 = -1 ∨ (0 ≤ R 4 ∧ R 4 < R 3)
theorem rkFu_r {R R_p : Int → Int} (h : rkFu R) (e3 : R_p 3 = R 3) (e4 : R_p 4 = R 4) : rkFu R_p := by
  unfold rkFu at h ⊢
  rw [e3, e4]
  exact h
noncomputable def rkFx (S : Nat → Int → Int) (j : Int) : Int := S 483 (6180 + j)
noncomputable def rkFv (S : Nat → Int → Int) : Prop := rkFu (S 482) ∧ (S 410 0 = 0 ∨ rkFu (S 483)) ∧ (S 410 1 = 0 ∨ rkFu (rkFx S))
noncomputable def rkFvi0 (S : Nat → Int → Int) : Prop := rkFu (S 482) ∧ (S 410 1 = 0 ∨ rkFu (rkFx S))
noncomputable def rkFvi1 (S : Nat → Int → Int) : Prop := rkFu (S 482) ∧ (S 410 0 = 0 ∨ rkFu (S 483))
noncomputable def rkFvb0 (S : Nat → Int → Int) : Prop := rkFu (S 483) ∧ (S 410 0 = 0 ∨ rkFu (S 483)) ∧ (S 410 1 = 0 ∨ rkFu (rkFx S))
noncomputable def rkFvb1 (S : Nat → Int → Int) : Prop := rkFu (rkFx S) ∧ (S 410 0 = 0 ∨ rkFu (S 483)) ∧ (S 410 1 = 0 ∨ rkFu (rkFx S))
section RKFV
variable {S S_p : Nat → Int → Int}
theorem rkFx_e (r : ∀ j : Int, 6180 ≤ j → j < 12360 → S_p 483 j = S 483 j) (h : rkFu (rkFx S)) : rkFu (rkFx S_p) := rkFu_r h (r _ (by omega) (by omega)) (r _ (by omega) (by omega))
theorem rkFy_e (r : ∀ j : Int, 0 ≤ j → j < 6180 → S_p 483 j = S 483 j) (h : rkFu (S 483)) : rkFu (S_p 483) := rkFu_r h (r _ (by omega) (by omega)) (r _ (by omega) (by omega))
theorem rkFk0 (k0 : S_p 410 0 = S 410 0) (r : ∀ j : Int, 0 ≤ j → j < 6180 → S_p 483 j = S 483 j) (h : S 410 0 = 0 ∨ rkFu (S 483)) : S_p 410 0 = 0 ∨ rkFu (S_p 483) := h.imp (fun g => k0.trans g) (rkFy_e r)
theorem rkFk1 (k1 : S_p 410 1 = S 410 1) (r : ∀ j : Int, 6180 ≤ j → j < 12360 → S_p 483 j = S 483 j) (h : S 410 1 = 0 ∨ rkFu (rkFx S)) : S_p 410 1 = 0 ∨ rkFu (rkFx S_p) := h.imp (fun g => k1.trans g) (rkFx_e r)
theorem rkFv_e (h : rkFv S) (e3 : S_p 482 3 = S 482 3) (e4 : S_p 482 4 = S 482 4) (r : ∀ j : Int, 0 ≤ j → j < 12360 → S_p 483 j = S 483 j) (k0 : S_p 410 0 = S 410 0) (k1 : S_p 410 1 = S 410 1) : rkFv S_p :=
  ⟨rkFu_r h.1 e3 e4, rkFk0 k0 (fun j a b => r j a (by omega)) h.2.1, rkFk1 k1 (fun j a b => r j (by omega) b) h.2.2⟩
theorem rkFv_u (h : rkFv S) (u : rkFu (S_p 482)) (r : ∀ j : Int, 0 ≤ j → j < 12360 → S_p 483 j = S 483 j) (k0 : S_p 410 0 = S 410 0) (k1 : S_p 410 1 = S 410 1) : rkFv S_p :=
  ⟨u, rkFk0 k0 (fun j a b => r j a (by omega)) h.2.1, rkFk1 k1 (fun j a b => r j (by omega) b) h.2.2⟩
theorem rkFv_i0 (h : rkFv S) (e3 : S_p 482 3 = S 482 3) (e4 : S_p 482 4 = S 482 4) (r : ∀ j : Int, 0 ≤ j → j < 12360 → S_p 483 j = S 483 j) (k1 : S_p 410 1 = S 410 1) : rkFvi0 S_p := ⟨rkFu_r h.1 e3 e4, rkFk1 k1 (fun j a b => r j (by omega) b) h.2.2⟩
theorem rkFv_i1 (h : rkFv S) (e3 : S_p 482 3 = S 482 3) (e4 : S_p 482 4 = S 482 4) (r : ∀ j : Int, 0 ≤ j → j < 12360 → S_p 483 j = S 483 j) (k0 : S_p 410 0 = S 410 0) : rkFvi1 S_p := ⟨rkFu_r h.1 e3 e4, rkFk0 k0 (fun j a b => r j a (by omega)) h.2.1⟩
theorem rkFv_j0 (h : rkFvi0 S) (e3 : S_p 482 3 = S 482 3) (e4 : S_p 482 4 = S 482 4) (c1 : ∀ j : Int, 0 ≤ j → j < 6180 → S_p 483 j = S 482 j) (c2 : ∀ j : Int, 6180 ≤ j → S_p 483 j = S 483 j) (k1 : S_p 410 1 = S 410 1) : rkFv S_p := ⟨rkFu_r h.1 e3 e4, Or.inr (rkFu_r h.1 (c1 _ (by omega) (by omega)) (c1 _ (by omega) (by omega))), rkFk1 k1 (fun j a b => c2 j a) h.2⟩
theorem rkFv_j1 (h : rkFvi1 S) (e3 : S_p 482 3 = S 482 3) (e4 : S_p 482 4 = S 482 4) (c1 : ∀ j : Int, 0 ≤ j → j < 6180 → S_p 483 (6180 + j) = S 482 j) (c2 : ∀ j : Int, j < 6180 → S_p 483 j = S 483 j) (k0 : S_p 410 0 = S 410 0) : rkFv S_p := ⟨rkFu_r h.1 e3 e4, rkFk0 k0 (fun j a b => c2 j b) h.2, Or.inr (rkFu_r h.1 (c1 _ (by omega) (by omega)) (c1 _ (by omega) (by omega)))⟩
theorem rkFv_b0 (h : rkFv S) (z : S 410 0 ≠ 0) (r : ∀ j : Int, 0 ≤ j → j < 12360 → S_p 483 j = S 483 j) (k0 : S_p 410 0 = S 410 0) (k1 : S_p 410 1 = S 410 1) : rkFvb0 S_p := ⟨rkFy_e (fun j a b => r j a (by omega)) (h.2.1.resolve_left z), rkFk0 k0 (fun j a b => r j a (by omega)) h.2.1, rkFk1 k1 (fun j a b => r j (by omega) b) h.2.2⟩
theorem rkFv_b1 (h : rkFv S) (z : S 410 1 ≠ 0) (r : ∀ j : Int, 0 ≤ j → j < 12360 → S_p 483 j = S 483 j) (k0 : S_p 410 0 = S 410 0) (k1 : S_p 410 1 = S 410 1) : rkFvb1 S_p := ⟨rkFx_e (fun j a b => r j (by omega) b) (h.2.2.resolve_left z), rkFk0 k0 (fun j a b => r j a (by omega)) h.2.1, rkFk1 k1 (fun j a b => r j (by omega) b) h.2.2⟩
theorem rkFv_k0 (h : rkFvb0 S) (r : ∀ j : Int, 0 ≤ j → j < 6180 → S_p 482 j = S 483 j) (c3 : ∀ j : Int, 0 ≤ j → j < 12360 → S_p 483 j = S 483 j) (k0 : S_p 410 0 = S 410 0) (k1 : S_p 410 1 = S 410 1) : rkFv S_p := ⟨rkFu_r h.1 (r _ (by omega) (by omega)) (r _ (by omega) (by omega)), rkFk0 k0 (fun j a b => c3 j a (by omega)) h.2.1, rkFk1 k1 (fun j a b => c3 j (by omega) b) h.2.2⟩
theorem rkFv_k1 (h : rkFvb1 S) (r : ∀ j : Int, 0 ≤ j → j < 6180 → S_p 482 j = S 483 (6180 + j)) (c3 : ∀ j : Int, 0 ≤ j → j < 12360 → S_p 483 j = S 483 j) (k0 : S_p 410 0 = S 410 0) (k1 : S_p 410 1 = S 410 1) : rkFv S_p := ⟨rkFu_r h.1 (r _ (by omega) (by omega)) (r _ (by omega) (by omega)), rkFk0 k0 (fun j a b => c3 j a (by omega)) h.2.1, rkFk1 k1 (fun j a b => c3 j (by omega) b) h.2.2⟩
theorem rkFv_sm {ms : List (Nat × Nat)} (hs : bx_same rxL (bx_mdl ms) S S_p) (hk : [(1063, 5), (1063, 6), (1031, 0), (1064, 0), (1064, 1)].all (fun q => !(bx_mdl ms q.1 q.2)) = true) (h : rkFv S) : rkFv S_p := by
  have f : ∀ a b : Nat, (a, b) ∈ [(1063, 5), (1063, 6), (1031, 0), (1064, 0), (1064, 1)] → bx_mdl ms a b = false := fun a b hm => by
    have := List.all_eq_true.mp hk (a, b) hm
    rw [Bool.not_eq_true'] at this
    exact this
  exact rkFv_e h (hs 482 3 (by decide) (by decide) (f _ _ (by decide))) (hs 482 4 (by decide) (by decide) (f _ _ (by decide))) (fun j a b => rx_same64 (f _ _ (by decide)) (f _ _ (by decide)) hs a b) (hs 410 0 (by decide) (by decide) (f _ _ (by decide))) (hs 410 1 (by decide) (by decide) (f _ _ (by decide)))
end RKFV
theorem rkFv_st : rkFv rzS := by
  have e4 : rzS 482 4 = -1 := by decide +kernel
  exact ⟨Or.inl e4, Or.inl (by decide +kernel), Or.inl (by decide +kernel)⟩
end
section
noncomputable def rkKTl (S : Nat → Int → Int) : Prop := rkPl S ∧ rkKq (S 482) S 77 ∧ (S 410 0 = 0 ∨ rkKq (S 483) S 214) ∧ (S 410 1 = 0 ∨ rkKq (fun j => S 483 (6180 + j)) S 350) ∧ ∃ L : List rkQ, rkText false (rzCut (S 485)) (S 480 8) L ∧ rkHl S (77 + 10 * (S 482 3).toNat) L
section RKJ
variable {S0 S : Nat → Int → Int}
theorem rkKT_la0 (h : rkKT S0) (hl : rkPl S) (hd : rkOe S0 S) (r : ∀ j : Int, 0 ≤ j → j < 6180 → S 482 j = S0 482 j) (r3 : ∀ j : Int, 0 ≤ j → j < 12360 → S 483 j = S0 483 j) (k0 : S 410 0 = S0 410 0) (k1 : S 410 1 = S0 410 1) : rkKT S := by
  obtain ⟨-, h1, h2, h3⟩ := h
  have e : ∀ {b : Nat}, (b = 77 ∨ b = 214 ∨ b = 350) → ∀ k : Nat, k < 6 → tqEq S0 S (b + 10 * k) := fun hb k hk => tqEq_oe hb hk fun p i _ _ hp ho => hd p i hp ho
  refine ⟨hl, rkKq_r (rkKq_e h1 (e (Or.inl rfl))) r, ?_, ?_⟩
  · rw [k0]
    exact h2.imp id fun g => rkKq_r (rkKq_e g (e (Or.inr (Or.inl rfl)))) fun j a b => r3 j a (by omega)
  · rw [k1]
    exact h3.imp id fun g => rkKq_r (rkKq_e g (e (Or.inr (Or.inr rfl)))) fun j a b => r3 _ (by omega) (by omega)
theorem rkKT_la (h : rkKT S0) (hl : rkPl S) (hd : rkLd8 S0 S) (hn : S0 1 14 = S0 482 3) (r : ∀ j : Int, 0 ≤ j → j < 6180 → S 482 j = S0 482 j) (r3 : ∀ j : Int, 0 ≤ j → j < 12360 → S 483 j = S0 483 j) (k0 : S 410 0 = S0 410 0) (k1 : S 410 1 = S0 410 1) (cT : rzCut (S 485) = rzCut (S0 411)) (cN : S 480 8 = S0 0 4) : rkKTl S := by
  obtain ⟨-, h1, h2, h3⟩ := h
  obtain ⟨i, i6, hi, ⟨L, t1, t2⟩, ho⟩ := hd
  have e : ∀ {b : Nat}, (b = 77 ∨ b = 214 ∨ b = 350) → ∀ k : Nat, k < 6 → (b = 77 → k ≠ i) → tqEq S0 S (b + 10 * k) := fun {b} hb k hk hne => tqEq_oe hb hk fun p q a b_p hp ho_p => ho p q hp (by
    rcases hb with rfl | rfl | rfl
    · have := hne rfl
      omega
    · omega
    · omega) (tqOk_x ho_p).2.1
  refine ⟨hl, fun k x y => ?_, ?_, ?_, L, by rw [cT, cN]; exact t1, ?_⟩
  · have e3 : S 482 3 = S0 482 3 := r 3 (by omega) (by omega)
    rw [e3] at x
    obtain ⟨L_p, g1, g2, g3⟩ := h1 k x y
    exact ⟨L_p, rkTr_cg g1 fun j a b => r j (by omega) (by omega), rkHl_eq g2 (e (Or.inl rfl) k y (fun _ => by omega)), g3⟩
  · rw [k0]
    exact h2.imp id fun g => rkKq_r (rkKq_e g fun k hk => e (Or.inr (Or.inl rfl)) k hk (fun q => absurd q (by decide))) fun j a b => r3 j a (by omega)
  · rw [k1]
    exact h3.imp id fun g => rkKq_r (rkKq_e g fun k hk => e (Or.inr (Or.inr rfl)) k hk (fun q => absurd q (by decide))) fun j a b => r3 _ (by omega) (by omega)
  · rw [r 3 (by omega) (by omega), ← hn, hi]
    exact t2
theorem rkKT_lb (hl : rkPl S0 → rkPl S) (hq : ∀ {R R_p : Int → Int} {b : Nat}, (b = 77 ∨ b = 214 ∨ b = 350) → rkKq R S0 b → (∀ j : Int, 0 ≤ j → j < 6180 → R_p j = R j) → rkKq R_p S b) (hh : ∀ {k : Nat} {L : List rkQ}, k < 6 → rkHl S0 (77 + 10 * k) L → rkHl S (77 + 10 * k) L) (h : rkKTl S0) (h0 : 0 ≤ S0 482 3) (h6 : S0 482 3 < 6) (e3 : S 482 3 = S0 482 3 + 1) (hw : rkLw S0 S) (r3 : ∀ j : Int, 0 ≤ j → j < 12360 → S 483 j = S0 483 j) (k0 : S 410 0 = S0 410 0) (k1 : S 410 1 = S0 410 1) : rkKT S := by
  obtain ⟨g0, g1, g2, g3, L, t1, t2⟩ := h
  rcases hw with ⟨w, -⟩ | ⟨-, w, L_p, u1, u2⟩
  · omega
  · have eL : L = L_p := rkTx_det t1 u1
    subst eL
    refine ⟨hl g0, fun k x y => ?_, ?_, ?_⟩
    · by_cases hk : (k : Int) < S0 482 3
      · obtain ⟨L_p, v1, v2, v3⟩ := g1 k hk y
        exact ⟨L_p, rkTr_cg v1 fun j a b => w j (by omega) (by omega) (by omega) (by omega), hh y v2, v3⟩
      · have ek : (k : Int) = S0 482 3 := by omega
        refine ⟨L, by rw [ek]; exact u2, ?_, rkText_ln u1⟩
        rw [show (S0 482 3).toNat = k by omega] at t2
        exact hh y t2
    · rw [k0]
      exact g2.imp id fun g => hq (Or.inr (Or.inl rfl)) g fun j a b => r3 j a (by omega)
    · rw [k1]
      exact g3.imp id fun g => hq (Or.inr (Or.inr rfl)) g fun j a b => r3 _ (by omega) (by omega)
end RKJ
theorem rkHl_sm {ms : List (Nat × Nat)} {S S_p : Nat → Int → Int} (hs : bx_same rxL (bx_mdl ms) S S_p) (hk : tqKs.all (fun q => !(bx_mdl ms q.1 q.2)) = true) {k : Nat} {L : List rkQ} (h6 : k < 6) (h : rkHl S (77 + 10 * k) L) : rkHl S_p (77 + 10 * k) L := rkHl_eq h (tqEq_sm hs hk (rkPg_in (Or.inl rfl) h6))
end
