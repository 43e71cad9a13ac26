/-! CONTRACT BY HAND, by program (wip/sim/genhand.py): DeadUnderstudies.image -/
def rxCI0T : bx_Ct := ([(3, (1, 0, 0)), (0, (0, 0, 0))], some (0, (0, (-6), 0)), [(2, 0), (5, 0), (6, 0), (6, 4), (10, 0), (10, 5), (10, 10), (10, 14), (10, 15), (11, 8), (1000, 0), (1001, 0), (1003, 0), (1004, 0), (1005, 0), (1006, 0), (1007, 0), (1008, 0), (1010, 0), (1011, 0), (1012, 0), (1013, 0), (1015, 0), (1019, 0), (1020, 0), (1021, 0), (1022, 0), (1024, 0), (1025, 0), (1026, 0), (1027, 0), (1031, 0), (1037, 0)], 3, [])
def rxII0T_0 (S0 : Nat → Int → Int) (ws : List Int) (S : Nat → Int → Int) (ki : Int) : Prop := S = S0 ∧ ws = [0, ki]
def rxmI0T_0 (S0 : Nat → Int → Int) (ws : List Int) (S : Nat → Int → Int) (ki : Int) : Nat := 100
def rxzI0T_0 : rx_Z := ([(0, 0), (0, 0), (0, 0), (0, 0), (0, 0), (0, 0), (0, 0), (0, 0), (0, 0)], [], [], 0, 0, 0, [(0, .inr (3, (0, 0))), (1, .inr (0, (8, 0)))], [])
def rxII0T_1 (S0 : Nat → Int → Int) (ws : List Int) (S : Nat → Int → Int) (ki : Int) : Prop := S = S0
def rxmI0T_1 (S0 : Nat → Int → Int) (ws : List Int) (S : Nat → Int → Int) (ki : Int) : Nat := 50
def rxzI0T_1 : rx_Z := ([(0, 0), (0, 0), (0, 0), (0, 0), (0, 0), (0, 0), (0, 0), (0, 0), (0, 0)], [], [], 0, 0, 25, [(0, .inr (3, (0, 0))), (1, .inr (0, (8, 0)))], [.inr (3, (0, 1)), .inr (3, (0, 138))])
def rxII0T_2 (S0 : Nat → Int → Int) (ws : List Int) (S : Nat → Int → Int) (ki : Int) : Prop := rxPSCZ138x1 S0 [138, 1] S none ∧ ∀ n : Nat, n < 2 → S 410 (n : Int) = S0 410 (n : Int)
def rxmI0T_2 (S0 : Nat → Int → Int) (ws : List Int) (S : Nat → Int → Int) (ki : Int) : Nat := 20
def rxzI0T_2 : rx_Z := ([(0, 0), (0, 0), (0, 0), (0, 0), (0, 0), (0, 0), (0, 0), (0, 0), (0, 0)], [], [], 0, 0, 28, [(0, .inr (3, (0, 0))), (1, .inr (0, (8, 0)))], [])
def rxoI0T_0_0 : bx_HO := (([(0, 0), (0, 0), (0, 0), (0, 0), (0, 0), (0, 0), (0, 0), (0, 0), (0, 0)], [], [(((0, 0), 0), .inr (3, (0, 1))), (((0, 137), 0), .inr (3, (0, 138))), (((0, 0), 1), .inr (3, (0, 137)))], 0, 0, 25, [(0, .inr (3, (0, 0))), (1, .inr (0, (8, 0)))], [.inr (3, (0, 1)), .inr (3, (0, 138))]), [], [], [(0, 0), (0, 0), (0, 0), (0, 0), (0, 0), (0, 0), (0, 0), (0, 0), (8, 0)], 1)
def rxeI0T_2_0 : rx_End × List (Nat × Int × Int) := (([(0, 0), (0, 0), (0, 0), (0, 0), (0, 0), (0, 0), (0, 0), (0, 0), (0, 0)], [], [(((0, 0), 1851192626986356799029993984671224184301589730656725205983952899000000), .inr (0, (0, 0))), (((0, 0), 8), .inr (0, (0, 0))), (((0, 0), 1851192626986356797424364830707437625680387377997778265106415619000000), .inr (0, (0, 1))), (((0, 410), 0), .inr (0, (0, 1))), (((0, 0), 2), .inr (3, (0, 410)))], some (.inr (0, (0, 0)))), [])
def rxYI0T : List bx_HE := [(rxzI0T_0, [rxoI0T_0_0], []), (rxzI0T_1, [], []), (rxzI0T_2, [], [rxeI0T_2_0])]
def rxUI0T (q : bx_HE) : Bool := Nat.beq (rx_zpc q.1) 25
def rxYBI0T : bx_B := (rxV, rxNP, rxDmf, bx_mdH rxCI0T.2.2.1)
set_option maxRecDepth 100000 in
theorem rxYcI0T : bx_chkH rxYBI0T rxM208 rxCI0T rxYI0T (rxUI0T, fun cut z => rx_ex2 (rxCT rxYBI0T rxCnE) cut 30000 rxCI0T.2.2.2.1 208 z) = true := by decide +kernel
def rxII0T (S0 : Nat → Int → Int) (ws : List Int) (i : Nat) : bx_SP := fun S r => match i with | 0 => rxII0T_0 S0 ws S (r 8) | 1 => rxII0T_1 S0 ws S (r 8) | 2 => rxII0T_2 S0 ws S (r 8) | _ => False
def rxmI0T (S0 : Nat → Int → Int) (ws : List Int) (i : Nat) (S : Nat → Int → Int) (r : Nat → Int) : Nat := match i with | 0 => rxmI0T_0 S0 ws S (r 8) | 1 => rxmI0T_1 S0 ws S (r 8) | 2 => rxmI0T_2 S0 ws S (r 8) | _ => 0
def rxPI0T (S0 : Nat → Int → Int) (ws : List Int) : Prop := rkPl S0
def rxPSI0T (S0 : Nat → Int → Int) (ws : List Int) (S : Nat → Int → Int) (w : Option Int) : Prop := ∃ S1 : Nat → Int → Int, (rxPSCZ138x1 S0 [138, 1] S1 none ∧ ∀ n : Nat, n < 2 → S1 410 (n : Int) = S0 410 (n : Int)) ∧ S = bx_up (bx_up S1 410 0 1) 0 8 0 ∧ w = some 0
theorem rxkI0T_1 {S0 : Nat → Int → Int} {ws : List Int} {S : Nat → Int → Int} {ki : Int} (hP : rxPI0T S0 ws) (hin : bx_same rxL (bx_mdl rxCI0T.2.2.1) S0 S) (I0 : bx_Inv rxL S) (hinv : rxII0T_1 S0 ws S ki) (l8 : 0 ≤ ki) (u8 : ki ≤ 0) : rxPCZ138x1 S [138, 1] ∧ ∀ (S_p : Nat → Int → Int), rxPSCZ138x1 S [138, 1] S_p none → bx_Inv rxL S_p → bx_same rxL (bx_mdl rxCCZ138x1.2.2.1) S S_p → rxII0T_2 S0 ws S_p ki ∧ rxmI0T_2 S0 ws S_p ki < rxmI0T_1 S0 ws S ki := by
  have hinv : S = S0 := hinv
  subst hinv
  refine ⟨hP, fun S_p hq _ hsm => ⟨⟨hq, fun n hn => hsm 410 n (by decide) hn ?_⟩, by unfold rxmI0T_1 rxmI0T_2; omega⟩⟩
  have e : bx_mc (rxL.1 410) n = (1031, if n < 780 then 0 else 1) := rfl
  rw [e, if_pos (by omega)]
  decide +kernel
theorem rxsI0T_1 {X : (Nat → Int → Int) → Prop} {S0 : Nat → Int → Int} {ws : List Int} (hP : rxPI0T S0 ws) : rx_obK X S0 rxCI0T.2.2.1 rxCCZ138x1.2.2.1 (rxII0T S0 ws) (rxmI0T S0 ws) 1 2 rxzI0T_1 rxzI0T_2 [.inr (3, (0, 138)), .inr (3, (0, 1))] none rxPCZ138x1 rxPSCZ138x1 := by
  intro S r hinv hXS I0 hin hs_ hf_
  have b_ := bx_bds_sat hs_
  have f_ := bx_fcl_ok hs_.1 hf_
  obtain ⟨⟨l8, u8⟩, -⟩ := b_
  have g := rxkI0T_1 hP hin I0 hinv l8 u8
  have ea : List.map (bx_num r) [.inr (3, (0, 138)), .inr (3, (0, 1))] = [138, 1] := by
    simp only [List.map_cons, List.map_nil, bx_xv_ok hs_.1]
    rfl
  rw [ea]
  refine ⟨g.1, fun S_p w r_p hPS hX_p I1 hsm hr hw hs_p => ?_⟩
  have hw : w = none := hPS.1
  subst hw
  have g2 := g.2 S_p hPS I1 hsm
  show rxII0T_2 S0 ws S_p (r_p 8) ∧ rxmI0T_2 S0 ws S_p (r_p 8) < _
  rw [hr 8 (by decide)]
  exact g2
theorem rxcI0T_0_0 {S0 : Nat → Int → Int} {ws : List Int} {S : Nat → Int → Int} {ki : Int} (hP : rxPI0T S0 ws) (hin : bx_same rxL (bx_mdl rxCI0T.2.2.1) S0 S) (I0 : bx_Inv rxL S) (hinv : rxII0T_0 S0 ws S ki) (l8 : 0 ≤ ki) (u8 : ki ≤ 0) : (True) ∧ (True) ∧ rxII0T_1 S0 ws S ki ∧ rxmI0T_1 S0 ws S ki < rxmI0T_0 S0 ws S ki := by
  obtain ⟨rfl, hw⟩ := hinv
  exact ⟨trivial, trivial, rfl, by unfold rxmI0T_0 rxmI0T_1; omega⟩
theorem rxgI0T_0_0 {X : (Nat → Int → Int) → Prop} {S0 : Nat → Int → Int} {ws : List Int} (hP : rxPI0T S0 ws) : bx_obC rxL X S0 rxCI0T.2.2.1 (rxII0T S0 ws) (rxmI0T S0 ws) 0 rxzI0T_0 rxoI0T_0_0 := by
  intro S S_p r r_p hinv hX hin hsm_ hseg
  obtain ⟨I0, I1, h0_, hr_, b_, f_, d_⟩ := bx_cl (evs := []) (fvs := []) hseg (by decide +kernel) (by decide +kernel)
  have hinv : rxII0T_0 S0 ws S (r 8) := hinv
  rw [← hr_ 8 (by decide)] at hinv
  obtain ⟨⟨l8, u8⟩, -⟩ := b_
  have w_ := d_
  subst w_
  have g := rxcI0T_0_0 hP hin I0 hinv l8 u8
  refine ⟨bx_narP_ok (l := []) g.1, bx_nfP_ok h0_ (fvs := []) (by decide +kernel) g.2.1, ?_, ?_⟩
  · show rxII0T_1 S0 ws S_p (bx_val [(0, 0), (0, 0), (0, 0), (0, 0), (0, 0), (0, 0), (0, 0), (0, 0), (8, 0)] r_p 8)
    rw [bx_val_x (n := 8) (e := (8, 0)) h0_ rfl]
    exact g.2.2.1
  · show rxmI0T_1 S0 ws S_p (bx_val [(0, 0), (0, 0), (0, 0), (0, 0), (0, 0), (0, 0), (0, 0), (0, 0), (8, 0)] r_p 8) < rxmI0T_0 S0 ws S_p (r 8)
    rw [bx_val_x (n := 8) (e := (8, 0)) h0_ rfl, ← hr_ 8 (by decide)]
    exact g.2.2.2
theorem rxdI0T_2_0 {S0 : Nat → Int → Int} {ws : List Int} {S : Nat → Int → Int} {ki : Int} (hP : rxPI0T S0 ws) (hin : bx_same rxL (bx_mdl rxCI0T.2.2.1) S0 S) (hin2 : bx_same rxL (bx_mdl rxCI0T.2.2.1) S (bx_up (bx_up S 410 ki 1) 0 8 0)) (I0 : bx_Inv rxL S) (I1 : bx_Inv rxL (bx_up (bx_up S 410 ki 1) 0 8 0)) (hinv : rxII0T_2 S0 ws S ki) (l8 : 0 ≤ ki) (u8 : ki ≤ 0) : (True) ∧ rxPSI0T S0 ws (bx_up (bx_up S 410 ki 1) 0 8 0) (some 0) := by
  have e : ki = 0 := by omega
  subst e
  exact ⟨trivial, S, hinv, rfl, rfl⟩
theorem rxfI0T_2_0 {X : (Nat → Int → Int) → Prop} {S0 : Nat → Int → Int} {ws : List Int} (hP : rxPI0T S0 ws) : bx_obE rxL X S0 rxCI0T.2.2.1 (rxII0T S0 ws) (rxPSI0T S0 ws) 2 rxzI0T_2 rxeI0T_2_0 := by
  intro S S_p r r_p hinv hX hin hsm_ hseg
  obtain ⟨I0, I1, h0_, hr_, b_, f_, d_⟩ := bx_cl (evs := [(1, (0, 0), (0, 8), .inr (0, (0, 0))), (1, (0, 410), (8, 0), .inr (0, (0, 1)))]) (fvs := []) hseg (by decide +kernel) (by decide +kernel)
  have hinv : rxII0T_2 S0 ws S (r 8) := hinv
  rw [← hr_ 8 (by decide)] at hinv
  obtain ⟨⟨l8, u8⟩, -⟩ := b_
  obtain ⟨T0, ⟨T1, w_, w1⟩, w0⟩ := d_
  subst w0
  subst w1
  subst w_
  have g := rxdI0T_2_0 hP hin hsm_ I0 I1 hinv l8 u8
  refine ⟨bx_narP_ok (l := []) g.1, ?_⟩
  show rxPSI0T S0 ws (bx_up (bx_up T1 410 (r_p 8) (1)) 0 (8) (0)) (some (bx_num r_p (.inr (0, (0, 0)))))
  rw [bx_xv_ok h0_]
  exact g.2
theorem rxgCI0T {X : (Nat → Int → Int) → Prop} {S0 : Nat → Int → Int} {ws : List Int} (hP : rxPI0T S0 ws) : bx_allI (fun i q => rxUI0T q = true ∨ bx_allP (fun o => bx_obC rxL X S0 rxCI0T.2.2.1 (rxII0T S0 ws) (rxmI0T S0 ws) i q.1 o) q.2.1) 0 rxYI0T := ⟨Or.inr ⟨rxgI0T_0_0 hP, trivial⟩, Or.inl rfl, Or.inr trivial, trivial⟩
theorem rxgEI0T {X : (Nat → Int → Int) → Prop} {S0 : Nat → Int → Int} {ws : List Int} (hP : rxPI0T S0 ws) : bx_allI (fun i q => rxUI0T q = true ∨ bx_allP (fun E => bx_obE rxL X S0 rxCI0T.2.2.1 (rxII0T S0 ws) (rxPSI0T S0 ws) i q.1 E) q.2.2) 0 rxYI0T := ⟨Or.inr trivial, Or.inl rfl, Or.inr ⟨rxfI0T_2_0 hP, trivial⟩, trivial⟩
theorem rxuI0T {PX : State → Prop} {Dg : va_G} {A : Nat → Prop} {ad xa : Nat → Nat} {l : Launch} {X : (Nat → Int → Int) → Prop} (hPX : rx_PXOK rxNW A PX) (hX : ∀ S S1 : Nat → Int → Int, X S → bx_same rxL (bx_mdl rxCI0T.2.2.1) S S1 → X S1) (hQCZ138x1 : bx_ConP rxG rxNW rxAO PX Dg rxL X vwCl A ad l rxM154 rxCCZ138x1 rxPCZ138x1 rxPSCZ138x1) {S0 : Nat → Int → Int} {ws : List Int} (hP : rxPI0T S0 ws) : ∀ (i : Nat) (q : bx_HE), rxYI0T[i]? = some q → rxUI0T q = true → ∀ {p : Program} {e : Env} {R : Room} {s : State} {m : MethodId} {args : Array Value} {below : List Frame} {meth : Method} {c : Code} {Q : State → Prop} {H0 : Heap}, rx_Fr rxG rxNW rxAO PX p s m args meth c rxM208 → (∀ q, H0.size ≤ q → A q) → H0 = s.heap → rxM208.2.2.2.2.2.2.1 ≤ R.cells → rxM208.2.2.2.2.2.2.2 ≤ R.slots → rxCI0T.2.2.2.1 ≤ R.frames → rxCI0T.2.2.2.1 * 40 ≤ R.locals → bx_Step p l e R s m args below meth c Q Dg rxL X vwCl A xa H0 ad rxM208 rxYI0T (rxII0T S0 ws) (rxmI0T S0 ws) S0 rxCI0T.2.2.1 i q := by
  intro i q hq hus p e R s m args below meth c Q H0 hF hA hH0 hmc hms hd hdl
  match i, hq with
  | 0, hq =>
    cases hq
    exact absurd (show false = true from hus) Bool.false_ne_true
  | 1, hq =>
    cases hq
    exact rx_stepC (ins := .invokevirtual 431) (len := 3) (i_p := 2) (M_p := rxM154) (d := rxCI0T.2.2.2.1) (as := [.inr (3, (0, 138)), .inr (3, (0, 1))]) (t := []) (ct := rxCCZ138x1) hPX hF rfl hA hH0 hmc hms hd hdl (by decide +kernel) rfl rfl (by decide +kernel) (by decide +kernel) hQCZ138x1 (by decide +kernel) rfl (Or.inl ⟨rfl, rfl, rfl⟩) (rxsI0T_1 hP)
  | 2, hq =>
    cases hq
    exact absurd (show false = true from hus) Bool.false_ne_true
  | n + 3, hq => cases hq
theorem rxQI0T {PX : State → Prop} {Dg : va_G} {A : Nat → Prop} {ad xa : Nat → Nat} {l : Launch} {X : (Nat → Int → Int) → Prop} (hPX : rx_PXOK rxNW A PX) (hsl : ∀ s : State, PX s → ∀ o idx n : Nat, rxSl o idx = some n → ∃ tx : String, vk_R (rxNm o) idx tx (ad n) s)
    (hX : ∀ S S_p : Nat → Int → Int, X S → bx_same rxL (bx_mdl rxCI0T.2.2.1) S S_p → X S_p)
    (ih : ∀ (j2 : Nat) (ct2 : bx_Ct) (M2 : rx_Mt), ct2 ∈ rxCnE j2 → ct2.2.2.2.1 + 1 ≤ rxCI0T.2.2.2.1 → rxT.2.2.2.2.2 j2 = some M2 → bx_Con rxG rxNW rxAO PX Dg rxL X vwCl A ad l M2 ct2) (hQCZ138x1 : bx_ConP rxG rxNW rxAO PX Dg rxL X vwCl A ad l rxM154 rxCCZ138x1 rxPCZ138x1 rxPSCZ138x1) : bx_ConP rxG rxNW rxAO PX Dg rxL X vwCl A ad l rxM208 rxCI0T rxPI0T rxPSI0T :=
  rxQof (xa := xa) (Cn := rxCnE) (f := 30000) (j := 208) (tab := rxYI0T) (us := rxUI0T) hPX hsl hX ih rfl rxYcI0T rxII0T rxmI0T
    (fun S0 ws r I0 I ht0 ht as he he1 hX0 hI0 hP hs ha => by
      have e := he.symm.trans (show bx_ent0 rxNP rxCI0T.1 bx_I0 [] = some ([(0, 0), (0, 0), (0, 0), (0, 0), (0, 0), (0, 0), (0, 0), (0, 0), (0, 0)], [], [.inr (3, (0, 0)), .inr (0, (8, 0))]) from rfl)
      cases e
      subst ha
      have h0 : r 0 = 0 := hs.1
      show rxII0T_0 S0 _ S0 (r 8)
      refine ⟨rfl, ?_⟩
      simp only [List.map_cons, List.map_nil, bx_xv_ok h0]
      rfl)
    (fun S0 ws hP => rxuI0T (xa := xa) hPX hX hQCZ138x1 hP) (fun S0 ws hP => rxgCI0T hP) (fun S0 ws hP => rxgEI0T hP)
/-! CONTRACT BY HAND, by program (wip/sim/genhand.py): DeadUnderstudies.image -/
def rxCI1T : bx_Ct := ([(3, (1, 0, 0)), (0, (0, 1, 1))], some (0, (0, (-6), 0)), [(2, 0), (5, 0), (6, 0), (6, 4), (10, 0), (10, 5), (10, 10), (10, 14), (10, 15), (11, 8), (1000, 0), (1001, 0), (1003, 0), (1004, 0), (1005, 0), (1006, 0), (1007, 0), (1008, 0), (1010, 0), (1011, 0), (1012, 0), (1013, 0), (1015, 0), (1019, 0), (1020, 0), (1021, 0), (1022, 0), (1024, 0), (1025, 0), (1026, 0), (1027, 0), (1031, 0), (1037, 0)], 3, [])
def rxII1T_0 (S0 : Nat → Int → Int) (ws : List Int) (S : Nat → Int → Int) (ki : Int) : Prop := S = S0 ∧ ws = [0, ki]
def rxmI1T_0 (S0 : Nat → Int → Int) (ws : List Int) (S : Nat → Int → Int) (ki : Int) : Nat := 100
def rxzI1T_0 : rx_Z := ([(0, 0), (0, 0), (0, 0), (0, 0), (0, 0), (0, 0), (0, 0), (0, 0), (1, 1)], [], [], 0, 0, 0, [(0, .inr (3, (0, 0))), (1, .inr (0, (8, 0)))], [])
def rxII1T_1 (S0 : Nat → Int → Int) (ws : List Int) (S : Nat → Int → Int) (ki : Int) : Prop := S = S0
def rxmI1T_1 (S0 : Nat → Int → Int) (ws : List Int) (S : Nat → Int → Int) (ki : Int) : Nat := 50
def rxzI1T_1 : rx_Z := ([(0, 0), (0, 0), (0, 0), (0, 0), (0, 0), (0, 0), (0, 0), (0, 0), (1, 1)], [], [], 0, 0, 25, [(0, .inr (3, (0, 0))), (1, .inr (0, (8, 0)))], [.inr (3, (0, 1)), .inr (3, (0, 274))])
def rxII1T_2 (S0 : Nat → Int → Int) (ws : List Int) (S : Nat → Int → Int) (ki : Int) : Prop := rxPSCZ274x1 S0 [274, 1] S none ∧ ∀ n : Nat, n < 2 → S 410 (n : Int) = S0 410 (n : Int)
def rxmI1T_2 (S0 : Nat → Int → Int) (ws : List Int) (S : Nat → Int → Int) (ki : Int) : Nat := 20
def rxzI1T_2 : rx_Z := ([(0, 0), (0, 0), (0, 0), (0, 0), (0, 0), (0, 0), (0, 0), (0, 0), (1, 1)], [], [], 0, 0, 28, [(0, .inr (3, (0, 0))), (1, .inr (0, (8, 0)))], [])
def rxoI1T_0_0 : bx_HO := (([(0, 0), (0, 0), (0, 0), (0, 0), (0, 0), (0, 0), (0, 0), (0, 0), (1, 1)], [], [(((0, 0), 0), .inr (3, (0, 1))), (((0, 137), 1), .inr (3, (0, 274))), (((0, 0), 1), .inr (3, (0, 137)))], 0, 0, 25, [(0, .inr (3, (0, 0))), (1, .inr (0, (8, 0)))], [.inr (3, (0, 1)), .inr (3, (0, 274))]), [], [], [(0, 0), (0, 0), (0, 0), (0, 0), (0, 0), (0, 0), (0, 0), (0, 0), (8, 0)], 1)
def rxeI1T_2_0 : rx_End × List (Nat × Int × Int) := (([(0, 0), (0, 0), (0, 0), (0, 0), (0, 0), (0, 0), (0, 0), (0, 0), (1, 1)], [], [(((0, 0), 1851192626986356799029993984671224184301589730656725205983952899000000), .inr (0, (0, 0))), (((0, 0), 8), .inr (0, (0, 0))), (((0, 0), 1851192626986356797424364830707437625680387377997778265106415619000000), .inr (0, (0, 1))), (((0, 410), 1), .inr (0, (0, 1))), (((0, 0), 2), .inr (3, (0, 410)))], some (.inr (0, (0, 0)))), [])
def rxYI1T : List bx_HE := [(rxzI1T_0, [rxoI1T_0_0], []), (rxzI1T_1, [], []), (rxzI1T_2, [], [rxeI1T_2_0])]
def rxUI1T (q : bx_HE) : Bool := Nat.beq (rx_zpc q.1) 25
def rxYBI1T : bx_B := (rxV, rxNP, rxDmf, bx_mdH rxCI1T.2.2.1)
set_option maxRecDepth 100000 in
theorem rxYcI1T : bx_chkH rxYBI1T rxM208 rxCI1T rxYI1T (rxUI1T, fun cut z => rx_ex2 (rxCT rxYBI1T rxCnE) cut 30000 rxCI1T.2.2.2.1 208 z) = true := by decide +kernel
def rxII1T (S0 : Nat → Int → Int) (ws : List Int) (i : Nat) : bx_SP := fun S r => match i with | 0 => rxII1T_0 S0 ws S (r 8) | 1 => rxII1T_1 S0 ws S (r 8) | 2 => rxII1T_2 S0 ws S (r 8) | _ => False
def rxmI1T (S0 : Nat → Int → Int) (ws : List Int) (i : Nat) (S : Nat → Int → Int) (r : Nat → Int) : Nat := match i with | 0 => rxmI1T_0 S0 ws S (r 8) | 1 => rxmI1T_1 S0 ws S (r 8) | 2 => rxmI1T_2 S0 ws S (r 8) | _ => 0
def rxPI1T (S0 : Nat → Int → Int) (ws : List Int) : Prop := rkPl S0
def rxPSI1T (S0 : Nat → Int → Int) (ws : List Int) (S : Nat → Int → Int) (w : Option Int) : Prop := ∃ S1 : Nat → Int → Int, (rxPSCZ274x1 S0 [274, 1] S1 none ∧ ∀ n : Nat, n < 2 → S1 410 (n : Int) = S0 410 (n : Int)) ∧ S = bx_up (bx_up S1 410 1 1) 0 8 0 ∧ w = some 0
theorem rxkI1T_1 {S0 : Nat → Int → Int} {ws : List Int} {S : Nat → Int → Int} {ki : Int} (hP : rxPI1T S0 ws) (hin : bx_same rxL (bx_mdl rxCI1T.2.2.1) S0 S) (I0 : bx_Inv rxL S) (hinv : rxII1T_1 S0 ws S ki) (l8 : 1 ≤ ki) (u8 : ki ≤ 1) : rxPCZ274x1 S [274, 1] ∧ ∀ (S_p : Nat → Int → Int), rxPSCZ274x1 S [274, 1] S_p none → bx_Inv rxL S_p → bx_same rxL (bx_mdl rxCCZ274x1.2.2.1) S S_p → rxII1T_2 S0 ws S_p ki ∧ rxmI1T_2 S0 ws S_p ki < rxmI1T_1 S0 ws S ki := by
  have hinv : S = S0 := hinv
  subst hinv
  refine ⟨hP, fun S_p hq _ hsm => ⟨⟨hq, fun n hn => hsm 410 n (by decide) hn ?_⟩, by unfold rxmI1T_1 rxmI1T_2; omega⟩⟩
  have e : bx_mc (rxL.1 410) n = (1031, if n < 780 then 0 else 1) := rfl
  rw [e, if_pos (by omega)]
  decide +kernel
theorem rxsI1T_1 {X : (Nat → Int → Int) → Prop} {S0 : Nat → Int → Int} {ws : List Int} (hP : rxPI1T S0 ws) : rx_obK X S0 rxCI1T.2.2.1 rxCCZ274x1.2.2.1 (rxII1T S0 ws) (rxmI1T S0 ws) 1 2 rxzI1T_1 rxzI1T_2 [.inr (3, (0, 274)), .inr (3, (0, 1))] none rxPCZ274x1 rxPSCZ274x1 := by
  intro S r hinv hXS I0 hin hs_ hf_
  have b_ := bx_bds_sat hs_
  have f_ := bx_fcl_ok hs_.1 hf_
  obtain ⟨⟨l8, u8⟩, -⟩ := b_
  have g := rxkI1T_1 hP hin I0 hinv l8 u8
  have ea : List.map (bx_num r) [.inr (3, (0, 274)), .inr (3, (0, 1))] = [274, 1] := by
    simp only [List.map_cons, List.map_nil, bx_xv_ok hs_.1]
    rfl
  rw [ea]
  refine ⟨g.1, fun S_p w r_p hPS hX_p I1 hsm hr hw hs_p => ?_⟩
  have hw : w = none := hPS.1
  subst hw
  have g2 := g.2 S_p hPS I1 hsm
  show rxII1T_2 S0 ws S_p (r_p 8) ∧ rxmI1T_2 S0 ws S_p (r_p 8) < _
  rw [hr 8 (by decide)]
  exact g2
theorem rxcI1T_0_0 {S0 : Nat → Int → Int} {ws : List Int} {S : Nat → Int → Int} {ki : Int} (hP : rxPI1T S0 ws) (hin : bx_same rxL (bx_mdl rxCI1T.2.2.1) S0 S) (I0 : bx_Inv rxL S) (hinv : rxII1T_0 S0 ws S ki) (l8 : 1 ≤ ki) (u8 : ki ≤ 1) : (True) ∧ (True) ∧ rxII1T_1 S0 ws S ki ∧ rxmI1T_1 S0 ws S ki < rxmI1T_0 S0 ws S ki := by
  obtain ⟨rfl, hw⟩ := hinv
  exact ⟨trivial, trivial, rfl, by unfold rxmI1T_0 rxmI1T_1; omega⟩
theorem rxgI1T_0_0 {X : (Nat → Int → Int) → Prop} {S0 : Nat → Int → Int} {ws : List Int} (hP : rxPI1T S0 ws) : bx_obC rxL X S0 rxCI1T.2.2.1 (rxII1T S0 ws) (rxmI1T S0 ws) 0 rxzI1T_0 rxoI1T_0_0 := by
  intro S S_p r r_p hinv hX hin hsm_ hseg
  obtain ⟨I0, I1, h0_, hr_, b_, f_, d_⟩ := bx_cl (evs := []) (fvs := []) hseg (by decide +kernel) (by decide +kernel)
  have hinv : rxII1T_0 S0 ws S (r 8) := hinv
  rw [← hr_ 8 (by decide)] at hinv
  obtain ⟨⟨l8, u8⟩, -⟩ := b_
  have w_ := d_
  subst w_
  have g := rxcI1T_0_0 hP hin I0 hinv l8 u8
  refine ⟨bx_narP_ok (l := []) g.1, bx_nfP_ok h0_ (fvs := []) (by decide +kernel) g.2.1, ?_, ?_⟩
  · show rxII1T_1 S0 ws S_p (bx_val [(0, 0), (0, 0), (0, 0), (0, 0), (0, 0), (0, 0), (0, 0), (0, 0), (8, 0)] r_p 8)
    rw [bx_val_x (n := 8) (e := (8, 0)) h0_ rfl]
    exact g.2.2.1
  · show rxmI1T_1 S0 ws S_p (bx_val [(0, 0), (0, 0), (0, 0), (0, 0), (0, 0), (0, 0), (0, 0), (0, 0), (8, 0)] r_p 8) < rxmI1T_0 S0 ws S_p (r 8)
    rw [bx_val_x (n := 8) (e := (8, 0)) h0_ rfl, ← hr_ 8 (by decide)]
    exact g.2.2.2
theorem rxdI1T_2_0 {S0 : Nat → Int → Int} {ws : List Int} {S : Nat → Int → Int} {ki : Int} (hP : rxPI1T S0 ws) (hin : bx_same rxL (bx_mdl rxCI1T.2.2.1) S0 S) (hin2 : bx_same rxL (bx_mdl rxCI1T.2.2.1) S (bx_up (bx_up S 410 ki 1) 0 8 0)) (I0 : bx_Inv rxL S) (I1 : bx_Inv rxL (bx_up (bx_up S 410 ki 1) 0 8 0)) (hinv : rxII1T_2 S0 ws S ki) (l8 : 1 ≤ ki) (u8 : ki ≤ 1) : (True) ∧ rxPSI1T S0 ws (bx_up (bx_up S 410 ki 1) 0 8 0) (some 0) := by
  have e : ki = 1 := by omega
  subst e
  exact ⟨trivial, S, hinv, rfl, rfl⟩
theorem rxfI1T_2_0 {X : (Nat → Int → Int) → Prop} {S0 : Nat → Int → Int} {ws : List Int} (hP : rxPI1T S0 ws) : bx_obE rxL X S0 rxCI1T.2.2.1 (rxII1T S0 ws) (rxPSI1T S0 ws) 2 rxzI1T_2 rxeI1T_2_0 := by
  intro S S_p r r_p hinv hX hin hsm_ hseg
  obtain ⟨I0, I1, h0_, hr_, b_, f_, d_⟩ := bx_cl (evs := [(1, (0, 0), (0, 8), .inr (0, (0, 0))), (1, (0, 410), (8, 0), .inr (0, (0, 1)))]) (fvs := []) hseg (by decide +kernel) (by decide +kernel)
  have hinv : rxII1T_2 S0 ws S (r 8) := hinv
  rw [← hr_ 8 (by decide)] at hinv
  obtain ⟨⟨l8, u8⟩, -⟩ := b_
  obtain ⟨T0, ⟨T1, w_, w1⟩, w0⟩ := d_
  subst w0
  subst w1
  subst w_
  have g := rxdI1T_2_0 hP hin hsm_ I0 I1 hinv l8 u8
  refine ⟨bx_narP_ok (l := []) g.1, ?_⟩
  show rxPSI1T S0 ws (bx_up (bx_up T1 410 (r_p 8) (1)) 0 (8) (0)) (some (bx_num r_p (.inr (0, (0, 0)))))
  rw [bx_xv_ok h0_]
  exact g.2
theorem rxgCI1T {X : (Nat → Int → Int) → Prop} {S0 : Nat → Int → Int} {ws : List Int} (hP : rxPI1T S0 ws) : bx_allI (fun i q => rxUI1T q = true ∨ bx_allP (fun o => bx_obC rxL X S0 rxCI1T.2.2.1 (rxII1T S0 ws) (rxmI1T S0 ws) i q.1 o) q.2.1) 0 rxYI1T := ⟨Or.inr ⟨rxgI1T_0_0 hP, trivial⟩, Or.inl rfl, Or.inr trivial, trivial⟩
theorem rxgEI1T {X : (Nat → Int → Int) → Prop} {S0 : Nat → Int → Int} {ws : List Int} (hP : rxPI1T S0 ws) : bx_allI (fun i q => rxUI1T q = true ∨ bx_allP (fun E => bx_obE rxL X S0 rxCI1T.2.2.1 (rxII1T S0 ws) (rxPSI1T S0 ws) i q.1 E) q.2.2) 0 rxYI1T := ⟨Or.inr trivial, Or.inl rfl, Or.inr ⟨rxfI1T_2_0 hP, trivial⟩, trivial⟩
theorem rxuI1T {PX : State → Prop} {Dg : va_G} {A : Nat → Prop} {ad xa : Nat → Nat} {l : Launch} {X : (Nat → Int → Int) → Prop} (hPX : rx_PXOK rxNW A PX) (hX : ∀ S S1 : Nat → Int → Int, X S → bx_same rxL (bx_mdl rxCI1T.2.2.1) S S1 → X S1) (hQCZ274x1 : bx_ConP rxG rxNW rxAO PX Dg rxL X vwCl A ad l rxM154 rxCCZ274x1 rxPCZ274x1 rxPSCZ274x1) {S0 : Nat → Int → Int} {ws : List Int} (hP : rxPI1T S0 ws) : ∀ (i : Nat) (q : bx_HE), rxYI1T[i]? = some q → rxUI1T q = true → ∀ {p : Program} {e : Env} {R : Room} {s : State} {m : MethodId} {args : Array Value} {below : List Frame} {meth : Method} {c : Code} {Q : State → Prop} {H0 : Heap}, rx_Fr rxG rxNW rxAO PX p s m args meth c rxM208 → (∀ q, H0.size ≤ q → A q) → H0 = s.heap → rxM208.2.2.2.2.2.2.1 ≤ R.cells → rxM208.2.2.2.2.2.2.2 ≤ R.slots → rxCI1T.2.2.2.1 ≤ R.frames → rxCI1T.2.2.2.1 * 40 ≤ R.locals → bx_Step p l e R s m args below meth c Q Dg rxL X vwCl A xa H0 ad rxM208 rxYI1T (rxII1T S0 ws) (rxmI1T S0 ws) S0 rxCI1T.2.2.1 i q := by
  intro i q hq hus p e R s m args below meth c Q H0 hF hA hH0 hmc hms hd hdl
  match i, hq with
  | 0, hq =>
    cases hq
    exact absurd (show false = true from hus) Bool.false_ne_true
  | 1, hq =>
    cases hq
    exact rx_stepC (ins := .invokevirtual 431) (len := 3) (i_p := 2) (M_p := rxM154) (d := rxCI1T.2.2.2.1) (as := [.inr (3, (0, 274)), .inr (3, (0, 1))]) (t := []) (ct := rxCCZ274x1) hPX hF rfl hA hH0 hmc hms hd hdl (by decide +kernel) rfl rfl (by decide +kernel) (by decide +kernel) hQCZ274x1 (by decide +kernel) rfl (Or.inl ⟨rfl, rfl, rfl⟩) (rxsI1T_1 hP)
  | 2, hq =>
    cases hq
    exact absurd (show false = true from hus) Bool.false_ne_true
  | n + 3, hq => cases hq
theorem rxQI1T {PX : State → Prop} {Dg : va_G} {A : Nat → Prop} {ad xa : Nat → Nat} {l : Launch} {X : (Nat → Int → Int) → Prop} (hPX : rx_PXOK rxNW A PX) (hsl : ∀ s : State, PX s → ∀ o idx n : Nat, rxSl o idx = some n → ∃ tx : String, vk_R (rxNm o) idx tx (ad n) s)
    (hX : ∀ S S_p : Nat → Int → Int, X S → bx_same rxL (bx_mdl rxCI1T.2.2.1) S S_p → X S_p)
    (ih : ∀ (j2 : Nat) (ct2 : bx_Ct) (M2 : rx_Mt), ct2 ∈ rxCnE j2 → ct2.2.2.2.1 + 1 ≤ rxCI1T.2.2.2.1 → rxT.2.2.2.2.2 j2 = some M2 → bx_Con rxG rxNW rxAO PX Dg rxL X vwCl A ad l M2 ct2) (hQCZ274x1 : bx_ConP rxG rxNW rxAO PX Dg rxL X vwCl A ad l rxM154 rxCCZ274x1 rxPCZ274x1 rxPSCZ274x1) : bx_ConP rxG rxNW rxAO PX Dg rxL X vwCl A ad l rxM208 rxCI1T rxPI1T rxPSI1T :=
  rxQof (xa := xa) (Cn := rxCnE) (f := 30000) (j := 208) (tab := rxYI1T) (us := rxUI1T) hPX hsl hX ih rfl rxYcI1T rxII1T rxmI1T
    (fun S0 ws r I0 I ht0 ht as he he1 hX0 hI0 hP hs ha => by
      have e := he.symm.trans (show bx_ent0 rxNP rxCI1T.1 bx_I0 [] = some ([(0, 0), (0, 0), (0, 0), (0, 0), (0, 0), (0, 0), (0, 0), (0, 0), (1, 1)], [], [.inr (3, (0, 0)), .inr (0, (8, 0))]) from rfl)
      cases e
      subst ha
      have h0 : r 0 = 0 := hs.1
      show rxII1T_0 S0 _ S0 (r 8)
      refine ⟨rfl, ?_⟩
      simp only [List.map_cons, List.map_nil, bx_xv_ok h0]
      rfl)
    (fun S0 ws hP => rxuI1T (xa := xa) hPX hX hQCZ274x1 hP) (fun S0 ws hP => rxgCI1T hP) (fun S0 ws hP => rxgEI1T hP)
def rzPS208T (S0 : Nat → Int → Int) (ws : List Int) (S : Nat → Int → Int) (w : Option Int) : Prop := ∃ k : Int, ws = [0, k] ∧ ((k = 0 ∧ rxPSI0T S0 [0, 0] S w) ∨ (k = 1 ∧ rxPSI1T S0 [0, 1] S w) ∨ ((k < 0 ∨ 1 < k) ∧ rxPS208 S0 [0, k] S w))
set_option maxHeartbeats 2000000 in
theorem rzQ208T {PX : State → Prop} {Dg : va_G} {A : Nat → Prop} {ad : Nat → Nat} {l : Launch} (hPX : rx_PXOK rxNW A PX) (hsl : ∀ s : State, PX s → ∀ o idx n : Nat, rxSl o idx = some n → ∃ tx : String, vk_R (rxNm o) idx tx (ad n) s) (ih : ∀ (j : Nat) (ct : bx_Ct) (M : rx_Mt), ct ∈ rxCn j → rxT.2.2.2.2.2 j = some M → bx_Con rxG rxNW rxAO PX Dg rxL rxX vwCl A ad l M ct) : bx_ConP rxG rxNW rxAO PX Dg rxL rxX vwCl A ad l rxM208 rxC208 (fun S0 _ => rkPl S0) rzPS208T := by
  have q110 := rxQ110 (PX := PX) (Dg := Dg) (A := A) (ad := ad) (xa := fun n => n) (l := l) (X := rxX) hPX hsl (fun _ _ h hm => rxX_of (by decide +kernel) h hm) (fun _ _ _ h => absurd h List.not_mem_nil)
  have qsc := rxQSCZ (PX := PX) (Dg := Dg) (A := A) (ad := ad) (xa := fun n => n) (l := l) (X := rxX) hPX hsl (fun _ _ h hm => rxX_of (by decide +kernel) h hm) (fun _ _ _ h => absurd h List.not_mem_nil)
  have qqc := rxQQCZ (PX := PX) (Dg := Dg) (A := A) (ad := ad) (xa := fun n => n) (l := l) (X := rxX) hPX hsl (fun _ _ h hm => rxX_of (by decide +kernel) h hm) (fun _ _ _ h => absurd h List.not_mem_nil)
  have qp0 := rxQPC142x5 (PX := PX) (Dg := Dg) (A := A) (ad := ad) (xa := fun n => n) (l := l) (X := rxX) hPX hsl (fun _ _ h hm => rxX_of (by decide +kernel) h hm) (fun _ _ _ h => absurd h List.not_mem_nil)
  have qd0 := rxQDC151x14 (PX := PX) (Dg := Dg) (A := A) (ad := ad) (xa := fun n => n) (l := l) (X := rxX) hPX hsl (fun _ _ h hm => rxX_of (by decide +kernel) h hm) (fun _ _ _ h => absurd h List.not_mem_nil)
  have qc0 := rxQCZ138x1 (PX := PX) (Dg := Dg) (A := A) (ad := ad) (xa := fun n => n) (l := l) (X := rxX) hPX hsl (fun _ _ h hm => rxX_of (by decide +kernel) h hm) (fun _ _ _ h => absurd h List.not_mem_nil) qsc qp0 qd0 qqc
  have qi0 := rxQI0T (PX := PX) (Dg := Dg) (A := A) (ad := ad) (xa := fun n => n) (l := l) (X := rxX) hPX hsl (fun _ _ h hm => rxX_of (by decide +kernel) h hm) (fun _ _ _ h => absurd h List.not_mem_nil) qc0
  have qp1 := rxQPC278x5 (PX := PX) (Dg := Dg) (A := A) (ad := ad) (xa := fun n => n) (l := l) (X := rxX) hPX hsl (fun _ _ h hm => rxX_of (by decide +kernel) h hm) (fun _ _ _ h => absurd h List.not_mem_nil)
  have qd1 := rxQDC287x14 (PX := PX) (Dg := Dg) (A := A) (ad := ad) (xa := fun n => n) (l := l) (X := rxX) hPX hsl (fun _ _ h hm => rxX_of (by decide +kernel) h hm) (fun _ _ _ h => absurd h List.not_mem_nil)
  have qc1 := rxQCZ274x1 (PX := PX) (Dg := Dg) (A := A) (ad := ad) (xa := fun n => n) (l := l) (X := rxX) hPX hsl (fun _ _ h hm => rxX_of (by decide +kernel) h hm) (fun _ _ _ h => absurd h List.not_mem_nil) qsc qp1 qd1 qqc
  have qi1 := rxQI1T (PX := PX) (Dg := Dg) (A := A) (ad := ad) (xa := fun n => n) (l := l) (X := rxX) hPX hsl (fun _ _ h hm => rxX_of (by decide +kernel) h hm) (fun _ _ _ h => absurd h List.not_mem_nil) qc1
  have qg := rxQ208 (PX := PX) (Dg := Dg) (A := A) (ad := ad) (xa := fun n => n) (l := l) (X := rxX) hPX hsl (fun _ _ h hm => rxX_of (by decide +kernel) h hm) (fun j2 ct2 M2 hc hd hM => ih j2 ct2 M2 hc hM) q110
  intro S0 ws hX ha hpre hP Qc hQ
  obtain ⟨w0, wt, rfl, e0, k, wt2, rfl, hk, rfl⟩ := ha
  have e0 : w0 = 0 + 0 := e0
  have e1 : w0 = 0 := by omega
  subst e1
  rcases (show k = 0 ∨ k = 1 ∨ (k < 0 ∨ 1 < k) by omega) with rfl | rfl | h
  · refine qi0 S0 [0, 0] hX ⟨0, _, rfl, rfl, 0, _, rfl, (show (0 : Int) ≤ 0 ∧ (0 : Int) ≤ 0 from ⟨Int.le_refl _, Int.le_refl _⟩), rfl⟩ hpre hP Qc fun x st oc t h => hQ x st oc t ?_
    obtain ⟨⟨S_p, rv, g1, g2, g3, g4, g5, w, g6, g7⟩, g8⟩ := h
    exact ⟨⟨S_p, rv, g1, g2, g3, g4, g5, w, ⟨0, rfl, Or.inl ⟨rfl, g6⟩⟩, g7⟩, g8⟩
  · refine qi1 S0 [0, 1] hX ⟨0, _, rfl, rfl, 1, _, rfl, (show (1 : Int) ≤ 1 ∧ (1 : Int) ≤ 1 from ⟨Int.le_refl _, Int.le_refl _⟩), rfl⟩ hpre hP Qc fun x st oc t h => hQ x st oc t ?_
    obtain ⟨⟨S_p, rv, g1, g2, g3, g4, g5, w, g6, g7⟩, g8⟩ := h
    exact ⟨⟨S_p, rv, g1, g2, g3, g4, g5, w, ⟨1, rfl, Or.inr (Or.inl ⟨rfl, g6⟩)⟩, g7⟩, g8⟩
  · refine qg S0 [0, k] hX ⟨0, _, rfl, rfl, k, _, rfl, hk, rfl⟩ hpre ⟨k, rfl, h⟩ Qc fun x st oc t h2 => hQ x st oc t ?_
    obtain ⟨⟨S_p, rv, g1, g2, g3, g4, g5, w, g6, g7⟩, g8⟩ := h2
    exact ⟨⟨S_p, rv, g1, g2, g3, g4, g5, w, ⟨k, rfl, Or.inr (Or.inr ⟨h, g6⟩)⟩, g7⟩, g8⟩
