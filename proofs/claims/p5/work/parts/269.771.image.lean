section
/-! CONTRACT BY HAND, by program (wip/sim/genhand.py): DeadUnderstudies.image -/
def rxCI0T : bx_Ct := ([(3, (1, 0, 0)), (0, (0, 0, 0))], some (0, (0, (-6), 0)), [(2, 0), (5, 0), (6, 0), (6, 4), (10, 0), (10, 5), (10, 10), (10, 14), (10, 15), (11, 8), (1000, 0), (1001, 0), (1003, 0), (1004, 0), (1005, 0), (1006, 0), (1007, 0), (1008, 0), (1010, 0), (1011, 0), (1012, 0), (1013, 0), (1015, 0), (1019, 0), (1020, 0), (1021, 0), (1022, 0), (1024, 0), (1025, 0), (1026, 0), (1027, 0), (1031, 0), (1037, 0)], 3, [])
def rxII0T_0 (S0 : Nat → Int → Int) (ws : List Int) (S : Nat → Int → Int) (ki : Int) : Prop := S = S0 ∧ ws = [0, ki]
def rxmI0T_0 (S0 : Nat → Int → Int) (ws : List Int) (S : Nat → Int → Int) (ki : Int) : Nat := 100
def rxzI0T_0 : rx_Z := ([(0, 0), (0, 0), (0, 0), (0, 0), (0, 0), (0, 0), (0, 0), (0, 0), (0, 0)], [], [], 0, 0, 0, [(0, .inr (3, (0, 0))), (1, .inr (0, (8, 0)))], [])
def rxII0T_1 (S0 : Nat → Int → Int) (ws : List Int) (S : Nat → Int → Int) (ki : Int) : Prop := S = S0
def rxmI0T_1 (S0 : Nat → Int → Int) (ws : List Int) (S : Nat → Int → Int) (ki : Int) : Nat := 50
def rxzI0T_1 : rx_Z := ([(0, 0), (0, 0), (0, 0), (0, 0), (0, 0), (0, 0), (0, 0), (0, 0), (0, 0)], [], [], 0, 0, 25, [(0, .inr (3, (0, 0))), (1, .inr (0, (8, 0)))], [.inr (3, (0, 1)), .inr (3, (0, 138))])
def rxII0T_2 (S0 : Nat → Int → Int) (ws : List Int) (S : Nat → Int → Int) (ki : Int) : Prop := rxPSCZ138x1 S0 [138, 1] S none ∧ ∀ n : Nat, n < 2 → S 410 (n : Int) = S0 410 (n : Int)
def rxmI0T_2 (S0 : Nat → Int → Int) (ws : List Int) (S : Nat → Int → Int) (ki : Int) : Nat := 20
def rxzI0T_2 : rx_Z := ([(0, 0), (0, 0), (0, 0), (0, 0), (0, 0), (0, 0), (0, 0), (0, 0), (0, 0)], [], [], 0, 0, 28, [(0, .inr (3, (0, 0))), (1, .inr (0, (8, 0)))], [])
def rxoI0T_0_0 : bx_HO := (([(0, 0), (0, 0), (0, 0), (0, 0), (0, 0), (0, 0), (0, 0), (0, 0), (0, 0)], [], [(((0, 0), 0), .inr (3, (0, 1))), (((0, 137), 0), .inr (3, (0, 138))), (((0, 0), 1), .inr (3, (0, 137)))], 0, 0, 25, [(0, .inr (3, (0, 0))), (1, .inr (0, (8, 0)))], [.inr (3, (0, 1)), .inr (3, (0, 138))]), [], [], [(0, 0), (0, 0), (0, 0), (0, 0), (0, 0), (0, 0), (0, 0), (0, 0), (8, 0)], 1)
def rxeI0T_2_0 : rx_End × List (Nat × Int × Int) := (([(0, 0), (0, 0), (0, 0), (0, 0), (0, 0), (0, 0), (0, 0), (0, 0), (0, 0)], [], [(((0, 0), 1851192626986356799029993984671224184301589730656725205983952899000000), .inr (0, (0, 0))), (((0, 0), 8), .inr (0, (0, 0))), (((0, 0), 1851192626986356797424364830707437625680387377997778265106415619000000), .inr (0, (0, 1))), (((0, 410), 0), .inr (0, (0, 1))), (((0, 0), 2), .inr (3, (0, 410)))], some (.inr (0, (0, 0)))), [])
def rxYI0T : List bx_HE := [(rxzI0T_0, [rxoI0T_0_0], []), (rxzI0T_1, [], []), (rxzI0T_2, [], [rxeI0T_2_0])]
def rxUI0T (q : bx_HE) : Bool := Nat.beq (rx_zpc q.1) 25
def rxYBI0T : bx_B := (rxV, rxNP, rxDmf, bx_mdH rxCI0T.2.2.1)
set_option maxRecDepth 100000 in
theorem rxYcI0T : bx_chkH rxYBI0T rxM208 rxCI0T rxYI0T (rxUI0T, fun cut z => rx_ex2 (rxCT rxYBI0T rxCnE) cut 30000 rxCI0T.2.2.2.1 208 z) = true := by decide +kernel
def rxII0T (S0 : Nat → Int → Int) (ws : List Int) (i : Nat) : bx_SP := fun S r => match i with | 0 => rxII0T_0 S0 ws S (r 8) | 1 => rxII0T_1 S0 ws S (r 8) | 2 => rxII0T_2 S0 ws S (r 8) | _ => False
def rxmI0T (S0 : Nat → Int → Int) (ws : List Int) (i : Nat) (S : Nat → Int → Int) (r : Nat → Int) : Nat := match i with | 0 => rxmI0T_0 S0 ws S (r 8) | 1 => rxmI0T_1 S0 ws S (r 8) | 2 => rxmI0T_2 S0 ws S (r 8) | _ => 0
def rxPI0T (S0 : Nat → Int → Int) (ws : List Int) : Prop := rkPl S0
def rxPSI0T (S0 : Nat → Int → Int) (ws : List Int) (S : Nat → Int → Int) (w : Option Int) : Prop := ∃ S1 : Nat → Int → Int, (rxPSCZ138x1 S0 [138, 1] S1 none ∧ ∀ n : Nat, n < 2 → S1 410 (n : Int) = S0 410 (n : Int)) ∧ S = bx_up (bx_up S1 410 0 1) 0 8 0 ∧ w = some 0
theorem rxkI0T_1 {S0 : Nat → Int → Int} {ws : List Int} {S : Nat → Int → Int} {ki : Int} (hP : rxPI0T S0 ws) (hin : bx_same rxL (bx_mdl rxCI0T.2.2.1) S0 S) (I0 : bx_Inv rxL S) (hinv : rxII0T_1 S0 ws S ki) (l8 : 0 ≤ ki) (u8 : ki ≤ 0) : rxPCZ138x1 S [138, 1] ∧ ∀ (S_p : Nat → Int → Int), rxPSCZ138x1 S [138, 1] S_p none → bx_Inv rxL S_p → bx_same rxL (bx_mdl rxCCZ138x1.2.2.1) S S_p → rxII0T_2 S0 ws S_p ki ∧ rxmI0T_2 S0 ws S_p ki < rxmI0T_1 S0 ws S ki := by
  have hinv : S = S0 := hinv
  subst hinv
  refine ⟨hP, fun S_p hq _ hsm => ⟨⟨hq, fun n hn => hsm 410 n (by decide) hn ?_⟩, by unfold rxmI0T_1 rxmI0T_2; omega⟩⟩
  have e : bx_mc (rxL.1 410) n = (1031, if n < 780 then 0 else 1) := rfl
  rw [e, if_pos (by omega)]
  decide +kernel
theorem rxsI0T_1 {X : (Nat → Int → Int) → Prop} {S0 : Nat → Int → Int} {ws : List Int} (hP : rxPI0T S0 ws) : rx_obK X S0 rxCI0T.2.2.1 rxCCZ138x1.2.2.1 (rxII0T S0 ws) (rxmI0T S0 ws) 1 2 rxzI0T_1 rxzI0T_2 [.inr (3, (0, 138)), .inr (3, (0, 1))] none rxPCZ138x1 rxPSCZ138x1 := by
  intro S r hinv hXS I0 hin hs_ hf_
  have b_ := bx_bds_sat hs_
  have f_ := bx_fcl_ok hs_.1 hf_
  obtain ⟨⟨l8, u8⟩, -⟩ := b_
  have g := rxkI0T_1 hP hin I0 hinv l8 u8
  have ea : List.map (bx_num r) [.inr (3, (0, 138)), .inr (3, (0, 1))] = [138, 1] := by
    simp only [List.map_cons, List.map_nil, bx_xv_ok hs_.1]
    rfl
  rw [ea]
  refine ⟨g.1, fun S_p w r_p hPS hX_p I1 hsm hr hw hs_p => ?_⟩
  have hw : w = none := hPS.1
  subst hw
  have g2 := g.2 S_p hPS I1 hsm
  show rxII0T_2 S0 ws S_p (r_p 8) ∧ rxmI0T_2 S0 ws S_p (r_p 8) < _
  rw [hr 8 (by decide)]
  exact g2
theorem rxcI0T_0_0 {S0 : Nat → Int → Int} {ws : List Int} {S : Nat → Int → Int} {ki : Int} (hP : rxPI0T S0 ws) (hin : bx_same rxL (bx_mdl rxCI0T.2.2.1) S0 S) (I0 : bx_Inv rxL S) (hinv : rxII0T_0 S0 ws S ki) (l8 : 0 ≤ ki) (u8 : ki ≤ 0) : (True) ∧ (True) ∧ rxII0T_1 S0 ws S ki ∧ rxmI0T_1 S0 ws S ki < rxmI0T_0 S0 ws S ki := by
  obtain ⟨rfl, hw⟩ := hinv
  exact ⟨trivial, trivial, rfl, by unfold rxmI0T_0 rxmI0T_1; omega⟩
theorem rxgI0T_0_0 {X : (Nat → Int → Int) → Prop} {S0 : Nat → Int → Int} {ws : List Int} (hP : rxPI0T S0 ws) : bx_obC rxL X S0 rxCI0T.2.2.1 (rxII0T S0 ws) (rxmI0T S0 ws) 0 rxzI0T_0 rxoI0T_0_0 := by
  intro S S_p r r_p hinv hX hin hsm_ hseg
  obtain ⟨I0, I1, h0_, hr_, b_, f_, d_⟩ := bx_cl (evs := []) (fvs := []) hseg (by decide +kernel) (by decide +kernel)
  have hinv : rxII0T_0 S0 ws S (r 8) := hinv
  rw [← hr_ 8 (by decide)] at hinv
  obtain ⟨⟨l8, u8⟩, -⟩ := b_
  have w_ := d_
  subst w_
  have g := rxcI0T_0_0 hP hin I0 hinv l8 u8
  refine ⟨bx_narP_ok (l := []) g.1, bx_nfP_ok h0_ (fvs := []) (by decide +kernel) g.2.1, ?_, ?_⟩
  · show rxII0T_1 S0 ws S_p (bx_val [(0, 0), (0, 0), (0, 0), (0, 0), (0, 0), (0, 0), (0, 0), (0, 0), (8, 0)] r_p 8)
    rw [bx_val_x (n := 8) (e := (8, 0)) h0_ rfl]
    exact g.2.2.1
  · show rxmI0T_1 S0 ws S_p (bx_val [(0, 0), (0, 0), (0, 0), (0, 0), (0, 0), (0, 0), (0, 0), (0, 0), (8, 0)] r_p 8) < rxmI0T_0 S0 ws S_p (r 8)
    rw [bx_val_x (n := 8) (e := (8, 0)) h0_ rfl, ← hr_ 8 (by decide)]
    exact g.2.2.2
theorem rxdI0T_2_0 {S0 : Nat → Int → Int} {ws : List Int} {S : Nat → Int → Int} {ki : Int} (hP : rxPI0T S0 ws) (hin : bx_same rxL (bx_mdl rxCI0T.2.2.1) S0 S) (hin2 : bx_same rxL (bx_mdl rxCI0T.2.2.1) S (bx_up (bx_up S 410 ki 1) 0 8 0)) (I0 : bx_Inv rxL S) (I1 : bx_Inv rxL (bx_up (bx_up S 410 ki 1) 0 8 0)) (hinv : rxII0T_2 S0 ws S ki) (l8 : 0 ≤ ki) (u8 : ki ≤ 0) : (True) ∧ rxPSI0T S0 ws (bx_up (bx_up S 410 ki 1) 0 8 0) (some 0) := by
  have e : ki = 0 := by omega
  subst e
  exact ⟨trivial, S, hinv, rfl, rfl⟩
theorem rxfI0T_2_0 {X : (Nat → Int → Int) → Prop} {S0 : Nat → Int → Int} {ws : List Int} (hP : rxPI0T S0 ws) : bx_obE rxL X S0 rxCI0T.2.2.1 (rxII0T S0 ws) (rxPSI0T S0 ws) 2 rxzI0T_2 rxeI0T_2_0 := by
  intro S S_p r r_p hinv hX hin hsm_ hseg
  obtain ⟨I0, I1, h0_, hr_, b_, f_, d_⟩ := bx_cl (evs := [(1, (0, 0), (0, 8), .inr (0, (0, 0))), (1, (0, 410), (8, 0), .inr (0, (0, 1)))]) (fvs := []) hseg (by decide +kernel) (by decide +kernel)
  have hinv : rxII0T_2 S0 ws S (r 8) := hinv
  rw [← hr_ 8 (by decide)] at hinv
  obtain ⟨⟨l8, u8⟩, -⟩ := b_
  obtain ⟨T0, ⟨T1, w_, w1⟩, w0⟩ := d_
  subst w0
  subst w1
  subst w_
  have g := rxdI0T_2_0 hP hin hsm_ I0 I1 hinv l8 u8
  refine ⟨bx_narP_ok (l := []) g.1, ?_⟩
  show rxPSI0T S0 ws (bx_up (bx_up T1 410 (r_p 8) (1)) 0 (8) (0)) (some (bx_num r_p (.inr (0, (0, 0)))))
  rw [bx_xv_ok h0_]
  exact g.2
theorem rxgCI0T {X : (Nat → Int → Int) → Prop} {S0 : Nat → Int → Int} {ws : List Int} (hP : rxPI0T S0 ws) : bx_allI (fun i q => rxUI0T q = true ∨ bx_allP (fun o => bx_obC rxL X S0 rxCI0T.2.2.1 (rxII0T S0 ws) (rxmI0T S0 ws) i q.1 o) q.2.1) 0 rxYI0T := ⟨Or.inr ⟨rxgI0T_0_0 hP, trivial⟩, Or.inl rfl, Or.inr trivial, trivial⟩
theorem rxgEI0T {X : (Nat → Int → Int) → Prop} {S0 : Nat → Int → Int} {ws : List Int} (hP : rxPI0T S0 ws) : bx_allI (fun i q => rxUI0T q = true ∨ bx_allP (fun E => bx_obE rxL X S0 rxCI0T.2.2.1 (rxII0T S0 ws) (rxPSI0T S0 ws) i q.1 E) q.2.2) 0 rxYI0T := ⟨Or.inr trivial, Or.inl rfl, Or.inr ⟨rxfI0T_2_0 hP, trivial⟩, trivial⟩
theorem rxuI0T {PX : State → Prop} {Dg : va_G} {A : Nat → Prop} {ad xa : Nat → Nat} {l : Launch} {X : (Nat → Int → Int) → Prop} (hPX : rx_PXOK rxNW A PX) (hX : ∀ S S1 : Nat → Int → Int, X S → bx_same rxL (bx_mdl rxCI0T.2.2.1) S S1 → X S1) (hQCZ138x1 : bx_ConP rxG rxNW rxAO PX Dg rxL X vwCl A ad l rxM154 rxCCZ138x1 rxPCZ138x1 rxPSCZ138x1) {S0 : Nat → Int → Int} {ws : List Int} (hP : rxPI0T S0 ws) : ∀ (i : Nat) (q : bx_HE), rxYI0T[i]? = some q → rxUI0T q = true → ∀ {p : Program} {e : Env} {R : Room} {s : State} {m : MethodId} {args : Array Value} {below : List Frame} {meth : Method} {c : Code} {Q : State → Prop} {H0 : Heap}, rx_Fr rxG rxNW rxAO PX p s m args meth c rxM208 → (∀ q, H0.size ≤ q → A q) → H0 = s.heap → rxM208.2.2.2.2.2.2.1 ≤ R.cells → rxM208.2.2.2.2.2.2.2 ≤ R.slots → rxCI0T.2.2.2.1 ≤ R.frames → rxCI0T.2.2.2.1 * 40 ≤ R.locals → bx_Step p l e R s m args below meth c Q Dg rxL X vwCl A xa H0 ad rxM208 rxYI0T (rxII0T S0 ws) (rxmI0T S0 ws) S0 rxCI0T.2.2.1 i q := by
  intro i q hq hus p e R s m args below meth c Q H0 hF hA hH0 hmc hms hd hdl
  match i, hq with
  | 0, hq =>
    cases hq
    exact absurd (show false = true from hus) Bool.false_ne_true
  | 1, hq =>
    cases hq
    exact rx_stepC (ins := .invokevirtual 431) (len := 3) (i_p := 2) (M_p := rxM154) (d := rxCI0T.2.2.2.1) (as := [.inr (3, (0, 138)), .inr (3, (0, 1))]) (t := []) (ct := rxCCZ138x1) hPX hF rfl hA hH0 hmc hms hd hdl (by decide +kernel) rfl rfl (by decide +kernel) (by decide +kernel) hQCZ138x1 (by decide +kernel) rfl (Or.inl ⟨rfl, rfl, rfl⟩) (rxsI0T_1 hP)
  | 2, hq =>
    cases hq
    exact absurd (show false = true from hus) Bool.false_ne_true
  | n + 3, hq => cases hq
theorem rxQI0T {PX : State → Prop} {Dg : va_G} {A : Nat → Prop} {ad xa : Nat → Nat} {l : Launch} {X : (Nat → Int → Int) → Prop} (hPX : rx_PXOK rxNW A PX) (hsl : ∀ s : State, PX s → ∀ o idx n : Nat, rxSl o idx = some n → ∃ tx : String, vk_R (rxNm o) idx tx (ad n) s)
    (hX : ∀ S S_p : Nat → Int → Int, X S → bx_same rxL (bx_mdl rxCI0T.2.2.1) S S_p → X S_p)
    (ih : ∀ (j2 : Nat) (ct2 : bx_Ct) (M2 : rx_Mt), ct2 ∈ rxCnE j2 → ct2.2.2.2.1 + 1 ≤ rxCI0T.2.2.2.1 → rxT.2.2.2.2.2 j2 = some M2 → bx_Con rxG rxNW rxAO PX Dg rxL X vwCl A ad l M2 ct2) (hQCZ138x1 : bx_ConP rxG rxNW rxAO PX Dg rxL X vwCl A ad l rxM154 rxCCZ138x1 rxPCZ138x1 rxPSCZ138x1) : bx_ConP rxG rxNW rxAO PX Dg rxL X vwCl A ad l rxM208 rxCI0T rxPI0T rxPSI0T :=
  rxQof (xa := xa) (Cn := rxCnE) (f := 30000) (j := 208) (tab := rxYI0T) (us := rxUI0T) hPX hsl hX ih rfl rxYcI0T rxII0T rxmI0T
    (fun S0 ws r I0 I ht0 ht as he he1 hX0 hI0 hP hs ha => by
      have e := he.symm.trans (show bx_ent0 rxNP rxCI0T.1 bx_I0 [] = some ([(0, 0), (0, 0), (0, 0), (0, 0), (0, 0), (0, 0), (0, 0), (0, 0), (0, 0)], [], [.inr (3, (0, 0)), .inr (0, (8, 0))]) from rfl)
      cases e
      subst ha
      have h0 : r 0 = 0 := hs.1
      show rxII0T_0 S0 _ S0 (r 8)
      refine ⟨rfl, ?_⟩
      simp only [List.map_cons, List.map_nil, bx_xv_ok h0]
      rfl)
    (fun S0 ws hP => rxuI0T (xa := xa) hPX hX hQCZ138x1 hP) (fun S0 ws hP => rxgCI0T hP) (fun S0 ws hP => rxgEI0T hP)
/-! CONTRACT BY HAND, by program (wip/sim/genhand.py): DeadUnderstudies.image -/
def rxCI1T : bx_Ct := ([(3, (1, 0, 0)), (0, (0, 1, 1))], some (0, (0, (-6), 0)), [(2, 0), (5, 0), (6, 0), (6, 4), (10, 0), (10, 5), (10, 10), (10, 14), (10, 15), (11, 8), (1000, 0), (1001, 0), (1003, 0), (1004, 0), (1005, 0), (1006, 0), (1007, 0), (1008, 0), (1010, 0), (1011, 0), (1012, 0), (1013, 0), (1015, 0), (1019, 0), (1020, 0), (1021, 0), (1022, 0), (1024, 0), (1025, 0), (1026, 0), (1027, 0), (1031, 0), (1037, 0)], 3, [])
def rxII1T_0 (S0 : Nat → Int → Int) (ws : List Int) (S : Nat → Int → Int) (ki : Int) : Prop := S = S0 ∧ ws = [0, ki]
def rxmI1T_0 (S0 : Nat → Int → Int) (ws : List Int) (S : Nat → Int → Int) (ki : Int) : Nat := 100
def rxzI1T_0 : rx_Z := ([(0, 0), (0, 0), (0, 0), (0, 0), (0, 0), (0, 0), (0, 0), (0, 0), (1, 1)], [], [], 0, 0, 0, [(0, .inr (3, (0, 0))), (1, .inr (0, (8, 0)))], [])
def rxII1T_1 (S0 : Nat → Int → Int) (ws : List Int) (S : Nat → Int → Int) (ki : Int) : Prop := S = S0
def rxmI1T_1 (S0 : Nat → Int → Int) (ws : List Int) (S : Nat → Int → Int) (ki : Int) : Nat := 50
def rxzI1T_1 : rx_Z := ([(0, 0), (0, 0), (0, 0), (0, 0), (0, 0), (0, 0), (0, 0), (0, 0), (1, 1)], [], [], 0, 0, 25, [(0, .inr (3, (0, 0))), (1, .inr (0, (8, 0)))], [.inr (3, (0, 1)), .inr (3, (0, 274))])
def rxII1T_2 (S0 : Nat → Int → Int) (ws : List Int) (S : Nat → Int → Int) (ki : Int) : Prop := rxPSCZ274x1 S0 [274, 1] S none ∧ ∀ n : Nat, n < 2 → S 410 (n : Int) = S0 410 (n : Int)
def rxmI1T_2 (S0 : Nat → Int → Int) (ws : List Int) (S : Nat → Int → Int) (ki : Int) : Nat := 20
def rxzI1T_2 : rx_Z := ([(0, 0), (0, 0), (0, 0), (0, 0), (0, 0), (0, 0), (0, 0), (0, 0), (1, 1)], [], [], 0, 0, 28, [(0, .inr (3, (0, 0))), (1, .inr (0, (8, 0)))], [])
def rxoI1T_0_0 : bx_HO := (([(0, 0), (0, 0), (0, 0), (0, 0), (0, 0), (0, 0), (0, 0), (0, 0), (1, 1)], [], [(((0, 0), 0), .inr (3, (0, 1))), (((0, 137), 1), .inr (3, (0, 274))), (((0, 0), 1), .inr (3, (0, 137)))], 0, 0, 25, [(0, .inr (3, (0, 0))), (1, .inr (0, (8, 0)))], [.inr (3, (0, 1)), .inr (3, (0, 274))]), [], [], [(0, 0), (0, 0), (0, 0), (0, 0), (0, 0), (0, 0), (0, 0), (0, 0), (8, 0)], 1)
def rxeI1T_2_0 : rx_End × List (Nat × Int × Int) := (([(0, 0), (0, 0), (0, 0), (0, 0), (0, 0), (0, 0), (0, 0), (0, 0), (1, 1)], [], [(((0, 0), 1851192626986356799029993984671224184301589730656725205983952899000000), .inr (0, (0, 0))), (((0, 0), 8), .inr (0, (0, 0))), (((0, 0), 1851192626986356797424364830707437625680387377997778265106415619000000), .inr (0, (0, 1))), (((0, 410), 1), .inr (0, (0, 1))), (((0, 0), 2), .inr (3, (0, 410)))], some (.inr (0, (0, 0)))), [])
def rxYI1T : List bx_HE := [(rxzI1T_0, [rxoI1T_0_0], []), (rxzI1T_1, [], []), (rxzI1T_2, [], [rxeI1T_2_0])]
def rxUI1T (q : bx_HE) : Bool := Nat.beq (rx_zpc q.1) 25
def rxYBI1T : bx_B := (rxV, rxNP, rxDmf, bx_mdH rxCI1T.2.2.1)
set_option maxRecDepth 100000 in
theorem rxYcI1T : bx_chkH rxYBI1T rxM208 rxCI1T rxYI1T (rxUI1T, fun cut z => rx_ex2 (rxCT rxYBI1T rxCnE) cut 30000 rxCI1T.2.2.2.1 208 z) = true := by decide +kernel
def rxII1T (S0 : Nat → Int → Int) (ws : List Int) (i : Nat) : bx_SP := fun S r => match i with | 0 => rxII1T_0 S0 ws S (r 8) | 1 => rxII1T_1 S0 ws S (r 8) | 2 => rxII1T_2 S0 ws S (r 8) | _ => False
def rxmI1T (S0 : Nat → Int → Int) (ws : List Int) (i : Nat) (S : Nat → Int → Int) (r : Nat → Int) : Nat := match i with | 0 => rxmI1T_0 S0 ws S (r 8) | 1 => rxmI1T_1 S0 ws S (r 8) | 2 => rxmI1T_2 S0 ws S (r 8) | _ => 0
def rxPI1T (S0 : Nat → Int → Int) (ws : List Int) : Prop := rkPl S0
def rxPSI1T (S0 : Nat → Int → Int) (ws : List Int) (S : Nat → Int → Int) (w : Option Int) : Prop := ∃ S1 : Nat → Int → Int, (rxPSCZ274x1 S0 [274, 1] S1 none ∧ ∀ n : Nat, n < 2 → S1 410 (n : Int) = S0 410 (n : Int)) ∧ S = bx_up (bx_up S1 410 1 1) 0 8 0 ∧ w = some 0
theorem rxkI1T_1 {S0 : Nat → Int → Int} {ws : List Int} {S : Nat → Int → Int} {ki : Int} (hP : rxPI1T S0 ws) (hin : bx_same rxL (bx_mdl rxCI1T.2.2.1) S0 S) (I0 : bx_Inv rxL S) (hinv : rxII1T_1 S0 ws S ki) (l8 : 1 ≤ ki) (u8 : ki ≤ 1) : rxPCZ274x1 S [274, 1] ∧ ∀ (S_p : Nat → Int → Int), rxPSCZ274x1 S [274, 1] S_p none → bx_Inv rxL S_p → bx_same rxL (bx_mdl rxCCZ274x1.2.2.1) S S_p → rxII1T_2 S0 ws S_p ki ∧ rxmI1T_2 S0 ws S_p ki < rxmI1T_1 S0 ws S ki := by
  have hinv : S = S0 := hinv
  subst hinv
  refine ⟨hP, fun S_p hq _ hsm => ⟨⟨hq, fun n hn => hsm 410 n (by decide) hn ?_⟩, by unfold rxmI1T_1 rxmI1T_2; omega⟩⟩
  have e : bx_mc (rxL.1 410) n = (1031, if n < 780 then 0 else 1) := rfl
  rw [e, if_pos (by omega)]
  decide +kernel
theorem rxsI1T_1 {X : (Nat → Int → Int) → Prop} {S0 : Nat → Int → Int} {ws : List Int} (hP : rxPI1T S0 ws) : rx_obK X S0 rxCI1T.2.2.1 rxCCZ274x1.2.2.1 (rxII1T S0 ws) (rxmI1T S0 ws) 1 2 rxzI1T_1 rxzI1T_2 [.inr (3, (0, 274)), .inr (3, (0, 1))] none rxPCZ274x1 rxPSCZ274x1 := by
  intro S r hinv hXS I0 hin hs_ hf_
  have b_ := bx_bds_sat hs_
  have f_ := bx_fcl_ok hs_.1 hf_
  obtain ⟨⟨l8, u8⟩, -⟩ := b_
  have g := rxkI1T_1 hP hin I0 hinv l8 u8
  have ea : List.map (bx_num r) [.inr (3, (0, 274)), .inr (3, (0, 1))] = [274, 1] := by
    simp only [List.map_cons, List.map_nil, bx_xv_ok hs_.1]
    rfl
  rw [ea]
  refine ⟨g.1, fun S_p w r_p hPS hX_p I1 hsm hr hw hs_p => ?_⟩
  have hw : w = none := hPS.1
  subst hw
  have g2 := g.2 S_p hPS I1 hsm
  show rxII1T_2 S0 ws S_p (r_p 8) ∧ rxmI1T_2 S0 ws S_p (r_p 8) < _
  rw [hr 8 (by decide)]
  exact g2
theorem rxcI1T_0_0 {S0 : Nat → Int → Int} {ws : List Int} {S : Nat → Int → Int} {ki : Int} (hP : rxPI1T S0 ws) (hin : bx_same rxL (bx_mdl rxCI1T.2.2.1) S0 S) (I0 : bx_Inv rxL S) (hinv : rxII1T_0 S0 ws S ki) (l8 : 1 ≤ ki) (u8 : ki ≤ 1) : (True) ∧ (True) ∧ rxII1T_1 S0 ws S ki ∧ rxmI1T_1 S0 ws S ki < rxmI1T_0 S0 ws S ki := by
  obtain ⟨rfl, hw⟩ := hinv
  exact ⟨trivial, trivial, rfl, by unfold rxmI1T_0 rxmI1T_1; omega⟩
theorem rxgI1T_0_0 {X : (Nat → Int → Int) → Prop} {S0 : Nat → Int → Int} {ws : List Int} (hP : rxPI1T S0 ws) : bx_obC rxL X S0 rxCI1T.2.2.1 (rxII1T S0 ws) (rxmI1T S0 ws) 0 rxzI1T_0 rxoI1T_0_0 := by
  intro S S_p r r_p hinv hX hin hsm_ hseg
  obtain ⟨I0, I1, h0_, hr_, b_, f_, d_⟩ := bx_cl (evs := []) (fvs := []) hseg (by decide +kernel) (by decide +kernel)
  have hinv : rxII1T_0 S0 ws S (r 8) := hinv
  rw [← hr_ 8 (by decide)] at hinv
  obtain ⟨⟨l8, u8⟩, -⟩ := b_
  have w_ := d_
  subst w_
  have g := rxcI1T_0_0 hP hin I0 hinv l8 u8
  refine ⟨bx_narP_ok (l := []) g.1, bx_nfP_ok h0_ (fvs := []) (by decide +kernel) g.2.1, ?_, ?_⟩
  · show rxII1T_1 S0 ws S_p (bx_val [(0, 0), (0, 0), (0, 0), (0, 0), (0, 0), (0, 0), (0, 0), (0, 0), (8, 0)] r_p 8)
    rw [bx_val_x (n := 8) (e := (8, 0)) h0_ rfl]
    exact g.2.2.1
  · show rxmI1T_1 S0 ws S_p (bx_val [(0, 0), (0, 0), (0, 0), (0, 0), (0, 0), (0, 0), (0, 0), (0, 0), (8, 0)] r_p 8) < rxmI1T_0 S0 ws S_p (r 8)
    rw [bx_val_x (n := 8) (e := (8, 0)) h0_ rfl, ← hr_ 8 (by decide)]
    exact g.2.2.2
theorem rxdI1T_2_0 {S0 : Nat → Int → Int} {ws : List Int} {S : Nat → Int → Int} {ki : Int} (hP : rxPI1T S0 ws) (hin : bx_same rxL (bx_mdl rxCI1T.2.2.1) S0 S) (hin2 : bx_same rxL (bx_mdl rxCI1T.2.2.1) S (bx_up (bx_up S 410 ki 1) 0 8 0)) (I0 : bx_Inv rxL S) (I1 : bx_Inv rxL (bx_up (bx_up S 410 ki 1) 0 8 0)) (hinv : rxII1T_2 S0 ws S ki) (l8 : 1 ≤ ki) (u8 : ki ≤ 1) : (True) ∧ rxPSI1T S0 ws (bx_up (bx_up S 410 ki 1) 0 8 0) (some 0) := by
  have e : ki = 1 := by omega
  subst e
  exact ⟨trivial, S, hinv, rfl, rfl⟩
theorem rxfI1T_2_0 {X : (Nat → Int → Int) → Prop} {S0 : Nat → Int → Int} {ws : List Int} (hP : rxPI1T S0 ws) : bx_obE rxL X S0 rxCI1T.2.2.1 (rxII1T S0 ws) (rxPSI1T S0 ws) 2 rxzI1T_2 rxeI1T_2_0 := by
  intro S S_p r r_p hinv hX hin hsm_ hseg
  obtain ⟨I0, I1, h0_, hr_, b_, f_, d_⟩ := bx_cl (evs := [(1, (0, 0), (0, 8), .inr (0, (0, 0))), (1, (0, 410), (8, 0), .inr (0, (0, 1)))]) (fvs := []) hseg (by decide +kernel) (by decide +kernel)
  have hinv : rxII1T_2 S0 ws S (r 8) := hinv
  rw [← hr_ 8 (by decide)] at hinv
  obtain ⟨⟨l8, u8⟩, -⟩ := b_
  obtain ⟨T0, ⟨T1, w_, w1⟩, w0⟩ := d_
  subst w0
  subst w1
  subst w_
  have g := rxdI1T_2_0 hP hin hsm_ I0 I1 hinv l8 u8
  refine ⟨bx_narP_ok (l := []) g.1, ?_⟩
  show rxPSI1T S0 ws (bx_up (bx_up T1 410 (r_p 8) (1)) 0 (8) (0)) (some (bx_num r_p (.inr (0, (0, 0)))))
  rw [bx_xv_ok h0_]
  exact g.2
theorem rxgCI1T {X : (Nat → Int → Int) → Prop} {S0 : Nat → Int → Int} {ws : List Int} (hP : rxPI1T S0 ws) : bx_allI (fun i q => rxUI1T q = true ∨ bx_allP (fun o => bx_obC rxL X S0 rxCI1T.2.2.1 (rxII1T S0 ws) (rxmI1T S0 ws) i q.1 o) q.2.1) 0 rxYI1T := ⟨Or.inr ⟨rxgI1T_0_0 hP, trivial⟩, Or.inl rfl, Or.inr trivial, trivial⟩
theorem rxgEI1T {X : (Nat → Int → Int) → Prop} {S0 : Nat → Int → Int} {ws : List Int} (hP : rxPI1T S0 ws) : bx_allI (fun i q => rxUI1T q = true ∨ bx_allP (fun E => bx_obE rxL X S0 rxCI1T.2.2.1 (rxII1T S0 ws) (rxPSI1T S0 ws) i q.1 E) q.2.2) 0 rxYI1T := ⟨Or.inr trivial, Or.inl rfl, Or.inr ⟨rxfI1T_2_0 hP, trivial⟩, trivial⟩
theorem rxuI1T {PX : State → Prop} {Dg : va_G} {A : Nat → Prop} {ad xa : Nat → Nat} {l : Launch} {X : (Nat → Int → Int) → Prop} (hPX : rx_PXOK rxNW A PX) (hX : ∀ S S1 : Nat → Int → Int, X S → bx_same rxL (bx_mdl rxCI1T.2.2.1) S S1 → X S1) (hQCZ274x1 : bx_ConP rxG rxNW rxAO PX Dg rxL X vwCl A ad l rxM154 rxCCZ274x1 rxPCZ274x1 rxPSCZ274x1) {S0 : Nat → Int → Int} {ws : List Int} (hP : rxPI1T S0 ws) : ∀ (i : Nat) (q : bx_HE), rxYI1T[i]? = some q → rxUI1T q = true → ∀ {p : Program} {e : Env} {R : Room} {s : State} {m : MethodId} {args : Array Value} {below : List Frame} {meth : Method} {c : Code} {Q : State → Prop} {H0 : Heap}, rx_Fr rxG rxNW rxAO PX p s m args meth c rxM208 → (∀ q, H0.size ≤ q → A q) → H0 = s.heap → rxM208.2.2.2.2.2.2.1 ≤ R.cells → rxM208.2.2.2.2.2.2.2 ≤ R.slots → rxCI1T.2.2.2.1 ≤ R.frames → rxCI1T.2.2.2.1 * 40 ≤ R.locals → bx_Step p l e R s m args below meth c Q Dg rxL X vwCl A xa H0 ad rxM208 rxYI1T (rxII1T S0 ws) (rxmI1T S0 ws) S0 rxCI1T.2.2.1 i q := by
  intro i q hq hus p e R s m args below meth c Q H0 hF hA hH0 hmc hms hd hdl
  match i, hq with
  | 0, hq =>
    cases hq
    exact absurd (show false = true from hus) Bool.false_ne_true
  | 1, hq =>
    cases hq
    exact rx_stepC (ins := .invokevirtual 431) (len := 3) (i_p := 2) (M_p := rxM154) (d := rxCI1T.2.2.2.1) (as := [.inr (3, (0, 274)), .inr (3, (0, 1))]) (t := []) (ct := rxCCZ274x1) hPX hF rfl hA hH0 hmc hms hd hdl (by decide +kernel) rfl rfl (by decide +kernel) (by decide +kernel) hQCZ274x1 (by decide +kernel) rfl (Or.inl ⟨rfl, rfl, rfl⟩) (rxsI1T_1 hP)
  | 2, hq =>
    cases hq
    exact absurd (show false = true from hus) Bool.false_ne_true
  | n + 3, hq => cases hq
theorem rxQI1T {PX : State → Prop} {Dg : va_G} {A : Nat → Prop} {ad xa : Nat → Nat} {l : Launch} {X : (Nat → Int → Int) → Prop} (hPX : rx_PXOK rxNW A PX) (hsl : ∀ s : State, PX s → ∀ o idx n : Nat, rxSl o idx = some n → ∃ tx : String, vk_R (rxNm o) idx tx (ad n) s)
    (hX : ∀ S S_p : Nat → Int → Int, X S → bx_same rxL (bx_mdl rxCI1T.2.2.1) S S_p → X S_p)
    (ih : ∀ (j2 : Nat) (ct2 : bx_Ct) (M2 : rx_Mt), ct2 ∈ rxCnE j2 → ct2.2.2.2.1 + 1 ≤ rxCI1T.2.2.2.1 → rxT.2.2.2.2.2 j2 = some M2 → bx_Con rxG rxNW rxAO PX Dg rxL X vwCl A ad l M2 ct2) (hQCZ274x1 : bx_ConP rxG rxNW rxAO PX Dg rxL X vwCl A ad l rxM154 rxCCZ274x1 rxPCZ274x1 rxPSCZ274x1) : bx_ConP rxG rxNW rxAO PX Dg rxL X vwCl A ad l rxM208 rxCI1T rxPI1T rxPSI1T :=
  rxQof (xa := xa) (Cn := rxCnE) (f := 30000) (j := 208) (tab := rxYI1T) (us := rxUI1T) hPX hsl hX ih rfl rxYcI1T rxII1T rxmI1T
    (fun S0 ws r I0 I ht0 ht as he he1 hX0 hI0 hP hs ha => by
      have e := he.symm.trans (show bx_ent0 rxNP rxCI1T.1 bx_I0 [] = some ([(0, 0), (0, 0), (0, 0), (0, 0), (0, 0), (0, 0), (0, 0), (0, 0), (1, 1)], [], [.inr (3, (0, 0)), .inr (0, (8, 0))]) from rfl)
      cases e
      subst ha
      have h0 : r 0 = 0 := hs.1
      show rxII1T_0 S0 _ S0 (r 8)
      refine ⟨rfl, ?_⟩
      simp only [List.map_cons, List.map_nil, bx_xv_ok h0]
      rfl)
    (fun S0 ws hP => rxuI1T (xa := xa) hPX hX hQCZ274x1 hP) (fun S0 ws hP => rxgCI1T hP) (fun S0 ws hP => rxgEI1T hP)
def rzPS208T (S0 : Nat → Int → Int) (ws : List Int) (S : Nat → Int → Int) (w : Option Int) : Prop := ∃ k : Int, ws = [0, k] ∧ ((k = 0 ∧ rxPSI0T S0 [0, 0] S w) ∨ (k = 1 ∧ rxPSI1T S0 [0, 1] S w) ∨ ((k < 0 ∨ 1 < k) ∧ rxPS208 S0 [0, k] S w))
set_option maxHeartbeats 2000000 in
theorem rzQ208T {PX : State → Prop} {Dg : va_G} {A : Nat → Prop} {ad : Nat → Nat} {l : Launch} (hPX : rx_PXOK rxNW A PX) (hsl : ∀ s : State, PX s → ∀ o idx n : Nat, rxSl o idx = some n → ∃ tx : String, vk_R (rxNm o) idx tx (ad n) s) (ih : ∀ (j : Nat) (ct : bx_Ct) (M : rx_Mt), ct ∈ rxCn j → rxT.2.2.2.2.2 j = some M → bx_Con rxG rxNW rxAO PX Dg rxL rxX vwCl A ad l M ct) : bx_ConP rxG rxNW rxAO PX Dg rxL rxX vwCl A ad l rxM208 rxC208 (fun S0 _ => rkPl S0) rzPS208T := by
  have q110 := rxQ110 (PX := PX) (Dg := Dg) (A := A) (ad := ad) (xa := fun n => n) (l := l) (X := rxX) hPX hsl (fun _ _ h hm => rxX_of (by decide +kernel) h hm) (fun _ _ _ h => absurd h List.not_mem_nil)
  have qsc := rxQSCZ (PX := PX) (Dg := Dg) (A := A) (ad := ad) (xa := fun n => n) (l := l) (X := rxX) hPX hsl (fun _ _ h hm => rxX_of (by decide +kernel) h hm) (fun _ _ _ h => absurd h List.not_mem_nil)
  have qqc := rxQQCZ (PX := PX) (Dg := Dg) (A := A) (ad := ad) (xa := fun n => n) (l := l) (X := rxX) hPX hsl (fun _ _ h hm => rxX_of (by decide +kernel) h hm) (fun _ _ _ h => absurd h List.not_mem_nil)
  have qp0 := rxQPC142x5 (PX := PX) (Dg := Dg) (A := A) (ad := ad) (xa := fun n => n) (l := l) (X := rxX) hPX hsl (fun _ _ h hm => rxX_of (by decide +kernel) h hm) (fun _ _ _ h => absurd h List.not_mem_nil)
  have qd0 := rxQDC151x14 (PX := PX) (Dg := Dg) (A := A) (ad := ad) (xa := fun n => n) (l := l) (X := rxX) hPX hsl (fun _ _ h hm => rxX_of (by decide +kernel) h hm) (fun _ _ _ h => absurd h List.not_mem_nil)
  have qc0 := rxQCZ138x1 (PX := PX) (Dg := Dg) (A := A) (ad := ad) (xa := fun n => n) (l := l) (X := rxX) hPX hsl (fun _ _ h hm => rxX_of (by decide +kernel) h hm) (fun _ _ _ h => absurd h List.not_mem_nil) qsc qp0 qd0 qqc
  have qi0 := rxQI0T (PX := PX) (Dg := Dg) (A := A) (ad := ad) (xa := fun n => n) (l := l) (X := rxX) hPX hsl (fun _ _ h hm => rxX_of (by decide +kernel) h hm) (fun _ _ _ h => absurd h List.not_mem_nil) qc0
  have qp1 := rxQPC278x5 (PX := PX) (Dg := Dg) (A := A) (ad := ad) (xa := fun n => n) (l := l) (X := rxX) hPX hsl (fun _ _ h hm => rxX_of (by decide +kernel) h hm) (fun _ _ _ h => absurd h List.not_mem_nil)
  have qd1 := rxQDC287x14 (PX := PX) (Dg := Dg) (A := A) (ad := ad) (xa := fun n => n) (l := l) (X := rxX) hPX hsl (fun _ _ h hm => rxX_of (by decide +kernel) h hm) (fun _ _ _ h => absurd h List.not_mem_nil)
  have qc1 := rxQCZ274x1 (PX := PX) (Dg := Dg) (A := A) (ad := ad) (xa := fun n => n) (l := l) (X := rxX) hPX hsl (fun _ _ h hm => rxX_of (by decide +kernel) h hm) (fun _ _ _ h => absurd h List.not_mem_nil) qsc qp1 qd1 qqc
  have qi1 := rxQI1T (PX := PX) (Dg := Dg) (A := A) (ad := ad) (xa := fun n => n) (l := l) (X := rxX) hPX hsl (fun _ _ h hm => rxX_of (by decide +kernel) h hm) (fun _ _ _ h => absurd h List.not_mem_nil) qc1
  have qg := rxQ208 (PX := PX) (Dg := Dg) (A := A) (ad := ad) (xa := fun n => n) (l := l) (X := rxX) hPX hsl (fun _ _ h hm => rxX_of (by decide +kernel) h hm) (fun j2 ct2 M2 hc hd hM => ih j2 ct2 M2 hc hM) q110
  intro S0 ws hX ha hpre hP Qc hQ
  obtain ⟨w0, wt, rfl, e0, k, wt2, rfl, hk, rfl⟩ := ha
  have e0 : w0 = 0 + 0 := e0
  have e1 : w0 = 0 := by omega
  subst e1
  rcases (show k = 0 ∨ k = 1 ∨ (k < 0 ∨ 1 < k) by omega) with rfl | rfl | h
  · refine qi0 S0 [0, 0] hX ⟨0, _, rfl, rfl, 0, _, rfl, (show (0 : Int) ≤ 0 ∧ (0 : Int) ≤ 0 from ⟨Int.le_refl _, Int.le_refl _⟩), rfl⟩ hpre hP Qc fun x st oc t h => hQ x st oc t ?_
    obtain ⟨⟨S_p, rv, g1, g2, g3, g4, g5, w, g6, g7⟩, g8⟩ := h
    exact ⟨⟨S_p, rv, g1, g2, g3, g4, g5, w, ⟨0, rfl, Or.inl ⟨rfl, g6⟩⟩, g7⟩, g8⟩
  · refine qi1 S0 [0, 1] hX ⟨0, _, rfl, rfl, 1, _, rfl, (show (1 : Int) ≤ 1 ∧ (1 : Int) ≤ 1 from ⟨Int.le_refl _, Int.le_refl _⟩), rfl⟩ hpre hP Qc fun x st oc t h => hQ x st oc t ?_
    obtain ⟨⟨S_p, rv, g1, g2, g3, g4, g5, w, g6, g7⟩, g8⟩ := h
    exact ⟨⟨S_p, rv, g1, g2, g3, g4, g5, w, ⟨1, rfl, Or.inr (Or.inl ⟨rfl, g6⟩)⟩, g7⟩, g8⟩
  · refine qg S0 [0, k] hX ⟨0, _, rfl, rfl, k, _, rfl, hk, rfl⟩ hpre ⟨k, rfl, h⟩ Qc fun x st oc t h2 => hQ x st oc t ?_
    obtain ⟨⟨S_p, rv, g1, g2, g3, g4, g5, w, g6, g7⟩, g8⟩ := h2
    exact ⟨⟨S_p, rv, g1, g2, g3, g4, g5, w, ⟨k, rfl, Or.inr (Or.inr ⟨h, g6⟩)⟩, g7⟩, g8⟩
end
section
/-! CONTRACT BY HAND, by program (wip/sim/genhand.py): DeadUnderstudies.back -/
def rxCB0T : bx_Ct := ([(3, (1, 0, 0)), (0, (0, 0, 0))], some (0, (0, (-6), 0)), [(2, 0), (5, 0), (6, 0), (6, 4), (10, 0), (10, 5), (10, 10), (10, 14), (10, 15), (11, 8), (1000, 0), (1001, 0), (1003, 0), (1004, 0), (1005, 0), (1006, 0), (1007, 0), (1008, 0), (1010, 0), (1011, 0), (1012, 0), (1013, 0), (1015, 0), (1019, 0), (1020, 0), (1021, 0), (1022, 0), (1024, 0), (1025, 0), (1026, 0), (1027, 0), (1037, 0)], 3, [])
def rxIB0T_0 (S0 : Nat → Int → Int) (ws : List Int) (S : Nat → Int → Int) (ki : Int) : Prop := S = S0 ∧ ws = [0, ki]
def rxmB0T_0 (S0 : Nat → Int → Int) (ws : List Int) (S : Nat → Int → Int) (ki : Int) : Nat := 100
def rxzB0T_0 : rx_Z := ([(0, 0), (0, 0), (0, 0), (0, 0), (0, 0), (0, 0), (0, 0), (0, 0), (0, 0)], [], [], 0, 0, 0, [(0, .inr (3, (0, 0))), (1, .inr (0, (8, 0)))], [])
def rxIB0T_1 (S0 : Nat → Int → Int) (ws : List Int) (S : Nat → Int → Int) (ki : Int) : Prop := S = S0 ∧ S0 410 0 = 0
def rxmB0T_1 (S0 : Nat → Int → Int) (ws : List Int) (S : Nat → Int → Int) (ki : Int) : Nat := 50
def rxzB0T_1 : rx_Z := ([(0, 0), (0, 0), (0, 0), (0, 0), (0, 0), (0, 0), (0, 0), (0, 0), (0, 0)], [], [], 0, 0, 27, [(0, .inr (3, (0, 0))), (1, .inr (0, (8, 0)))], [.inr (0, (0, (-2))), .inr (3, (0, 0))])
def rxIB0T_2 (S0 : Nat → Int → Int) (ws : List Int) (S : Nat → Int → Int) (ki res : Int) : Prop := res = -2 ∧ S0 410 0 = 0 ∧ bx_same rxL (bx_mdl rxC110.2.2.1) S0 S
def rxmB0T_2 (S0 : Nat → Int → Int) (ws : List Int) (S : Nat → Int → Int) (ki res : Int) : Nat := 20
def rxzB0T_2 : rx_Z := ([(0, 0), (0, 0), (0, 0), (0, 0), (0, 0), (0, 0), (0, 0), (0, 0), (0, 0), ((-6), (-1))], [], [], 0, 0, 30, [(0, .inr (3, (0, 0))), (1, .inr (0, (8, 0)))], [.inr (0, (9, 0))])
def rxIB0T_3 (S0 : Nat → Int → Int) (ws : List Int) (S : Nat → Int → Int) (ki : Int) : Prop := S = S0 ∧ S0 410 0 ≠ 0
def rxmB0T_3 (S0 : Nat → Int → Int) (ws : List Int) (S : Nat → Int → Int) (ki : Int) : Nat := 50
def rxzB0T_3 : rx_Z := ([(0, 0), (0, 0), (0, 0), (0, 0), (0, 0), (0, 0), (0, 0), (0, 0), (0, 0)], [], [], 0, 0, 41, [(0, .inr (3, (0, 0))), (1, .inr (0, (8, 0)))], [.inr (3, (0, 138)), .inr (3, (0, 1))])
def rxIB0T_4 (S0 : Nat → Int → Int) (ws : List Int) (S : Nat → Int → Int) (ki : Int) : Prop := rxPSCZ1x138 S0 [1, 138] S none ∧ S0 410 0 ≠ 0
def rxmB0T_4 (S0 : Nat → Int → Int) (ws : List Int) (S : Nat → Int → Int) (ki : Int) : Nat := 20
def rxzB0T_4 : rx_Z := ([(0, 0), (0, 0), (0, 0), (0, 0), (0, 0), (0, 0), (0, 0), (0, 0), (0, 0)], [], [], 0, 0, 44, [(0, .inr (3, (0, 0))), (1, .inr (0, (8, 0)))], [])
def rxoB0T_0_0 : bx_HO := (([(0, 0), (0, 0), (0, 0), (0, 0), (0, 0), (0, 0), (0, 0), (0, 0), (0, 0), (0, 0)], [], [(((0, 0), 1851192626986356797424364830707437625680387377997778265106415616000000), .inr (0, (9, 0))), (((0, 410), 0), .inr (0, (9, 0))), (((0, 0), 2), .inr (3, (0, 410)))], 0, 0, 27, [(0, .inr (3, (0, 0))), (1, .inr (0, (8, 0)))], [.inr (0, (0, (-2))), .inr (3, (0, 0))]), [], [], [(0, 0), (0, 0), (0, 0), (0, 0), (0, 0), (0, 0), (0, 0), (0, 0), (8, 0)], 1)
def rxoB0T_0_1 : bx_HO := (([(0, 0), (0, 0), (0, 0), (0, 0), (0, 0), (0, 0), (0, 0), (0, 0), (0, 0), (1, 1)], [(3, (9, 0), (0, 0))], [(((0, 137), 0), .inr (3, (0, 138))), (((0, 0), 1), .inr (3, (0, 137))), (((0, 0), 0), .inr (3, (0, 1))), (((0, 0), 1851192626986356797424364830707437625680387377997778265106415616000000), .inr (0, (9, 0))), (((0, 410), 0), .inr (0, (9, 0))), (((0, 0), 2), .inr (3, (0, 410)))], 0, 0, 41, [(0, .inr (3, (0, 0))), (1, .inr (0, (8, 0)))], [.inr (3, (0, 138)), .inr (3, (0, 1))]), [], [], [(0, 0), (0, 0), (0, 0), (0, 0), (0, 0), (0, 0), (0, 0), (0, 0), (8, 0)], 3)
def rxeB0T_2_0 : rx_End × List (Nat × Int × Int) := (([(0, 0), (0, 0), (0, 0), (0, 0), (0, 0), (0, 0), (0, 0), (0, 0), (0, 0), ((-6), (-1))], [], [], some (.inr (0, (9, 0)))), [])
def rxeB0T_4_0 : rx_End × List (Nat × Int × Int) := (([(0, 0), (0, 0), (0, 0), (0, 0), (0, 0), (0, 0), (0, 0), (0, 0), (0, 0)], [], [(((0, 0), 1851192626986356799029993984671224184301589730656725205983952899000000), .inr (0, (0, 0))), (((0, 0), 8), .inr (0, (0, 0)))], some (.inr (0, (0, 0)))), [])
def rxYB0T : List bx_HE := [(rxzB0T_0, [rxoB0T_0_0, rxoB0T_0_1], []), (rxzB0T_1, [], []), (rxzB0T_2, [], [rxeB0T_2_0]), (rxzB0T_3, [], []), (rxzB0T_4, [], [rxeB0T_4_0])]
def rxUB0T (q : bx_HE) : Bool := Nat.beq (rx_zpc q.1) 27 || Nat.beq (rx_zpc q.1) 41
def rxYBB0T : bx_B := (rxV, rxNP, rxDmf, bx_mdH rxCB0T.2.2.1)
set_option maxRecDepth 100000 in
theorem rxYcB0T : bx_chkH rxYBB0T rxM210 rxCB0T rxYB0T (rxUB0T, fun cut z => rx_ex2 (rxCT rxYBB0T rxCnE) cut 30000 rxCB0T.2.2.2.1 210 z) = true := by decide +kernel
def rxIB0T (S0 : Nat → Int → Int) (ws : List Int) (i : Nat) : bx_SP := fun S r => match i with | 0 => rxIB0T_0 S0 ws S (r 8) | 1 => rxIB0T_1 S0 ws S (r 8) | 2 => rxIB0T_2 S0 ws S (r 8) (r 9) | 3 => rxIB0T_3 S0 ws S (r 8) | 4 => rxIB0T_4 S0 ws S (r 8) | _ => False
def rxmB0T (S0 : Nat → Int → Int) (ws : List Int) (i : Nat) (S : Nat → Int → Int) (r : Nat → Int) : Nat := match i with | 0 => rxmB0T_0 S0 ws S (r 8) | 1 => rxmB0T_1 S0 ws S (r 8) | 2 => rxmB0T_2 S0 ws S (r 8) (r 9) | 3 => rxmB0T_3 S0 ws S (r 8) | 4 => rxmB0T_4 S0 ws S (r 8) | _ => 0
def rxPB0T (S0 : Nat → Int → Int) (ws : List Int) : Prop := rkPl S0
def rxPSB0T (S0 : Nat → Int → Int) (ws : List Int) (S : Nat → Int → Int) (w : Option Int) : Prop := (S0 410 0 = 0 ∧ w = some (-2) ∧ bx_same rxL (bx_mdl rxC110.2.2.1) S0 S) ∨ (S0 410 0 ≠ 0 ∧ w = some 0 ∧ ∃ S1 : Nat → Int → Int, rxPSCZ1x138 S0 [1, 138] S1 none ∧ S = bx_up S1 0 8 0)
theorem rxkB0T_1 {S0 : Nat → Int → Int} {ws : List Int} {S : Nat → Int → Int} {ki : Int} (hP : rxPB0T S0 ws) (hin : bx_same rxL (bx_mdl rxCB0T.2.2.1) S0 S) (I0 : bx_Inv rxL S) (hinv : rxIB0T_1 S0 ws S ki) (l8 : 0 ≤ ki) (u8 : ki ≤ 0) : rxP110 S [0, (-2)] ∧ ∀ (S_p : Nat → Int → Int) (res : Int), (-6) ≤ res → res ≤ (-1) → rxPS110 S [0, (-2)] S_p (some res) → bx_Inv rxL S_p → bx_same rxL (bx_mdl rxC110.2.2.1) S S_p → rxIB0T_2 S0 ws S_p ki res ∧ rxmB0T_2 S0 ws S_p ki res < rxmB0T_1 S0 ws S ki := by
  obtain ⟨rfl, h1⟩ := hinv
  refine ⟨trivial, fun S_p res _ _ hq _ hsm => ⟨⟨?_, h1, hsm⟩, by unfold rxmB0T_1 rxmB0T_2; omega⟩⟩
  obtain ⟨c, hc, hr⟩ := hq
  simp only [List.cons.injEq, and_true, true_and] at hc
  simp only [Option.some.injEq] at hr
  omega
theorem rxsB0T_1 {X : (Nat → Int → Int) → Prop} {S0 : Nat → Int → Int} {ws : List Int} (hP : rxPB0T S0 ws) : rx_obK X S0 rxCB0T.2.2.1 rxC110.2.2.1 (rxIB0T S0 ws) (rxmB0T S0 ws) 1 2 rxzB0T_1 rxzB0T_2 [.inr (3, (0, 0)), .inr (0, (0, (-2)))] (some 9) rxP110 rxPS110 := by
  intro S r hinv hXS I0 hin hs_ hf_
  have b_ := bx_bds_sat hs_
  have f_ := bx_fcl_ok hs_.1 hf_
  obtain ⟨⟨l8, u8⟩, -⟩ := b_
  have g := rxkB0T_1 hP hin I0 hinv l8 u8
  have ea : List.map (bx_num r) [.inr (3, (0, 0)), .inr (0, (0, (-2)))] = [0, -2] := by
    simp only [List.map_cons, List.map_nil, bx_xv_ok hs_.1]
    rfl
  rw [ea]
  refine ⟨g.1, fun S_p w r_p hPS hX_p I1 hsm hr hw hs_p => ?_⟩
  have hw := hw _ rfl
  subst hw
  have b_p := hs_p.2.2 9 _ _ rfl
  have g2 := g.2 S_p (r_p 9) b_p.1 b_p.2 hPS I1 hsm
  show rxIB0T_2 S0 ws S_p (r_p 8) (r_p 9) ∧ rxmB0T_2 S0 ws S_p (r_p 8) (r_p 9) < _
  rw [hr 8 (by decide)]
  exact g2
theorem rxkB0T_3 {S0 : Nat → Int → Int} {ws : List Int} {S : Nat → Int → Int} {ki : Int} (hP : rxPB0T S0 ws) (hin : bx_same rxL (bx_mdl rxCB0T.2.2.1) S0 S) (I0 : bx_Inv rxL S) (hinv : rxIB0T_3 S0 ws S ki) (l8 : 0 ≤ ki) (u8 : ki ≤ 0) : rxPCZ1x138 S [1, 138] ∧ ∀ (S_p : Nat → Int → Int), rxPSCZ1x138 S [1, 138] S_p none → bx_Inv rxL S_p → bx_same rxL (bx_mdl rxCCZ1x138.2.2.1) S S_p → rxIB0T_4 S0 ws S_p ki ∧ rxmB0T_4 S0 ws S_p ki < rxmB0T_3 S0 ws S ki := by
  obtain ⟨rfl, h1⟩ := hinv
  exact ⟨hP, fun S_p hq _ hsm => ⟨⟨hq, h1⟩, by unfold rxmB0T_3 rxmB0T_4; omega⟩⟩
theorem rxsB0T_3 {X : (Nat → Int → Int) → Prop} {S0 : Nat → Int → Int} {ws : List Int} (hP : rxPB0T S0 ws) : rx_obK X S0 rxCB0T.2.2.1 rxCCZ1x138.2.2.1 (rxIB0T S0 ws) (rxmB0T S0 ws) 3 4 rxzB0T_3 rxzB0T_4 [.inr (3, (0, 1)), .inr (3, (0, 138))] none rxPCZ1x138 rxPSCZ1x138 := by
  intro S r hinv hXS I0 hin hs_ hf_
  have b_ := bx_bds_sat hs_
  have f_ := bx_fcl_ok hs_.1 hf_
  obtain ⟨⟨l8, u8⟩, -⟩ := b_
  have g := rxkB0T_3 hP hin I0 hinv l8 u8
  have ea : List.map (bx_num r) [.inr (3, (0, 1)), .inr (3, (0, 138))] = [1, 138] := by
    simp only [List.map_cons, List.map_nil, bx_xv_ok hs_.1]
    rfl
  rw [ea]
  refine ⟨g.1, fun S_p w r_p hPS hX_p I1 hsm hr hw hs_p => ?_⟩
  have hw : w = none := hPS.1
  subst hw
  have g2 := g.2 S_p hPS I1 hsm
  show rxIB0T_4 S0 ws S_p (r_p 8) ∧ rxmB0T_4 S0 ws S_p (r_p 8) < _
  rw [hr 8 (by decide)]
  exact g2
theorem rxcB0T_0_0 {S0 : Nat → Int → Int} {ws : List Int} {S : Nat → Int → Int} {ki x9 : Int} (hP : rxPB0T S0 ws) (hin : bx_same rxL (bx_mdl rxCB0T.2.2.1) S0 S) (I0 : bx_Inv rxL S) (hinv : rxIB0T_0 S0 ws S ki) (l8 : 0 ≤ ki) (u8 : ki ≤ 0) (l9 : 0 ≤ x9) (u9 : x9 ≤ 0) (e0 : S 410 ki = x9) : (True) ∧ (True) ∧ rxIB0T_1 S0 ws S ki ∧ rxmB0T_1 S0 ws S ki < rxmB0T_0 S0 ws S ki := by
  obtain ⟨rfl, hw⟩ := hinv
  have e : ki = 0 := by omega
  subst e
  exact ⟨trivial, trivial, ⟨rfl, by omega⟩, by unfold rxmB0T_0 rxmB0T_1; omega⟩
theorem rxgB0T_0_0 {X : (Nat → Int → Int) → Prop} {S0 : Nat → Int → Int} {ws : List Int} (hP : rxPB0T S0 ws) : bx_obC rxL X S0 rxCB0T.2.2.1 (rxIB0T S0 ws) (rxmB0T S0 ws) 0 rxzB0T_0 rxoB0T_0_0 := by
  intro S S_p r r_p hinv hX hin hsm_ hseg
  obtain ⟨I0, I1, h0_, hr_, b_, f_, d_⟩ := bx_cl (evs := [(0, (0, 410), (8, 0), .inr (0, (9, 0)))]) (fvs := []) hseg (by decide +kernel) (by decide +kernel)
  have hinv : rxIB0T_0 S0 ws S (r 8) := hinv
  rw [← hr_ 8 (by decide)] at hinv
  obtain ⟨⟨l8, u8⟩, ⟨l9, u9⟩, -⟩ := b_
  obtain ⟨e0, w_⟩ := d_
  subst w_
  have g := rxcB0T_0_0 hP hin I0 hinv l8 u8 l9 u9 e0
  refine ⟨bx_narP_ok (l := []) g.1, bx_nfP_ok h0_ (fvs := []) (by decide +kernel) g.2.1, ?_, ?_⟩
  · show rxIB0T_1 S0 ws S_p (bx_val [(0, 0), (0, 0), (0, 0), (0, 0), (0, 0), (0, 0), (0, 0), (0, 0), (8, 0)] r_p 8)
    rw [bx_val_x (n := 8) (e := (8, 0)) h0_ rfl]
    exact g.2.2.1
  · show rxmB0T_1 S0 ws S_p (bx_val [(0, 0), (0, 0), (0, 0), (0, 0), (0, 0), (0, 0), (0, 0), (0, 0), (8, 0)] r_p 8) < rxmB0T_0 S0 ws S_p (r 8)
    rw [bx_val_x (n := 8) (e := (8, 0)) h0_ rfl, ← hr_ 8 (by decide)]
    exact g.2.2.2
theorem rxcB0T_0_1 {S0 : Nat → Int → Int} {ws : List Int} {S : Nat → Int → Int} {ki x9 : Int} (hP : rxPB0T S0 ws) (hin : bx_same rxL (bx_mdl rxCB0T.2.2.1) S0 S) (I0 : bx_Inv rxL S) (hinv : rxIB0T_0 S0 ws S ki) (l8 : 0 ≤ ki) (u8 : ki ≤ 0) (l9 : 1 ≤ x9) (u9 : x9 ≤ 1) (f0 : x9 ≠ 0) (e0 : S 410 ki = x9) : (True) ∧ (True) ∧ rxIB0T_3 S0 ws S ki ∧ rxmB0T_3 S0 ws S ki < rxmB0T_0 S0 ws S ki := by
  obtain ⟨rfl, hw⟩ := hinv
  have e : ki = 0 := by omega
  subst e
  exact ⟨trivial, trivial, ⟨rfl, by omega⟩, by unfold rxmB0T_0 rxmB0T_3; omega⟩
theorem rxgB0T_0_1 {X : (Nat → Int → Int) → Prop} {S0 : Nat → Int → Int} {ws : List Int} (hP : rxPB0T S0 ws) : bx_obC rxL X S0 rxCB0T.2.2.1 (rxIB0T S0 ws) (rxmB0T S0 ws) 0 rxzB0T_0 rxoB0T_0_1 := by
  intro S S_p r r_p hinv hX hin hsm_ hseg
  obtain ⟨I0, I1, h0_, hr_, b_, f_, d_⟩ := bx_cl (evs := [(0, (0, 410), (8, 0), .inr (0, (9, 0)))]) (fvs := [(3, (9, 0), (0, 0), (0, 0))]) hseg (by decide +kernel) (by decide +kernel)
  have hinv : rxIB0T_0 S0 ws S (r 8) := hinv
  rw [← hr_ 8 (by decide)] at hinv
  obtain ⟨⟨l8, u8⟩, ⟨l9, u9⟩, -⟩ := b_
  obtain ⟨f0, -⟩ := f_
  obtain ⟨e0, w_⟩ := d_
  subst w_
  have g := rxcB0T_0_1 hP hin I0 hinv l8 u8 l9 u9 f0 e0
  refine ⟨bx_narP_ok (l := []) g.1, bx_nfP_ok h0_ (fvs := []) (by decide +kernel) g.2.1, ?_, ?_⟩
  · show rxIB0T_3 S0 ws S_p (bx_val [(0, 0), (0, 0), (0, 0), (0, 0), (0, 0), (0, 0), (0, 0), (0, 0), (8, 0)] r_p 8)
    rw [bx_val_x (n := 8) (e := (8, 0)) h0_ rfl]
    exact g.2.2.1
  · show rxmB0T_3 S0 ws S_p (bx_val [(0, 0), (0, 0), (0, 0), (0, 0), (0, 0), (0, 0), (0, 0), (0, 0), (8, 0)] r_p 8) < rxmB0T_0 S0 ws S_p (r 8)
    rw [bx_val_x (n := 8) (e := (8, 0)) h0_ rfl, ← hr_ 8 (by decide)]
    exact g.2.2.2
theorem rxdB0T_2_0 {S0 : Nat → Int → Int} {ws : List Int} {S : Nat → Int → Int} {ki res : Int} (hP : rxPB0T S0 ws) (hin : bx_same rxL (bx_mdl rxCB0T.2.2.1) S0 S) (hin2 : bx_same rxL (bx_mdl rxCB0T.2.2.1) S S) (I0 : bx_Inv rxL S) (I1 : bx_Inv rxL S) (hinv : rxIB0T_2 S0 ws S ki res) (l8 : 0 ≤ ki) (u8 : ki ≤ 0) (l9 : (-6) ≤ res) (u9 : res ≤ (-1)) : (True) ∧ rxPSB0T S0 ws S (some res) := by
  obtain ⟨h1, h2, h3⟩ := hinv
  exact ⟨trivial, Or.inl ⟨h2, congrArg some h1, h3⟩⟩
theorem rxfB0T_2_0 {X : (Nat → Int → Int) → Prop} {S0 : Nat → Int → Int} {ws : List Int} (hP : rxPB0T S0 ws) : bx_obE rxL X S0 rxCB0T.2.2.1 (rxIB0T S0 ws) (rxPSB0T S0 ws) 2 rxzB0T_2 rxeB0T_2_0 := by
  intro S S_p r r_p hinv hX hin hsm_ hseg
  obtain ⟨I0, I1, h0_, hr_, b_, f_, d_⟩ := bx_cl (evs := []) (fvs := []) hseg (by decide +kernel) (by decide +kernel)
  have hinv : rxIB0T_2 S0 ws S (r 8) (r 9) := hinv
  rw [← hr_ 8 (by decide), ← hr_ 9 (by decide)] at hinv
  obtain ⟨⟨l8, u8⟩, ⟨l9, u9⟩, -⟩ := b_
  have w_ := d_
  subst w_
  have g := rxdB0T_2_0 hP hin hsm_ I0 I1 hinv l8 u8 l9 u9
  refine ⟨bx_narP_ok (l := []) g.1, ?_⟩
  show rxPSB0T S0 ws S_p (some (bx_num r_p (.inr (0, (9, 0)))))
  rw [bx_xv_ok h0_]
  exact g.2
theorem rxdB0T_4_0 {S0 : Nat → Int → Int} {ws : List Int} {S : Nat → Int → Int} {ki : Int} (hP : rxPB0T S0 ws) (hin : bx_same rxL (bx_mdl rxCB0T.2.2.1) S0 S) (hin2 : bx_same rxL (bx_mdl rxCB0T.2.2.1) S (bx_up S 0 8 0)) (I0 : bx_Inv rxL S) (I1 : bx_Inv rxL (bx_up S 0 8 0)) (hinv : rxIB0T_4 S0 ws S ki) (l8 : 0 ≤ ki) (u8 : ki ≤ 0) : (True) ∧ rxPSB0T S0 ws (bx_up S 0 8 0) (some 0) := by
  obtain ⟨h1, h2⟩ := hinv
  exact ⟨trivial, Or.inr ⟨h2, rfl, S, h1, rfl⟩⟩
theorem rxfB0T_4_0 {X : (Nat → Int → Int) → Prop} {S0 : Nat → Int → Int} {ws : List Int} (hP : rxPB0T S0 ws) : bx_obE rxL X S0 rxCB0T.2.2.1 (rxIB0T S0 ws) (rxPSB0T S0 ws) 4 rxzB0T_4 rxeB0T_4_0 := by
  intro S S_p r r_p hinv hX hin hsm_ hseg
  obtain ⟨I0, I1, h0_, hr_, b_, f_, d_⟩ := bx_cl (evs := [(1, (0, 0), (0, 8), .inr (0, (0, 0)))]) (fvs := []) hseg (by decide +kernel) (by decide +kernel)
  have hinv : rxIB0T_4 S0 ws S (r 8) := hinv
  rw [← hr_ 8 (by decide)] at hinv
  obtain ⟨⟨l8, u8⟩, -⟩ := b_
  obtain ⟨T0, w_, w0⟩ := d_
  subst w0
  subst w_
  have g := rxdB0T_4_0 hP hin hsm_ I0 I1 hinv l8 u8
  refine ⟨bx_narP_ok (l := []) g.1, ?_⟩
  show rxPSB0T S0 ws (bx_up T0 0 (8) (0)) (some (bx_num r_p (.inr (0, (0, 0)))))
  rw [bx_xv_ok h0_]
  exact g.2
theorem rxgCB0T {X : (Nat → Int → Int) → Prop} {S0 : Nat → Int → Int} {ws : List Int} (hP : rxPB0T S0 ws) : bx_allI (fun i q => rxUB0T q = true ∨ bx_allP (fun o => bx_obC rxL X S0 rxCB0T.2.2.1 (rxIB0T S0 ws) (rxmB0T S0 ws) i q.1 o) q.2.1) 0 rxYB0T := ⟨Or.inr ⟨rxgB0T_0_0 hP, rxgB0T_0_1 hP, trivial⟩, Or.inl rfl, Or.inr trivial, Or.inl rfl, Or.inr trivial, trivial⟩
theorem rxgEB0T {X : (Nat → Int → Int) → Prop} {S0 : Nat → Int → Int} {ws : List Int} (hP : rxPB0T S0 ws) : bx_allI (fun i q => rxUB0T q = true ∨ bx_allP (fun E => bx_obE rxL X S0 rxCB0T.2.2.1 (rxIB0T S0 ws) (rxPSB0T S0 ws) i q.1 E) q.2.2) 0 rxYB0T := ⟨Or.inr trivial, Or.inl rfl, Or.inr ⟨rxfB0T_2_0 hP, trivial⟩, Or.inl rfl, Or.inr ⟨rxfB0T_4_0 hP, trivial⟩, trivial⟩
theorem rxuB0T {PX : State → Prop} {Dg : va_G} {A : Nat → Prop} {ad xa : Nat → Nat} {l : Launch} {X : (Nat → Int → Int) → Prop} (hPX : rx_PXOK rxNW A PX) (hX : ∀ S S1 : Nat → Int → Int, X S → bx_same rxL (bx_mdl rxCB0T.2.2.1) S S1 → X S1) (hQ110 : bx_ConP rxG rxNW rxAO PX Dg rxL X vwCl A ad l rxM110 rxC110 rxP110 rxPS110) (hQCZ1x138 : bx_ConP rxG rxNW rxAO PX Dg rxL X vwCl A ad l rxM154 rxCCZ1x138 rxPCZ1x138 rxPSCZ1x138) {S0 : Nat → Int → Int} {ws : List Int} (hP : rxPB0T S0 ws) : ∀ (i : Nat) (q : bx_HE), rxYB0T[i]? = some q → rxUB0T q = true → ∀ {p : Program} {e : Env} {R : Room} {s : State} {m : MethodId} {args : Array Value} {below : List Frame} {meth : Method} {c : Code} {Q : State → Prop} {H0 : Heap}, rx_Fr rxG rxNW rxAO PX p s m args meth c rxM210 → (∀ q, H0.size ≤ q → A q) → H0 = s.heap → rxM210.2.2.2.2.2.2.1 ≤ R.cells → rxM210.2.2.2.2.2.2.2 ≤ R.slots → rxCB0T.2.2.2.1 ≤ R.frames → rxCB0T.2.2.2.1 * 40 ≤ R.locals → bx_Step p l e R s m args below meth c Q Dg rxL X vwCl A xa H0 ad rxM210 rxYB0T (rxIB0T S0 ws) (rxmB0T S0 ws) S0 rxCB0T.2.2.1 i q := by
  intro i q hq hus p e R s m args below meth c Q H0 hF hA hH0 hmc hms hd hdl
  match i, hq with
  | 0, hq =>
    cases hq
    exact absurd (show false = true from hus) Bool.false_ne_true
  | 1, hq =>
    cases hq
    exact rx_stepC (ins := .invokevirtual 110) (len := 3) (i_p := 2) (M_p := rxM110) (d := rxCB0T.2.2.2.1) (as := [.inr (3, (0, 0)), .inr (0, (0, (-2)))]) (t := []) (ct := rxC110) hPX hF rfl hA hH0 hmc hms hd hdl (by decide +kernel) rfl rfl (by decide +kernel) (by decide +kernel) hQ110 (by decide +kernel) rfl (Or.inr ⟨_, _, _, 1, rfl, rfl, by omega, rfl, rfl, rfl⟩) (rxsB0T_1 hP)
  | 2, hq =>
    cases hq
    exact absurd (show false = true from hus) Bool.false_ne_true
  | 3, hq =>
    cases hq
    exact rx_stepC (ins := .invokevirtual 431) (len := 3) (i_p := 4) (M_p := rxM154) (d := rxCB0T.2.2.2.1) (as := [.inr (3, (0, 1)), .inr (3, (0, 138))]) (t := []) (ct := rxCCZ1x138) hPX hF rfl hA hH0 hmc hms hd hdl (by decide +kernel) rfl rfl (by decide +kernel) (by decide +kernel) hQCZ1x138 (by decide +kernel) rfl (Or.inl ⟨rfl, rfl, rfl⟩) (rxsB0T_3 hP)
  | 4, hq =>
    cases hq
    exact absurd (show false = true from hus) Bool.false_ne_true
  | n + 5, hq => cases hq
theorem rxQB0T {PX : State → Prop} {Dg : va_G} {A : Nat → Prop} {ad xa : Nat → Nat} {l : Launch} {X : (Nat → Int → Int) → Prop} (hPX : rx_PXOK rxNW A PX) (hsl : ∀ s : State, PX s → ∀ o idx n : Nat, rxSl o idx = some n → ∃ tx : String, vk_R (rxNm o) idx tx (ad n) s)
    (hX : ∀ S S_p : Nat → Int → Int, X S → bx_same rxL (bx_mdl rxCB0T.2.2.1) S S_p → X S_p)
    (ih : ∀ (j2 : Nat) (ct2 : bx_Ct) (M2 : rx_Mt), ct2 ∈ rxCnE j2 → ct2.2.2.2.1 + 1 ≤ rxCB0T.2.2.2.1 → rxT.2.2.2.2.2 j2 = some M2 → bx_Con rxG rxNW rxAO PX Dg rxL X vwCl A ad l M2 ct2) (hQ110 : bx_ConP rxG rxNW rxAO PX Dg rxL X vwCl A ad l rxM110 rxC110 rxP110 rxPS110) (hQCZ1x138 : bx_ConP rxG rxNW rxAO PX Dg rxL X vwCl A ad l rxM154 rxCCZ1x138 rxPCZ1x138 rxPSCZ1x138) : bx_ConP rxG rxNW rxAO PX Dg rxL X vwCl A ad l rxM210 rxCB0T rxPB0T rxPSB0T :=
  rxQof (xa := xa) (Cn := rxCnE) (f := 30000) (j := 210) (tab := rxYB0T) (us := rxUB0T) hPX hsl hX ih rfl rxYcB0T rxIB0T rxmB0T
    (fun S0 ws r I0 I ht0 ht as he he1 hX0 hI0 hP hs ha => by
      have e := he.symm.trans (show bx_ent0 rxNP rxCB0T.1 bx_I0 [] = some ([(0, 0), (0, 0), (0, 0), (0, 0), (0, 0), (0, 0), (0, 0), (0, 0), (0, 0)], [], [.inr (3, (0, 0)), .inr (0, (8, 0))]) from rfl)
      cases e
      subst ha
      have h0 : r 0 = 0 := hs.1
      show rxIB0T_0 S0 _ S0 (r 8)
      refine ⟨rfl, ?_⟩
      simp only [List.map_cons, List.map_nil, bx_xv_ok h0]
      rfl)
    (fun S0 ws hP => rxuB0T (xa := xa) hPX hX hQ110 hQCZ1x138 hP) (fun S0 ws hP => rxgCB0T hP) (fun S0 ws hP => rxgEB0T hP)
/-! CONTRACT BY HAND, by program (wip/sim/genhand.py): DeadUnderstudies.back -/
def rxCB1T : bx_Ct := ([(3, (1, 0, 0)), (0, (0, 1, 1))], some (0, (0, (-6), 0)), [(2, 0), (5, 0), (6, 0), (6, 4), (10, 0), (10, 5), (10, 10), (10, 14), (10, 15), (11, 8), (1000, 0), (1001, 0), (1003, 0), (1004, 0), (1005, 0), (1006, 0), (1007, 0), (1008, 0), (1010, 0), (1011, 0), (1012, 0), (1013, 0), (1015, 0), (1019, 0), (1020, 0), (1021, 0), (1022, 0), (1024, 0), (1025, 0), (1026, 0), (1027, 0), (1037, 0)], 3, [])
def rxIB1T_0 (S0 : Nat → Int → Int) (ws : List Int) (S : Nat → Int → Int) (ki : Int) : Prop := S = S0 ∧ ws = [0, ki]
def rxmB1T_0 (S0 : Nat → Int → Int) (ws : List Int) (S : Nat → Int → Int) (ki : Int) : Nat := 100
def rxzB1T_0 : rx_Z := ([(0, 0), (0, 0), (0, 0), (0, 0), (0, 0), (0, 0), (0, 0), (0, 0), (1, 1)], [], [], 0, 0, 0, [(0, .inr (3, (0, 0))), (1, .inr (0, (8, 0)))], [])
def rxIB1T_1 (S0 : Nat → Int → Int) (ws : List Int) (S : Nat → Int → Int) (ki : Int) : Prop := S = S0 ∧ S0 410 1 = 0
def rxmB1T_1 (S0 : Nat → Int → Int) (ws : List Int) (S : Nat → Int → Int) (ki : Int) : Nat := 50
def rxzB1T_1 : rx_Z := ([(0, 0), (0, 0), (0, 0), (0, 0), (0, 0), (0, 0), (0, 0), (0, 0), (1, 1)], [], [], 0, 0, 27, [(0, .inr (3, (0, 0))), (1, .inr (0, (8, 0)))], [.inr (0, (0, (-2))), .inr (3, (0, 0))])
def rxIB1T_2 (S0 : Nat → Int → Int) (ws : List Int) (S : Nat → Int → Int) (ki res : Int) : Prop := res = -2 ∧ S0 410 1 = 0 ∧ bx_same rxL (bx_mdl rxC110.2.2.1) S0 S
def rxmB1T_2 (S0 : Nat → Int → Int) (ws : List Int) (S : Nat → Int → Int) (ki res : Int) : Nat := 20
def rxzB1T_2 : rx_Z := ([(0, 0), (0, 0), (0, 0), (0, 0), (0, 0), (0, 0), (0, 0), (0, 0), (1, 1), ((-6), (-1))], [], [], 0, 0, 30, [(0, .inr (3, (0, 0))), (1, .inr (0, (8, 0)))], [.inr (0, (9, 0))])
def rxIB1T_3 (S0 : Nat → Int → Int) (ws : List Int) (S : Nat → Int → Int) (ki : Int) : Prop := S = S0 ∧ S0 410 1 ≠ 0
def rxmB1T_3 (S0 : Nat → Int → Int) (ws : List Int) (S : Nat → Int → Int) (ki : Int) : Nat := 50
def rxzB1T_3 : rx_Z := ([(0, 0), (0, 0), (0, 0), (0, 0), (0, 0), (0, 0), (0, 0), (0, 0), (1, 1)], [], [], 0, 0, 41, [(0, .inr (3, (0, 0))), (1, .inr (0, (8, 0)))], [.inr (3, (0, 274)), .inr (3, (0, 1))])
def rxIB1T_4 (S0 : Nat → Int → Int) (ws : List Int) (S : Nat → Int → Int) (ki : Int) : Prop := rxPSCZ1x274 S0 [1, 274] S none ∧ S0 410 1 ≠ 0
def rxmB1T_4 (S0 : Nat → Int → Int) (ws : List Int) (S : Nat → Int → Int) (ki : Int) : Nat := 20
def rxzB1T_4 : rx_Z := ([(0, 0), (0, 0), (0, 0), (0, 0), (0, 0), (0, 0), (0, 0), (0, 0), (1, 1)], [], [], 0, 0, 44, [(0, .inr (3, (0, 0))), (1, .inr (0, (8, 0)))], [])
def rxoB1T_0_0 : bx_HO := (([(0, 0), (0, 0), (0, 0), (0, 0), (0, 0), (0, 0), (0, 0), (0, 0), (1, 1), (0, 0)], [], [(((0, 0), 1851192626986356797424364830707437625680387377997778265106415616000000), .inr (0, (9, 0))), (((0, 410), 1), .inr (0, (9, 0))), (((0, 0), 2), .inr (3, (0, 410)))], 0, 0, 27, [(0, .inr (3, (0, 0))), (1, .inr (0, (8, 0)))], [.inr (0, (0, (-2))), .inr (3, (0, 0))]), [], [], [(0, 0), (0, 0), (0, 0), (0, 0), (0, 0), (0, 0), (0, 0), (0, 0), (8, 0)], 1)
def rxoB1T_0_1 : bx_HO := (([(0, 0), (0, 0), (0, 0), (0, 0), (0, 0), (0, 0), (0, 0), (0, 0), (1, 1), (1, 1)], [(3, (9, 0), (0, 0))], [(((0, 137), 1), .inr (3, (0, 274))), (((0, 0), 1), .inr (3, (0, 137))), (((0, 0), 0), .inr (3, (0, 1))), (((0, 0), 1851192626986356797424364830707437625680387377997778265106415616000000), .inr (0, (9, 0))), (((0, 410), 1), .inr (0, (9, 0))), (((0, 0), 2), .inr (3, (0, 410)))], 0, 0, 41, [(0, .inr (3, (0, 0))), (1, .inr (0, (8, 0)))], [.inr (3, (0, 274)), .inr (3, (0, 1))]), [], [], [(0, 0), (0, 0), (0, 0), (0, 0), (0, 0), (0, 0), (0, 0), (0, 0), (8, 0)], 3)
def rxeB1T_2_0 : rx_End × List (Nat × Int × Int) := (([(0, 0), (0, 0), (0, 0), (0, 0), (0, 0), (0, 0), (0, 0), (0, 0), (1, 1), ((-6), (-1))], [], [], some (.inr (0, (9, 0)))), [])
def rxeB1T_4_0 : rx_End × List (Nat × Int × Int) := (([(0, 0), (0, 0), (0, 0), (0, 0), (0, 0), (0, 0), (0, 0), (0, 0), (1, 1)], [], [(((0, 0), 1851192626986356799029993984671224184301589730656725205983952899000000), .inr (0, (0, 0))), (((0, 0), 8), .inr (0, (0, 0)))], some (.inr (0, (0, 0)))), [])
def rxYB1T : List bx_HE := [(rxzB1T_0, [rxoB1T_0_0, rxoB1T_0_1], []), (rxzB1T_1, [], []), (rxzB1T_2, [], [rxeB1T_2_0]), (rxzB1T_3, [], []), (rxzB1T_4, [], [rxeB1T_4_0])]
def rxUB1T (q : bx_HE) : Bool := Nat.beq (rx_zpc q.1) 27 || Nat.beq (rx_zpc q.1) 41
def rxYBB1T : bx_B := (rxV, rxNP, rxDmf, bx_mdH rxCB1T.2.2.1)
set_option maxRecDepth 100000 in
theorem rxYcB1T : bx_chkH rxYBB1T rxM210 rxCB1T rxYB1T (rxUB1T, fun cut z => rx_ex2 (rxCT rxYBB1T rxCnE) cut 30000 rxCB1T.2.2.2.1 210 z) = true := by decide +kernel
def rxIB1T (S0 : Nat → Int → Int) (ws : List Int) (i : Nat) : bx_SP := fun S r => match i with | 0 => rxIB1T_0 S0 ws S (r 8) | 1 => rxIB1T_1 S0 ws S (r 8) | 2 => rxIB1T_2 S0 ws S (r 8) (r 9) | 3 => rxIB1T_3 S0 ws S (r 8) | 4 => rxIB1T_4 S0 ws S (r 8) | _ => False
def rxmB1T (S0 : Nat → Int → Int) (ws : List Int) (i : Nat) (S : Nat → Int → Int) (r : Nat → Int) : Nat := match i with | 0 => rxmB1T_0 S0 ws S (r 8) | 1 => rxmB1T_1 S0 ws S (r 8) | 2 => rxmB1T_2 S0 ws S (r 8) (r 9) | 3 => rxmB1T_3 S0 ws S (r 8) | 4 => rxmB1T_4 S0 ws S (r 8) | _ => 0
def rxPB1T (S0 : Nat → Int → Int) (ws : List Int) : Prop := rkPl S0
def rxPSB1T (S0 : Nat → Int → Int) (ws : List Int) (S : Nat → Int → Int) (w : Option Int) : Prop := (S0 410 1 = 0 ∧ w = some (-2) ∧ bx_same rxL (bx_mdl rxC110.2.2.1) S0 S) ∨ (S0 410 1 ≠ 0 ∧ w = some 0 ∧ ∃ S1 : Nat → Int → Int, rxPSCZ1x274 S0 [1, 274] S1 none ∧ S = bx_up S1 0 8 0)
theorem rxkB1T_1 {S0 : Nat → Int → Int} {ws : List Int} {S : Nat → Int → Int} {ki : Int} (hP : rxPB1T S0 ws) (hin : bx_same rxL (bx_mdl rxCB1T.2.2.1) S0 S) (I0 : bx_Inv rxL S) (hinv : rxIB1T_1 S0 ws S ki) (l8 : 1 ≤ ki) (u8 : ki ≤ 1) : rxP110 S [0, (-2)] ∧ ∀ (S_p : Nat → Int → Int) (res : Int), (-6) ≤ res → res ≤ (-1) → rxPS110 S [0, (-2)] S_p (some res) → bx_Inv rxL S_p → bx_same rxL (bx_mdl rxC110.2.2.1) S S_p → rxIB1T_2 S0 ws S_p ki res ∧ rxmB1T_2 S0 ws S_p ki res < rxmB1T_1 S0 ws S ki := by
  obtain ⟨rfl, h1⟩ := hinv
  refine ⟨trivial, fun S_p res _ _ hq _ hsm => ⟨⟨?_, h1, hsm⟩, by unfold rxmB1T_1 rxmB1T_2; omega⟩⟩
  obtain ⟨c, hc, hr⟩ := hq
  simp only [List.cons.injEq, and_true, true_and] at hc
  simp only [Option.some.injEq] at hr
  omega
theorem rxsB1T_1 {X : (Nat → Int → Int) → Prop} {S0 : Nat → Int → Int} {ws : List Int} (hP : rxPB1T S0 ws) : rx_obK X S0 rxCB1T.2.2.1 rxC110.2.2.1 (rxIB1T S0 ws) (rxmB1T S0 ws) 1 2 rxzB1T_1 rxzB1T_2 [.inr (3, (0, 0)), .inr (0, (0, (-2)))] (some 9) rxP110 rxPS110 := by
  intro S r hinv hXS I0 hin hs_ hf_
  have b_ := bx_bds_sat hs_
  have f_ := bx_fcl_ok hs_.1 hf_
  obtain ⟨⟨l8, u8⟩, -⟩ := b_
  have g := rxkB1T_1 hP hin I0 hinv l8 u8
  have ea : List.map (bx_num r) [.inr (3, (0, 0)), .inr (0, (0, (-2)))] = [0, -2] := by
    simp only [List.map_cons, List.map_nil, bx_xv_ok hs_.1]
    rfl
  rw [ea]
  refine ⟨g.1, fun S_p w r_p hPS hX_p I1 hsm hr hw hs_p => ?_⟩
  have hw := hw _ rfl
  subst hw
  have b_p := hs_p.2.2 9 _ _ rfl
  have g2 := g.2 S_p (r_p 9) b_p.1 b_p.2 hPS I1 hsm
  show rxIB1T_2 S0 ws S_p (r_p 8) (r_p 9) ∧ rxmB1T_2 S0 ws S_p (r_p 8) (r_p 9) < _
  rw [hr 8 (by decide)]
  exact g2
theorem rxkB1T_3 {S0 : Nat → Int → Int} {ws : List Int} {S : Nat → Int → Int} {ki : Int} (hP : rxPB1T S0 ws) (hin : bx_same rxL (bx_mdl rxCB1T.2.2.1) S0 S) (I0 : bx_Inv rxL S) (hinv : rxIB1T_3 S0 ws S ki) (l8 : 1 ≤ ki) (u8 : ki ≤ 1) : rxPCZ1x274 S [1, 274] ∧ ∀ (S_p : Nat → Int → Int), rxPSCZ1x274 S [1, 274] S_p none → bx_Inv rxL S_p → bx_same rxL (bx_mdl rxCCZ1x274.2.2.1) S S_p → rxIB1T_4 S0 ws S_p ki ∧ rxmB1T_4 S0 ws S_p ki < rxmB1T_3 S0 ws S ki := by
  obtain ⟨rfl, h1⟩ := hinv
  exact ⟨hP, fun S_p hq _ hsm => ⟨⟨hq, h1⟩, by unfold rxmB1T_3 rxmB1T_4; omega⟩⟩
theorem rxsB1T_3 {X : (Nat → Int → Int) → Prop} {S0 : Nat → Int → Int} {ws : List Int} (hP : rxPB1T S0 ws) : rx_obK X S0 rxCB1T.2.2.1 rxCCZ1x274.2.2.1 (rxIB1T S0 ws) (rxmB1T S0 ws) 3 4 rxzB1T_3 rxzB1T_4 [.inr (3, (0, 1)), .inr (3, (0, 274))] none rxPCZ1x274 rxPSCZ1x274 := by
  intro S r hinv hXS I0 hin hs_ hf_
  have b_ := bx_bds_sat hs_
  have f_ := bx_fcl_ok hs_.1 hf_
  obtain ⟨⟨l8, u8⟩, -⟩ := b_
  have g := rxkB1T_3 hP hin I0 hinv l8 u8
  have ea : List.map (bx_num r) [.inr (3, (0, 1)), .inr (3, (0, 274))] = [1, 274] := by
    simp only [List.map_cons, List.map_nil, bx_xv_ok hs_.1]
    rfl
  rw [ea]
  refine ⟨g.1, fun S_p w r_p hPS hX_p I1 hsm hr hw hs_p => ?_⟩
  have hw : w = none := hPS.1
  subst hw
  have g2 := g.2 S_p hPS I1 hsm
  show rxIB1T_4 S0 ws S_p (r_p 8) ∧ rxmB1T_4 S0 ws S_p (r_p 8) < _
  rw [hr 8 (by decide)]
  exact g2
theorem rxcB1T_0_0 {S0 : Nat → Int → Int} {ws : List Int} {S : Nat → Int → Int} {ki x9 : Int} (hP : rxPB1T S0 ws) (hin : bx_same rxL (bx_mdl rxCB1T.2.2.1) S0 S) (I0 : bx_Inv rxL S) (hinv : rxIB1T_0 S0 ws S ki) (l8 : 1 ≤ ki) (u8 : ki ≤ 1) (l9 : 0 ≤ x9) (u9 : x9 ≤ 0) (e0 : S 410 ki = x9) : (True) ∧ (True) ∧ rxIB1T_1 S0 ws S ki ∧ rxmB1T_1 S0 ws S ki < rxmB1T_0 S0 ws S ki := by
  obtain ⟨rfl, hw⟩ := hinv
  have e : ki = 1 := by omega
  subst e
  exact ⟨trivial, trivial, ⟨rfl, by omega⟩, by unfold rxmB1T_0 rxmB1T_1; omega⟩
theorem rxgB1T_0_0 {X : (Nat → Int → Int) → Prop} {S0 : Nat → Int → Int} {ws : List Int} (hP : rxPB1T S0 ws) : bx_obC rxL X S0 rxCB1T.2.2.1 (rxIB1T S0 ws) (rxmB1T S0 ws) 0 rxzB1T_0 rxoB1T_0_0 := by
  intro S S_p r r_p hinv hX hin hsm_ hseg
  obtain ⟨I0, I1, h0_, hr_, b_, f_, d_⟩ := bx_cl (evs := [(0, (0, 410), (8, 0), .inr (0, (9, 0)))]) (fvs := []) hseg (by decide +kernel) (by decide +kernel)
  have hinv : rxIB1T_0 S0 ws S (r 8) := hinv
  rw [← hr_ 8 (by decide)] at hinv
  obtain ⟨⟨l8, u8⟩, ⟨l9, u9⟩, -⟩ := b_
  obtain ⟨e0, w_⟩ := d_
  subst w_
  have g := rxcB1T_0_0 hP hin I0 hinv l8 u8 l9 u9 e0
  refine ⟨bx_narP_ok (l := []) g.1, bx_nfP_ok h0_ (fvs := []) (by decide +kernel) g.2.1, ?_, ?_⟩
  · show rxIB1T_1 S0 ws S_p (bx_val [(0, 0), (0, 0), (0, 0), (0, 0), (0, 0), (0, 0), (0, 0), (0, 0), (8, 0)] r_p 8)
    rw [bx_val_x (n := 8) (e := (8, 0)) h0_ rfl]
    exact g.2.2.1
  · show rxmB1T_1 S0 ws S_p (bx_val [(0, 0), (0, 0), (0, 0), (0, 0), (0, 0), (0, 0), (0, 0), (0, 0), (8, 0)] r_p 8) < rxmB1T_0 S0 ws S_p (r 8)
    rw [bx_val_x (n := 8) (e := (8, 0)) h0_ rfl, ← hr_ 8 (by decide)]
    exact g.2.2.2
theorem rxcB1T_0_1 {S0 : Nat → Int → Int} {ws : List Int} {S : Nat → Int → Int} {ki x9 : Int} (hP : rxPB1T S0 ws) (hin : bx_same rxL (bx_mdl rxCB1T.2.2.1) S0 S) (I0 : bx_Inv rxL S) (hinv : rxIB1T_0 S0 ws S ki) (l8 : 1 ≤ ki) (u8 : ki ≤ 1) (l9 : 1 ≤ x9) (u9 : x9 ≤ 1) (f0 : x9 ≠ 0) (e0 : S 410 ki = x9) : (True) ∧ (True) ∧ rxIB1T_3 S0 ws S ki ∧ rxmB1T_3 S0 ws S ki < rxmB1T_0 S0 ws S ki := by
  obtain ⟨rfl, hw⟩ := hinv
  have e : ki = 1 := by omega
  subst e
  exact ⟨trivial, trivial, ⟨rfl, by omega⟩, by unfold rxmB1T_0 rxmB1T_3; omega⟩
theorem rxgB1T_0_1 {X : (Nat → Int → Int) → Prop} {S0 : Nat → Int → Int} {ws : List Int} (hP : rxPB1T S0 ws) : bx_obC rxL X S0 rxCB1T.2.2.1 (rxIB1T S0 ws) (rxmB1T S0 ws) 0 rxzB1T_0 rxoB1T_0_1 := by
  intro S S_p r r_p hinv hX hin hsm_ hseg
  obtain ⟨I0, I1, h0_, hr_, b_, f_, d_⟩ := bx_cl (evs := [(0, (0, 410), (8, 0), .inr (0, (9, 0)))]) (fvs := [(3, (9, 0), (0, 0), (0, 0))]) hseg (by decide +kernel) (by decide +kernel)
  have hinv : rxIB1T_0 S0 ws S (r 8) := hinv
  rw [← hr_ 8 (by decide)] at hinv
  obtain ⟨⟨l8, u8⟩, ⟨l9, u9⟩, -⟩ := b_
  obtain ⟨f0, -⟩ := f_
  obtain ⟨e0, w_⟩ := d_
  subst w_
  have g := rxcB1T_0_1 hP hin I0 hinv l8 u8 l9 u9 f0 e0
  refine ⟨bx_narP_ok (l := []) g.1, bx_nfP_ok h0_ (fvs := []) (by decide +kernel) g.2.1, ?_, ?_⟩
  · show rxIB1T_3 S0 ws S_p (bx_val [(0, 0), (0, 0), (0, 0), (0, 0), (0, 0), (0, 0), (0, 0), (0, 0), (8, 0)] r_p 8)
    rw [bx_val_x (n := 8) (e := (8, 0)) h0_ rfl]
    exact g.2.2.1
  · show rxmB1T_3 S0 ws S_p (bx_val [(0, 0), (0, 0), (0, 0), (0, 0), (0, 0), (0, 0), (0, 0), (0, 0), (8, 0)] r_p 8) < rxmB1T_0 S0 ws S_p (r 8)
    rw [bx_val_x (n := 8) (e := (8, 0)) h0_ rfl, ← hr_ 8 (by decide)]
    exact g.2.2.2
theorem rxdB1T_2_0 {S0 : Nat → Int → Int} {ws : List Int} {S : Nat → Int → Int} {ki res : Int} (hP : rxPB1T S0 ws) (hin : bx_same rxL (bx_mdl rxCB1T.2.2.1) S0 S) (hin2 : bx_same rxL (bx_mdl rxCB1T.2.2.1) S S) (I0 : bx_Inv rxL S) (I1 : bx_Inv rxL S) (hinv : rxIB1T_2 S0 ws S ki res) (l8 : 1 ≤ ki) (u8 : ki ≤ 1) (l9 : (-6) ≤ res) (u9 : res ≤ (-1)) : (True) ∧ rxPSB1T S0 ws S (some res) := by
  obtain ⟨h1, h2, h3⟩ := hinv
  exact ⟨trivial, Or.inl ⟨h2, congrArg some h1, h3⟩⟩
theorem rxfB1T_2_0 {X : (Nat → Int → Int) → Prop} {S0 : Nat → Int → Int} {ws : List Int} (hP : rxPB1T S0 ws) : bx_obE rxL X S0 rxCB1T.2.2.1 (rxIB1T S0 ws) (rxPSB1T S0 ws) 2 rxzB1T_2 rxeB1T_2_0 := by
  intro S S_p r r_p hinv hX hin hsm_ hseg
  obtain ⟨I0, I1, h0_, hr_, b_, f_, d_⟩ := bx_cl (evs := []) (fvs := []) hseg (by decide +kernel) (by decide +kernel)
  have hinv : rxIB1T_2 S0 ws S (r 8) (r 9) := hinv
  rw [← hr_ 8 (by decide), ← hr_ 9 (by decide)] at hinv
  obtain ⟨⟨l8, u8⟩, ⟨l9, u9⟩, -⟩ := b_
  have w_ := d_
  subst w_
  have g := rxdB1T_2_0 hP hin hsm_ I0 I1 hinv l8 u8 l9 u9
  refine ⟨bx_narP_ok (l := []) g.1, ?_⟩
  show rxPSB1T S0 ws S_p (some (bx_num r_p (.inr (0, (9, 0)))))
  rw [bx_xv_ok h0_]
  exact g.2
theorem rxdB1T_4_0 {S0 : Nat → Int → Int} {ws : List Int} {S : Nat → Int → Int} {ki : Int} (hP : rxPB1T S0 ws) (hin : bx_same rxL (bx_mdl rxCB1T.2.2.1) S0 S) (hin2 : bx_same rxL (bx_mdl rxCB1T.2.2.1) S (bx_up S 0 8 0)) (I0 : bx_Inv rxL S) (I1 : bx_Inv rxL (bx_up S 0 8 0)) (hinv : rxIB1T_4 S0 ws S ki) (l8 : 1 ≤ ki) (u8 : ki ≤ 1) : (True) ∧ rxPSB1T S0 ws (bx_up S 0 8 0) (some 0) := by
  obtain ⟨h1, h2⟩ := hinv
  exact ⟨trivial, Or.inr ⟨h2, rfl, S, h1, rfl⟩⟩
theorem rxfB1T_4_0 {X : (Nat → Int → Int) → Prop} {S0 : Nat → Int → Int} {ws : List Int} (hP : rxPB1T S0 ws) : bx_obE rxL X S0 rxCB1T.2.2.1 (rxIB1T S0 ws) (rxPSB1T S0 ws) 4 rxzB1T_4 rxeB1T_4_0 := by
  intro S S_p r r_p hinv hX hin hsm_ hseg
  obtain ⟨I0, I1, h0_, hr_, b_, f_, d_⟩ := bx_cl (evs := [(1, (0, 0), (0, 8), .inr (0, (0, 0)))]) (fvs := []) hseg (by decide +kernel) (by decide +kernel)
  have hinv : rxIB1T_4 S0 ws S (r 8) := hinv
  rw [← hr_ 8 (by decide)] at hinv
  obtain ⟨⟨l8, u8⟩, -⟩ := b_
  obtain ⟨T0, w_, w0⟩ := d_
  subst w0
  subst w_
  have g := rxdB1T_4_0 hP hin hsm_ I0 I1 hinv l8 u8
  refine ⟨bx_narP_ok (l := []) g.1, ?_⟩
  show rxPSB1T S0 ws (bx_up T0 0 (8) (0)) (some (bx_num r_p (.inr (0, (0, 0)))))
  rw [bx_xv_ok h0_]
  exact g.2
theorem rxgCB1T {X : (Nat → Int → Int) → Prop} {S0 : Nat → Int → Int} {ws : List Int} (hP : rxPB1T S0 ws) : bx_allI (fun i q => rxUB1T q = true ∨ bx_allP (fun o => bx_obC rxL X S0 rxCB1T.2.2.1 (rxIB1T S0 ws) (rxmB1T S0 ws) i q.1 o) q.2.1) 0 rxYB1T := ⟨Or.inr ⟨rxgB1T_0_0 hP, rxgB1T_0_1 hP, trivial⟩, Or.inl rfl, Or.inr trivial, Or.inl rfl, Or.inr trivial, trivial⟩
theorem rxgEB1T {X : (Nat → Int → Int) → Prop} {S0 : Nat → Int → Int} {ws : List Int} (hP : rxPB1T S0 ws) : bx_allI (fun i q => rxUB1T q = true ∨ bx_allP (fun E => bx_obE rxL X S0 rxCB1T.2.2.1 (rxIB1T S0 ws) (rxPSB1T S0 ws) i q.1 E) q.2.2) 0 rxYB1T := ⟨Or.inr trivial, Or.inl rfl, Or.inr ⟨rxfB1T_2_0 hP, trivial⟩, Or.inl rfl, Or.inr ⟨rxfB1T_4_0 hP, trivial⟩, trivial⟩
theorem rxuB1T {PX : State → Prop} {Dg : va_G} {A : Nat → Prop} {ad xa : Nat → Nat} {l : Launch} {X : (Nat → Int → Int) → Prop} (hPX : rx_PXOK rxNW A PX) (hX : ∀ S S1 : Nat → Int → Int, X S → bx_same rxL (bx_mdl rxCB1T.2.2.1) S S1 → X S1) (hQ110 : bx_ConP rxG rxNW rxAO PX Dg rxL X vwCl A ad l rxM110 rxC110 rxP110 rxPS110) (hQCZ1x274 : bx_ConP rxG rxNW rxAO PX Dg rxL X vwCl A ad l rxM154 rxCCZ1x274 rxPCZ1x274 rxPSCZ1x274) {S0 : Nat → Int → Int} {ws : List Int} (hP : rxPB1T S0 ws) : ∀ (i : Nat) (q : bx_HE), rxYB1T[i]? = some q → rxUB1T q = true → ∀ {p : Program} {e : Env} {R : Room} {s : State} {m : MethodId} {args : Array Value} {below : List Frame} {meth : Method} {c : Code} {Q : State → Prop} {H0 : Heap}, rx_Fr rxG rxNW rxAO PX p s m args meth c rxM210 → (∀ q, H0.size ≤ q → A q) → H0 = s.heap → rxM210.2.2.2.2.2.2.1 ≤ R.cells → rxM210.2.2.2.2.2.2.2 ≤ R.slots → rxCB1T.2.2.2.1 ≤ R.frames → rxCB1T.2.2.2.1 * 40 ≤ R.locals → bx_Step p l e R s m args below meth c Q Dg rxL X vwCl A xa H0 ad rxM210 rxYB1T (rxIB1T S0 ws) (rxmB1T S0 ws) S0 rxCB1T.2.2.1 i q := by
  intro i q hq hus p e R s m args below meth c Q H0 hF hA hH0 hmc hms hd hdl
  match i, hq with
  | 0, hq =>
    cases hq
    exact absurd (show false = true from hus) Bool.false_ne_true
  | 1, hq =>
    cases hq
    exact rx_stepC (ins := .invokevirtual 110) (len := 3) (i_p := 2) (M_p := rxM110) (d := rxCB1T.2.2.2.1) (as := [.inr (3, (0, 0)), .inr (0, (0, (-2)))]) (t := []) (ct := rxC110) hPX hF rfl hA hH0 hmc hms hd hdl (by decide +kernel) rfl rfl (by decide +kernel) (by decide +kernel) hQ110 (by decide +kernel) rfl (Or.inr ⟨_, _, _, 1, rfl, rfl, by omega, rfl, rfl, rfl⟩) (rxsB1T_1 hP)
  | 2, hq =>
    cases hq
    exact absurd (show false = true from hus) Bool.false_ne_true
  | 3, hq =>
    cases hq
    exact rx_stepC (ins := .invokevirtual 431) (len := 3) (i_p := 4) (M_p := rxM154) (d := rxCB1T.2.2.2.1) (as := [.inr (3, (0, 1)), .inr (3, (0, 274))]) (t := []) (ct := rxCCZ1x274) hPX hF rfl hA hH0 hmc hms hd hdl (by decide +kernel) rfl rfl (by decide +kernel) (by decide +kernel) hQCZ1x274 (by decide +kernel) rfl (Or.inl ⟨rfl, rfl, rfl⟩) (rxsB1T_3 hP)
  | 4, hq =>
    cases hq
    exact absurd (show false = true from hus) Bool.false_ne_true
  | n + 5, hq => cases hq
theorem rxQB1T {PX : State → Prop} {Dg : va_G} {A : Nat → Prop} {ad xa : Nat → Nat} {l : Launch} {X : (Nat → Int → Int) → Prop} (hPX : rx_PXOK rxNW A PX) (hsl : ∀ s : State, PX s → ∀ o idx n : Nat, rxSl o idx = some n → ∃ tx : String, vk_R (rxNm o) idx tx (ad n) s)
    (hX : ∀ S S_p : Nat → Int → Int, X S → bx_same rxL (bx_mdl rxCB1T.2.2.1) S S_p → X S_p)
    (ih : ∀ (j2 : Nat) (ct2 : bx_Ct) (M2 : rx_Mt), ct2 ∈ rxCnE j2 → ct2.2.2.2.1 + 1 ≤ rxCB1T.2.2.2.1 → rxT.2.2.2.2.2 j2 = some M2 → bx_Con rxG rxNW rxAO PX Dg rxL X vwCl A ad l M2 ct2) (hQ110 : bx_ConP rxG rxNW rxAO PX Dg rxL X vwCl A ad l rxM110 rxC110 rxP110 rxPS110) (hQCZ1x274 : bx_ConP rxG rxNW rxAO PX Dg rxL X vwCl A ad l rxM154 rxCCZ1x274 rxPCZ1x274 rxPSCZ1x274) : bx_ConP rxG rxNW rxAO PX Dg rxL X vwCl A ad l rxM210 rxCB1T rxPB1T rxPSB1T :=
  rxQof (xa := xa) (Cn := rxCnE) (f := 30000) (j := 210) (tab := rxYB1T) (us := rxUB1T) hPX hsl hX ih rfl rxYcB1T rxIB1T rxmB1T
    (fun S0 ws r I0 I ht0 ht as he he1 hX0 hI0 hP hs ha => by
      have e := he.symm.trans (show bx_ent0 rxNP rxCB1T.1 bx_I0 [] = some ([(0, 0), (0, 0), (0, 0), (0, 0), (0, 0), (0, 0), (0, 0), (0, 0), (1, 1)], [], [.inr (3, (0, 0)), .inr (0, (8, 0))]) from rfl)
      cases e
      subst ha
      have h0 : r 0 = 0 := hs.1
      show rxIB1T_0 S0 _ S0 (r 8)
      refine ⟨rfl, ?_⟩
      simp only [List.map_cons, List.map_nil, bx_xv_ok h0]
      rfl)
    (fun S0 ws hP => rxuB1T (xa := xa) hPX hX hQ110 hQCZ1x274 hP) (fun S0 ws hP => rxgCB1T hP) (fun S0 ws hP => rxgEB1T hP)
def rzPS210T (S0 : Nat → Int → Int) (ws : List Int) (S : Nat → Int → Int) (w : Option Int) : Prop := ∃ k : Int, ws = [0, k] ∧ ((k = 0 ∧ rxPSB0T S0 [0, 0] S w) ∨ (k = 1 ∧ rxPSB1T S0 [0, 1] S w) ∨ ((k < 0 ∨ 1 < k) ∧ rxPS210 S0 [0, k] S w))
set_option maxHeartbeats 2000000 in
theorem rzQ210T {PX : State → Prop} {Dg : va_G} {A : Nat → Prop} {ad : Nat → Nat} {l : Launch} (hPX : rx_PXOK rxNW A PX) (hsl : ∀ s : State, PX s → ∀ o idx n : Nat, rxSl o idx = some n → ∃ tx : String, vk_R (rxNm o) idx tx (ad n) s) (ih : ∀ (j : Nat) (ct : bx_Ct) (M : rx_Mt), ct ∈ rxCn j → rxT.2.2.2.2.2 j = some M → bx_Con rxG rxNW rxAO PX Dg rxL rxX vwCl A ad l M ct) : bx_ConP rxG rxNW rxAO PX Dg rxL rxX vwCl A ad l rxM210 rxC210 (fun S0 _ => rkPl S0) rzPS210T := by
  have q110 := rxQ110 (PX := PX) (Dg := Dg) (A := A) (ad := ad) (xa := fun n => n) (l := l) (X := rxX) hPX hsl (fun _ _ h hm => rxX_of (by decide +kernel) h hm) (fun _ _ _ h => absurd h List.not_mem_nil)
  have qsc := rxQSCZ (PX := PX) (Dg := Dg) (A := A) (ad := ad) (xa := fun n => n) (l := l) (X := rxX) hPX hsl (fun _ _ h hm => rxX_of (by decide +kernel) h hm) (fun _ _ _ h => absurd h List.not_mem_nil)
  have qqc := rxQQCZ (PX := PX) (Dg := Dg) (A := A) (ad := ad) (xa := fun n => n) (l := l) (X := rxX) hPX hsl (fun _ _ h hm => rxX_of (by decide +kernel) h hm) (fun _ _ _ h => absurd h List.not_mem_nil)
  have qp0 := rxQPC5x142 (PX := PX) (Dg := Dg) (A := A) (ad := ad) (xa := fun n => n) (l := l) (X := rxX) hPX hsl (fun _ _ h hm => rxX_of (by decide +kernel) h hm) (fun _ _ _ h => absurd h List.not_mem_nil)
  have qd0 := rxQDC14x151 (PX := PX) (Dg := Dg) (A := A) (ad := ad) (xa := fun n => n) (l := l) (X := rxX) hPX hsl (fun _ _ h hm => rxX_of (by decide +kernel) h hm) (fun _ _ _ h => absurd h List.not_mem_nil)
  have qc0 := rxQCZ1x138 (PX := PX) (Dg := Dg) (A := A) (ad := ad) (xa := fun n => n) (l := l) (X := rxX) hPX hsl (fun _ _ h hm => rxX_of (by decide +kernel) h hm) (fun _ _ _ h => absurd h List.not_mem_nil) qsc qp0 qd0 qqc
  have qi0 := rxQB0T (PX := PX) (Dg := Dg) (A := A) (ad := ad) (xa := fun n => n) (l := l) (X := rxX) hPX hsl (fun _ _ h hm => rxX_of (by decide +kernel) h hm) (fun _ _ _ h => absurd h List.not_mem_nil) q110 qc0
  have qp1 := rxQPC5x278 (PX := PX) (Dg := Dg) (A := A) (ad := ad) (xa := fun n => n) (l := l) (X := rxX) hPX hsl (fun _ _ h hm => rxX_of (by decide +kernel) h hm) (fun _ _ _ h => absurd h List.not_mem_nil)
  have qd1 := rxQDC14x287 (PX := PX) (Dg := Dg) (A := A) (ad := ad) (xa := fun n => n) (l := l) (X := rxX) hPX hsl (fun _ _ h hm => rxX_of (by decide +kernel) h hm) (fun _ _ _ h => absurd h List.not_mem_nil)
  have qc1 := rxQCZ1x274 (PX := PX) (Dg := Dg) (A := A) (ad := ad) (xa := fun n => n) (l := l) (X := rxX) hPX hsl (fun _ _ h hm => rxX_of (by decide +kernel) h hm) (fun _ _ _ h => absurd h List.not_mem_nil) qsc qp1 qd1 qqc
  have qi1 := rxQB1T (PX := PX) (Dg := Dg) (A := A) (ad := ad) (xa := fun n => n) (l := l) (X := rxX) hPX hsl (fun _ _ h hm => rxX_of (by decide +kernel) h hm) (fun _ _ _ h => absurd h List.not_mem_nil) q110 qc1
  have qg := rxQ210 (PX := PX) (Dg := Dg) (A := A) (ad := ad) (xa := fun n => n) (l := l) (X := rxX) hPX hsl (fun _ _ h hm => rxX_of (by decide +kernel) h hm) (fun j2 ct2 M2 hc hd hM => ih j2 ct2 M2 hc hM) q110
  intro S0 ws hX ha hpre hP Qc hQ
  obtain ⟨w0, wt, rfl, e0, k, wt2, rfl, hk, rfl⟩ := ha
  have e0 : w0 = 0 + 0 := e0
  have e1 : w0 = 0 := by omega
  subst e1
  rcases (show k = 0 ∨ k = 1 ∨ (k < 0 ∨ 1 < k) by omega) with rfl | rfl | h
  · refine qi0 S0 [0, 0] hX ⟨0, _, rfl, rfl, 0, _, rfl, (show (0 : Int) ≤ 0 ∧ (0 : Int) ≤ 0 from ⟨Int.le_refl _, Int.le_refl _⟩), rfl⟩ hpre hP Qc fun x st oc t h => hQ x st oc t ?_
    obtain ⟨⟨S_p, rv, g1, g2, g3, g4, g5, w, g6, g7⟩, g8⟩ := h
    exact ⟨⟨S_p, rv, g1, g2, g3, g4, g5, w, ⟨0, rfl, Or.inl ⟨rfl, g6⟩⟩, g7⟩, g8⟩
  · refine qi1 S0 [0, 1] hX ⟨0, _, rfl, rfl, 1, _, rfl, (show (1 : Int) ≤ 1 ∧ (1 : Int) ≤ 1 from ⟨Int.le_refl _, Int.le_refl _⟩), rfl⟩ hpre hP Qc fun x st oc t h => hQ x st oc t ?_
    obtain ⟨⟨S_p, rv, g1, g2, g3, g4, g5, w, g6, g7⟩, g8⟩ := h
    exact ⟨⟨S_p, rv, g1, g2, g3, g4, g5, w, ⟨1, rfl, Or.inr (Or.inl ⟨rfl, g6⟩)⟩, g7⟩, g8⟩
  · refine qg S0 [0, k] hX ⟨0, _, rfl, rfl, k, _, rfl, hk, rfl⟩ hpre ⟨k, rfl, h⟩ Qc fun x st oc t h2 => hQ x st oc t ?_
    obtain ⟨⟨S_p, rv, g1, g2, g3, g4, g5, w, g6, g7⟩, g8⟩ := h2
    exact ⟨⟨S_p, rv, g1, g2, g3, g4, g5, w, ⟨k, rfl, Or.inr (Or.inr ⟨h, g6⟩)⟩, g7⟩, g8⟩
end
section
/-! images -/
section RKKI
variable {S0 S1 S S_p : Nat → Int → Int}
end RKKI
/-! the reference's image, back -/
section RKKJ
end RKKJ
section RKKK
end RKKK
/-! where both begin -/
theorem rkTl_st {row b : Nat} (h : ∀ i : Nat, i < 6 → rzS row (i : Int) = ((b + 10 * i : Nat) : Int) ∧ (rzS (b + 10 * i) 8 = ((b + 10 * i : Nat) : Int) + 7 ∧ rzS (b + 10 * i) 9 = ((b + 10 * i : Nat) : Int) + 8 ∧ rzS (b + 10 * i) 10 = ((b + 10 * i : Nat) : Int) + 9)) : rkTl rzS row b := h
theorem rkSl_st {row b n : Nat} (h : ∀ i : Nat, i < n → rzS row (i : Int) = ((b + 3 * i : Nat) : Int) ∧ (rzS (b + 3 * i) 0 = ((b + 3 * i + 1 : Nat) : Int) ∧ rzS (b + 3 * i) 1 = ((b + 3 * i + 2 : Nat) : Int))) : rkSl rzS row b n := h
theorem rkPl_st : rkPl rzS :=
  ⟨⟨⟨by decide +kernel, by decide +kernel, by decide +kernel⟩, rkTl_st (by decide +kernel), rkTl_st (by decide +kernel), rkTl_st (by decide +kernel)⟩, ⟨rkSl_st (by decide +kernel), rkSl_st (by decide +kernel)⟩, ⟨rkSl_st (by decide +kernel), rkSl_st (by decide +kernel)⟩, ⟨rkSl_st (by decide +kernel), rkSl_st (by decide +kernel)⟩⟩
end
section
/-! A LONG MADE AN INT, by hand with its exact answer -/
def bx_opvU (_ : Nat) (a _ : Int) : Int := (Int32.ofInt a).toInt
def bx_opcU (_ : Nat) (_ _ : Int) : Prop := True
section RXOP
variable {PX : State → Prop} {Dg : va_G} {A : Nat → Prop} {ad xa : Nat → Nat} {l : Launch} {X : (Nat → Int → Int) → Prop}
variable {p : Program} {e : Env} {R : Room} {s : State} {m : MethodId} {args : Array Value} {below : List Frame} {meth : Method} {c : Code} {Q : State → Prop} {H0 : Heap}
def rx_obBU (X : (Nat → Int → Int) → Prop) (Sin : Nat → Int → Int) (ms : List (Nat × Nat)) (inv : Nat → bx_SP) (mea : Nat → (Nat → Int → Int) → (Nat → Int) → Nat) (i i_p : Nat) (z : rx_Z) (o : Nat) (a b : rx_E) (lo hi : Int) : Prop :=
  ∀ (S : Nat → Int → Int) (r : Nat → Int), inv i S r → X S → bx_Inv rxL S → bx_same rxL (bx_mdl ms) Sin S → rx_sat z.1 r → rx_facts z.2.1 r →
    bx_opcU o (rx_ev r a) (rx_ev r b) ∧ ∀ r_p : Nat → Int, rx_same z.1.length r r_p → r_p 0 = 0 → r_p z.1.length = bx_opvU o (rx_ev r a) (rx_ev r b) → (lo ≤ r_p z.1.length ∧ r_p z.1.length ≤ hi) ∧ inv i_p S r_p ∧ mea i_p S r_p < mea i S r
theorem rx_stepBU {M : rx_Mt} {tab : List bx_HE} {inv : Nat → bx_SP} {mea : Nat → (Nat → Int → Int) → (Nat → Int) → Nat} {Sin : Nat → Int → Int} {ms : List (Nat × Nat)} {i i_p o : Nat} {ins : Instr} {z : rx_Z} {os : List bx_HO} {es : List (rx_End × List (Nat × Int × Int))} {q_p : bx_HE} {a b : rx_E} {lo hi : Int} {t : List rx_V}
    (hF : rx_Fr rxG rxNW rxAO PX p s m args meth c M) (ho : o = 45 ∧ ins = .l2i) (hdg : decode M.2.1 (rx_zpc z) = .ok (ins, 1)) (hne : bx_noE z.2.2.1 = true) (hst : rx_zst z = .inr (1, a) :: t)
    (htab : tab[i_p]? = some q_p) (hq' : rx_nxI (z.1 ++ [(lo, hi)]) z 1 (.inr (0, (z.1.length, 0)) :: t) = q_p.1) (hob : rx_obBU X Sin ms inv mea i i_p z o a b lo hi) :
    bx_Step p l e R s m args below meth c Q Dg rxL X vwCl A xa H0 ad M tab inv mea Sin ms i (z, os, es) := by
  intro S r H locs ls hinv hXS hsin hR K
  obtain ⟨Sq, ⟨ws0, tys0, hInv0, hrest0⟩, -, ⟨-, hch0⟩, -⟩ := id hR.2.2.2.1
  have eSq : Sq = S := bx_noE_eq hne (hch0 rfl)
  rw [eSq] at hInv0
  have hInv0 : bx_Inv rxL S := hInv0
  obtain ⟨o1, o2⟩ := hob S r hinv hXS hInv0 hsin hR.1 hR.2.1
  obtain ⟨b1, b2, b3⟩ := o2 (rx_up r z.1.length (Int32.ofInt (rx_ev r a)).toInt) rx_up_same ((rx_up_same 0 (rx_pos hR.1)).trans hR.1.1) rx_up_self
  rw [rx_up_self] at b1
  have hsat := rx_sat_up (lo := lo) (hi := hi) hR.1 b1.1 b1.2
  have hsc := rx_stsc hR
  rw [hst] at hsc
  have ht2 : ∀ v ∈ t, rx_sc z.1.length z.2.2.1.length v := fun v hv => hsc v (List.mem_cons_of_mem _ hv)
  have hlen : z.1.length ≤ (z.1 ++ [(lo, hi)]).length := by simp
  have hN := rx_R_nxI (d := 1) (st := .inr (0, (z.1.length, 0)) :: t) hR hlen rx_up_same hsat (fun v hv => by
    rcases List.mem_cons.mp hv with h | h
    · subst h
      show z.1.length < (z.1 ++ [(lo, hi)]).length
      simp
    · exact rx_sc.mono (ht2 v h) hlen trivial)
  rw [hq'] at hN
  have k := K i_p q_p S _ H locs ls htab b2 b3 hXS hsin hN
  rw [← hq'] at k
  have ev : rx_iv (rx_up r z.1.length (Int32.ofInt (rx_ev r a)).toInt) ad xa (.inr (0, (z.1.length, 0))) = Value.int (Int32.ofInt (rx_ev r a)) := by
    show Value.int (Int32.ofInt (rx_ev _ (z.1.length, 0))) = _
    unfold rx_ev
    rw [rx_up_self, Int.add_zero, Int32.ofInt_toInt]
  have et := rx_st_ext (ad := ad) (ad' := ad) (xa := xa) ht2 (rx_up_same (r := r) (n := z.1.length) (z := (Int32.ofInt (rx_ev r a)).toInt)) rx_sameA.rf
  have row : W p l e R s m args below meth c H locs z.2.2.2.1 z.2.2.2.2.1 Q (F0 m (rx_zpc z + 1) ls (.int (Int32.ofInt (rx_ev r a)) :: t.map (rx_iv r ad xa))) → W p l e R s m args below meth c H locs z.2.2.2.1 z.2.2.2.2.1 Q (F0 m (rx_zpc z) ls (.long (Int64.ofInt (rx_ev r a)) :: t.map (rx_iv r ad xa))) := fun k => by
    obtain ⟨h1, h2⟩ := ho
    subst h1
    subst h2
    exact lv_l2i hF.1 hF.2.1 hdg Int64.toInt32_ofInt k
  rw [hst]
  refine row ?_
  rw [← ev, ← et]
  obtain ⟨zI, zF, zh, zc, zs, zp, zl, zt⟩ := z
  exact k
end RXOP
end
section
/-! INTS: divided, by hand with its exact answer -/
def bx_opvD (_ : Nat) (a b : Int) : Int := a / b
def bx_opcD (_ : Nat) (a b : Int) : Prop := (0 ≤ a ∧ a ≤ 2147483647) ∧ 0 < b ∧ b ≤ 2147483647
theorem bx_opvD_ok {o : Nat} {a b : Int} (_ho : o = 36) (h : bx_opcD o a b) : (rx_op 3 (Int32.ofInt a) (Int32.ofInt b)).toInt = bx_opvD o a b := by
  obtain ⟨ha, hb⟩ := h
  have ea := bx_toI (a := a) (by omega)
  have eb := bx_toI (a := b) (by omega)
  show (Int32.ofInt a / Int32.ofInt b).toInt = a / b
  rw [Int32.toInt_div, ea, eb, Int.tdiv_eq_ediv_of_nonneg ha.1]
  have h1 := Int.ediv_nonneg ha.1 (Int.le_of_lt hb.1)
  have h2 := Int.ediv_le_self b ha.1
  exact rx_bmod0 (by omega) (by omega)
section RXOP
variable {PX : State → Prop} {Dg : va_G} {A : Nat → Prop} {ad xa : Nat → Nat} {l : Launch} {X : (Nat → Int → Int) → Prop}
variable {p : Program} {e : Env} {R : Room} {s : State} {m : MethodId} {args : Array Value} {below : List Frame} {meth : Method} {c : Code} {Q : State → Prop} {H0 : Heap}
def rx_obBD (X : (Nat → Int → Int) → Prop) (Sin : Nat → Int → Int) (ms : List (Nat × Nat)) (inv : Nat → bx_SP) (mea : Nat → (Nat → Int → Int) → (Nat → Int) → Nat) (i i_p : Nat) (z : rx_Z) (o : Nat) (a b : rx_E) (lo hi : Int) : Prop :=
  ∀ (S : Nat → Int → Int) (r : Nat → Int), inv i S r → X S → bx_Inv rxL S → bx_same rxL (bx_mdl ms) Sin S → rx_sat z.1 r → rx_facts z.2.1 r →
    bx_opcD o (rx_ev r a) (rx_ev r b) ∧ ∀ r_p : Nat → Int, rx_same z.1.length r r_p → r_p 0 = 0 → r_p z.1.length = bx_opvD o (rx_ev r a) (rx_ev r b) → (lo ≤ r_p z.1.length ∧ r_p z.1.length ≤ hi) ∧ inv i_p S r_p ∧ mea i_p S r_p < mea i S r
theorem rx_stepBD {M : rx_Mt} {tab : List bx_HE} {inv : Nat → bx_SP} {mea : Nat → (Nat → Int → Int) → (Nat → Int) → Nat} {Sin : Nat → Int → Int} {ms : List (Nat × Nat)} {i i_p o : Nat} {ins : Instr} {z : rx_Z} {os : List bx_HO} {es : List (rx_End × List (Nat × Int × Int))} {q_p : bx_HE} {a b : rx_E} {lo hi : Int} {t : List rx_V}
    (hF : rx_Fr rxG rxNW rxAO PX p s m args meth c M) (ho : o = 36 ∧ ins = .idiv) (hdg : decode M.2.1 (rx_zpc z) = .ok (ins, 1)) (hne : bx_noE z.2.2.1 = true) (hst : rx_zst z = .inr (0, b) :: .inr (0, a) :: t)
    (htab : tab[i_p]? = some q_p) (hq' : rx_nxI (z.1 ++ [(lo, hi)]) z 1 (.inr (0, (z.1.length, 0)) :: t) = q_p.1) (hob : rx_obBD X Sin ms inv mea i i_p z o a b lo hi) :
    bx_Step p l e R s m args below meth c Q Dg rxL X vwCl A xa H0 ad M tab inv mea Sin ms i (z, os, es) := by
  intro S r H locs ls hinv hXS hsin hR K
  obtain ⟨Sq, ⟨ws0, tys0, hInv0, hrest0⟩, -, ⟨-, hch0⟩, -⟩ := id hR.2.2.2.1
  have eSq : Sq = S := bx_noE_eq hne (hch0 rfl)
  rw [eSq] at hInv0
  have hInv0 : bx_Inv rxL S := hInv0
  obtain ⟨o1, o2⟩ := hob S r hinv hXS hInv0 hsin hR.1 hR.2.1
  have hv := bx_opvD_ok ho.1 o1
  have hb0 : ¬ Int32.ofInt (rx_ev r b) = 0 := fun hz => by
    have h1 : 0 < rx_ev r b ∧ rx_ev r b ≤ 2147483647 := o1.2
    have h2 := bx_toI (a := rx_ev r b) (by omega)
    rw [hz] at h2
    have h3 : (0 : Int32).toInt = 0 := rfl
    omega
  obtain ⟨b1, b2, b3⟩ := o2 (rx_up r z.1.length (rx_op (3) (Int32.ofInt (rx_ev r a)) (Int32.ofInt (rx_ev r b))).toInt) rx_up_same ((rx_up_same 0 (rx_pos hR.1)).trans hR.1.1) (rx_up_self.trans hv)
  rw [rx_up_self] at b1
  have hsat := rx_sat_up (lo := lo) (hi := hi) hR.1 b1.1 b1.2
  have hsc := rx_stsc hR
  rw [hst] at hsc
  have ht2 : ∀ v ∈ t, rx_sc z.1.length z.2.2.1.length v := fun v hv => hsc v (List.mem_cons_of_mem _ (List.mem_cons_of_mem _ hv))
  have hlen : z.1.length ≤ (z.1 ++ [(lo, hi)]).length := by simp
  have hN := rx_R_nxI (d := 1) (st := .inr (0, (z.1.length, 0)) :: t) hR hlen rx_up_same hsat (fun v hv => by
    rcases List.mem_cons.mp hv with h | h
    · subst h
      show z.1.length < (z.1 ++ [(lo, hi)]).length
      simp
    · exact rx_sc.mono (ht2 v h) hlen trivial)
  rw [hq'] at hN
  have k := K i_p q_p S _ H locs ls htab b2 b3 hXS hsin hN
  rw [← hq'] at k
  have ev : rx_iv (rx_up r z.1.length (rx_op (3) (Int32.ofInt (rx_ev r a)) (Int32.ofInt (rx_ev r b))).toInt) ad xa (.inr (0, (z.1.length, 0))) = Value.int (rx_op (3) (Int32.ofInt (rx_ev r a)) (Int32.ofInt (rx_ev r b))) := by
    show Value.int (Int32.ofInt (rx_ev _ (z.1.length, 0))) = _
    unfold rx_ev
    rw [rx_up_self, Int.add_zero, Int32.ofInt_toInt]
  have et := rx_st_ext (ad := ad) (ad' := ad) (xa := xa) ht2 (rx_up_same (r := r) (n := z.1.length) (z := (rx_op (3) (Int32.ofInt (rx_ev r a)) (Int32.ofInt (rx_ev r b))).toInt)) rx_sameA.rf
  have row : W p l e R s m args below meth c H locs z.2.2.2.1 z.2.2.2.2.1 Q (F0 m (rx_zpc z + 1) ls (.int (rx_op (3) (Int32.ofInt (rx_ev r a)) (Int32.ofInt (rx_ev r b))) :: t.map (rx_iv r ad xa))) → W p l e R s m args below meth c H locs z.2.2.2.1 z.2.2.2.2.1 Q (F0 m (rx_zpc z) ls (.int (Int32.ofInt (rx_ev r b)) :: .int (Int32.ofInt (rx_ev r a)) :: t.map (rx_iv r ad xa))) := fun k => by
    obtain ⟨h1, h2⟩ := ho
    subst h1
    subst h2
    exact lv_idiv hF.1 hF.2.1 hdg hb0 k
  rw [hst]
  refine row ?_
  rw [← ev, ← et]
  obtain ⟨zI, zF, zh, zc, zs, zp, zl, zt⟩ := z
  exact k
end RXOP
end
