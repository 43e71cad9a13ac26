/-! CONTRACT BY HAND, by program (wip/sim/genhand.py): DeadUnderstudies.image -/
def rxCI0 : bx_Ct := ([(3, (1, 0, 0)), (0, (0, 0, 0))], some (0, (0, (-6), 0)), [(2, 0), (5, 0), (6, 0), (6, 4), (10, 0), (10, 5), (10, 10), (10, 14), (10, 15), (11, 8), (1000, 0), (1001, 0), (1003, 0), (1004, 0), (1005, 0), (1006, 0), (1007, 0), (1008, 0), (1010, 0), (1011, 0), (1012, 0), (1013, 0), (1015, 0), (1019, 0), (1020, 0), (1021, 0), (1022, 0), (1024, 0), (1025, 0), (1026, 0), (1027, 0), (1031, 0), (1037, 0)], 3, [])
def rxII0_0 (S0 : Nat → Int → Int) (ws : List Int) (S : Nat → Int → Int) (ki : Int) : Prop := S = S0 ∧ ws = [0, ki]
def rxmI0_0 (S0 : Nat → Int → Int) (ws : List Int) (S : Nat → Int → Int) (ki : Int) : Nat := 100
def rxzI0_0 : rx_Z := ([(0, 0), (0, 0), (0, 0), (0, 0), (0, 0), (0, 0), (0, 0), (0, 0), (0, 0)], [], [], 0, 0, 0, [(0, .inr (3, (0, 0))), (1, .inr (0, (8, 0)))], [])
def rxII0_1 (S0 : Nat → Int → Int) (ws : List Int) (S : Nat → Int → Int) (ki : Int) : Prop := S = S0
def rxmI0_1 (S0 : Nat → Int → Int) (ws : List Int) (S : Nat → Int → Int) (ki : Int) : Nat := 50
def rxzI0_1 : rx_Z := ([(0, 0), (0, 0), (0, 0), (0, 0), (0, 0), (0, 0), (0, 0), (0, 0), (0, 0)], [], [], 0, 0, 25, [(0, .inr (3, (0, 0))), (1, .inr (0, (8, 0)))], [.inr (3, (0, 1)), .inr (3, (0, 138))])
def rxII0_2 (S0 : Nat → Int → Int) (ws : List Int) (S : Nat → Int → Int) (ki : Int) : Prop := rxPSCF138x1 S0 [138, 1] S none ∧ ∀ n : Nat, n < 2 → S 410 (n : Int) = S0 410 (n : Int)
def rxmI0_2 (S0 : Nat → Int → Int) (ws : List Int) (S : Nat → Int → Int) (ki : Int) : Nat := 20
def rxzI0_2 : rx_Z := ([(0, 0), (0, 0), (0, 0), (0, 0), (0, 0), (0, 0), (0, 0), (0, 0), (0, 0)], [], [], 0, 0, 28, [(0, .inr (3, (0, 0))), (1, .inr (0, (8, 0)))], [])
def rxoI0_0_0 : bx_HO := (([(0, 0), (0, 0), (0, 0), (0, 0), (0, 0), (0, 0), (0, 0), (0, 0), (0, 0)], [], [(((0, 0), 0), .inr (3, (0, 1))), (((0, 137), 0), .inr (3, (0, 138))), (((0, 0), 1), .inr (3, (0, 137)))], 0, 0, 25, [(0, .inr (3, (0, 0))), (1, .inr (0, (8, 0)))], [.inr (3, (0, 1)), .inr (3, (0, 138))]), [], [], [(0, 0), (0, 0), (0, 0), (0, 0), (0, 0), (0, 0), (0, 0), (0, 0), (8, 0)], 1)
def rxeI0_2_0 : rx_End × List (Nat × Int × Int) := (([(0, 0), (0, 0), (0, 0), (0, 0), (0, 0), (0, 0), (0, 0), (0, 0), (0, 0)], [], [(((0, 0), 1851192626986356799029993984671224184301589730656725205983952899000000), .inr (0, (0, 0))), (((0, 0), 8), .inr (0, (0, 0))), (((0, 0), 1851192626986356797424364830707437625680387377997778265106415619000000), .inr (0, (0, 1))), (((0, 410), 0), .inr (0, (0, 1))), (((0, 0), 2), .inr (3, (0, 410)))], some (.inr (0, (0, 0)))), [])
def rxYI0 : List bx_HE := [(rxzI0_0, [rxoI0_0_0], []), (rxzI0_1, [], []), (rxzI0_2, [], [rxeI0_2_0])]
def rxUI0 (q : bx_HE) : Bool := Nat.beq (rx_zpc q.1) 25
def rxYBI0 : bx_B := (rxV, rxNP, rxDmf, bx_mdH rxCI0.2.2.1)
set_option maxRecDepth 100000 in
theorem rxYcI0 : bx_chkH rxYBI0 rxM208 rxCI0 rxYI0 (rxUI0, fun cut z => rx_ex2 (rxCT rxYBI0 rxCnE) cut 30000 rxCI0.2.2.2.1 208 z) = true := by decide +kernel
def rxII0 (S0 : Nat → Int → Int) (ws : List Int) (i : Nat) : bx_SP := fun S r => match i with | 0 => rxII0_0 S0 ws S (r 8) | 1 => rxII0_1 S0 ws S (r 8) | 2 => rxII0_2 S0 ws S (r 8) | _ => False
def rxmI0 (S0 : Nat → Int → Int) (ws : List Int) (i : Nat) (S : Nat → Int → Int) (r : Nat → Int) : Nat := match i with | 0 => rxmI0_0 S0 ws S (r 8) | 1 => rxmI0_1 S0 ws S (r 8) | 2 => rxmI0_2 S0 ws S (r 8) | _ => 0
def rxPI0 (S0 : Nat → Int → Int) (ws : List Int) : Prop := True
def rxPSI0 (S0 : Nat → Int → Int) (ws : List Int) (S : Nat → Int → Int) (w : Option Int) : Prop := ∃ S1 : Nat → Int → Int, (rxPSCF138x1 S0 [138, 1] S1 none ∧ ∀ n : Nat, n < 2 → S1 410 (n : Int) = S0 410 (n : Int)) ∧ S = bx_up (bx_up S1 410 0 1) 0 8 0 ∧ w = some 0
theorem rxkI0_1 {S0 : Nat → Int → Int} {ws : List Int} {S : Nat → Int → Int} {ki : Int} (hP : rxPI0 S0 ws) (hin : bx_same rxL (bx_mdl rxCI0.2.2.1) S0 S) (I0 : bx_Inv rxL S) (hinv : rxII0_1 S0 ws S ki) (l8 : 0 ≤ ki) (u8 : ki ≤ 0) : rxPCF138x1 S [138, 1] ∧ ∀ (S_p : Nat → Int → Int), rxPSCF138x1 S [138, 1] S_p none → bx_Inv rxL S_p → bx_same rxL (bx_mdl rxCCF138x1.2.2.1) S S_p → rxII0_2 S0 ws S_p ki ∧ rxmI0_2 S0 ws S_p ki < rxmI0_1 S0 ws S ki := by
  subst hinv
  refine ⟨trivial, fun S_p hq _ hsm => ⟨⟨hq, fun n hn => hsm 410 n (by decide) hn ?_⟩, by unfold rxmI0_1 rxmI0_2; omega⟩⟩
  have e : bx_mc (rxL.1 410) n = (1031, if n < 780 then 0 else 1) := rfl
  rw [e, if_pos (by omega)]
  decide +kernel
theorem rxsI0_1 {X : (Nat → Int → Int) → Prop} {S0 : Nat → Int → Int} {ws : List Int} (hP : rxPI0 S0 ws) : rx_obK X S0 rxCI0.2.2.1 rxCCF138x1.2.2.1 (rxII0 S0 ws) (rxmI0 S0 ws) 1 2 rxzI0_1 rxzI0_2 [.inr (3, (0, 138)), .inr (3, (0, 1))] none rxPCF138x1 rxPSCF138x1 := by
  intro S r hinv hXS I0 hin hs_ hf_
  have b_ := bx_bds_sat hs_
  have f_ := bx_fcl_ok hs_.1 hf_
  obtain ⟨⟨l8, u8⟩, -⟩ := b_
  have g := rxkI0_1 hP hin I0 hinv l8 u8
  have ea : List.map (bx_num r) [.inr (3, (0, 138)), .inr (3, (0, 1))] = [138, 1] := by
    simp only [List.map_cons, List.map_nil, bx_xv_ok hs_.1]
    rfl
  rw [ea]
  refine ⟨g.1, fun S_p w r_p hPS hX_p I1 hsm hr hw hs_p => ?_⟩
  have hw : w = none := hPS.1
  subst hw
  have g2 := g.2 S_p hPS I1 hsm
  show rxII0_2 S0 ws S_p (r_p 8) ∧ rxmI0_2 S0 ws S_p (r_p 8) < _
  rw [hr 8 (by decide)]
  exact g2
theorem rxcI0_0_0 {S0 : Nat → Int → Int} {ws : List Int} {S : Nat → Int → Int} {ki : Int} (hP : rxPI0 S0 ws) (hin : bx_same rxL (bx_mdl rxCI0.2.2.1) S0 S) (I0 : bx_Inv rxL S) (hinv : rxII0_0 S0 ws S ki) (l8 : 0 ≤ ki) (u8 : ki ≤ 0) : (True) ∧ (True) ∧ rxII0_1 S0 ws S ki ∧ rxmI0_1 S0 ws S ki < rxmI0_0 S0 ws S ki := by
  obtain ⟨rfl, hw⟩ := hinv
  exact ⟨trivial, trivial, rfl, by unfold rxmI0_0 rxmI0_1; omega⟩
theorem rxgI0_0_0 {X : (Nat → Int → Int) → Prop} {S0 : Nat → Int → Int} {ws : List Int} (hP : rxPI0 S0 ws) : bx_obC rxL X S0 rxCI0.2.2.1 (rxII0 S0 ws) (rxmI0 S0 ws) 0 rxzI0_0 rxoI0_0_0 := by
  intro S S_p r r_p hinv hX hin hsm_ hseg
  obtain ⟨I0, I1, h0_, hr_, b_, f_, d_⟩ := bx_cl (evs := []) (fvs := []) hseg (by decide +kernel) (by decide +kernel)
  have hinv : rxII0_0 S0 ws S (r 8) := hinv
  rw [← hr_ 8 (by decide)] at hinv
  obtain ⟨⟨l8, u8⟩, -⟩ := b_
  have w_ := d_
  subst w_
  have g := rxcI0_0_0 hP hin I0 hinv l8 u8
  refine ⟨bx_narP_ok (l := []) g.1, bx_nfP_ok h0_ (fvs := []) (by decide +kernel) g.2.1, ?_, ?_⟩
  · show rxII0_1 S0 ws S_p (bx_val [(0, 0), (0, 0), (0, 0), (0, 0), (0, 0), (0, 0), (0, 0), (0, 0), (8, 0)] r_p 8)
    rw [bx_val_x (n := 8) (e := (8, 0)) h0_ rfl]
    exact g.2.2.1
  · show rxmI0_1 S0 ws S_p (bx_val [(0, 0), (0, 0), (0, 0), (0, 0), (0, 0), (0, 0), (0, 0), (0, 0), (8, 0)] r_p 8) < rxmI0_0 S0 ws S_p (r 8)
    rw [bx_val_x (n := 8) (e := (8, 0)) h0_ rfl, ← hr_ 8 (by decide)]
    exact g.2.2.2
theorem rxdI0_2_0 {S0 : Nat → Int → Int} {ws : List Int} {S : Nat → Int → Int} {ki : Int} (hP : rxPI0 S0 ws) (hin : bx_same rxL (bx_mdl rxCI0.2.2.1) S0 S) (hin2 : bx_same rxL (bx_mdl rxCI0.2.2.1) S (bx_up (bx_up S 410 ki 1) 0 8 0)) (I0 : bx_Inv rxL S) (I1 : bx_Inv rxL (bx_up (bx_up S 410 ki 1) 0 8 0)) (hinv : rxII0_2 S0 ws S ki) (l8 : 0 ≤ ki) (u8 : ki ≤ 0) : (True) ∧ rxPSI0 S0 ws (bx_up (bx_up S 410 ki 1) 0 8 0) (some 0) := by
  have e : ki = 0 := by omega
  subst e
  exact ⟨trivial, S, hinv, rfl, rfl⟩
theorem rxfI0_2_0 {X : (Nat → Int → Int) → Prop} {S0 : Nat → Int → Int} {ws : List Int} (hP : rxPI0 S0 ws) : bx_obE rxL X S0 rxCI0.2.2.1 (rxII0 S0 ws) (rxPSI0 S0 ws) 2 rxzI0_2 rxeI0_2_0 := by
  intro S S_p r r_p hinv hX hin hsm_ hseg
  obtain ⟨I0, I1, h0_, hr_, b_, f_, d_⟩ := bx_cl (evs := [(1, (0, 0), (0, 8), .inr (0, (0, 0))), (1, (0, 410), (8, 0), .inr (0, (0, 1)))]) (fvs := []) hseg (by decide +kernel) (by decide +kernel)
  have hinv : rxII0_2 S0 ws S (r 8) := hinv
  rw [← hr_ 8 (by decide)] at hinv
  obtain ⟨⟨l8, u8⟩, -⟩ := b_
  obtain ⟨T0, ⟨T1, w_, w1⟩, w0⟩ := d_
  subst w0
  subst w1
  subst w_
  have g := rxdI0_2_0 hP hin hsm_ I0 I1 hinv l8 u8
  refine ⟨bx_narP_ok (l := []) g.1, ?_⟩
  show rxPSI0 S0 ws (bx_up (bx_up T1 410 (r_p 8) (1)) 0 (8) (0)) (some (bx_num r_p (.inr (0, (0, 0)))))
  rw [bx_xv_ok h0_]
  exact g.2
theorem rxgCI0 {X : (Nat → Int → Int) → Prop} {S0 : Nat → Int → Int} {ws : List Int} (hP : rxPI0 S0 ws) : bx_allI (fun i q => rxUI0 q = true ∨ bx_allP (fun o => bx_obC rxL X S0 rxCI0.2.2.1 (rxII0 S0 ws) (rxmI0 S0 ws) i q.1 o) q.2.1) 0 rxYI0 := ⟨Or.inr ⟨rxgI0_0_0 hP, trivial⟩, Or.inl rfl, Or.inr trivial, trivial⟩
theorem rxgEI0 {X : (Nat → Int → Int) → Prop} {S0 : Nat → Int → Int} {ws : List Int} (hP : rxPI0 S0 ws) : bx_allI (fun i q => rxUI0 q = true ∨ bx_allP (fun E => bx_obE rxL X S0 rxCI0.2.2.1 (rxII0 S0 ws) (rxPSI0 S0 ws) i q.1 E) q.2.2) 0 rxYI0 := ⟨Or.inr trivial, Or.inl rfl, Or.inr ⟨rxfI0_2_0 hP, trivial⟩, trivial⟩
theorem rxuI0 {PX : State → Prop} {Dg : va_G} {A : Nat → Prop} {ad xa : Nat → Nat} {l : Launch} {X : (Nat → Int → Int) → Prop} (hPX : rx_PXOK rxNW A PX) (hX : ∀ S S1 : Nat → Int → Int, X S → bx_same rxL (bx_mdl rxCI0.2.2.1) S S1 → X S1) (hQCF138x1 : bx_ConP rxG rxNW rxAO PX Dg rxL X vwCl A ad l rxM154 rxCCF138x1 rxPCF138x1 rxPSCF138x1) {S0 : Nat → Int → Int} {ws : List Int} (hP : rxPI0 S0 ws) : ∀ (i : Nat) (q : bx_HE), rxYI0[i]? = some q → rxUI0 q = true → ∀ {p : Program} {e : Env} {R : Room} {s : State} {m : MethodId} {args : Array Value} {below : List Frame} {meth : Method} {c : Code} {Q : State → Prop} {H0 : Heap}, rx_Fr rxG rxNW rxAO PX p s m args meth c rxM208 → (∀ q, H0.size ≤ q → A q) → H0 = s.heap → rxM208.2.2.2.2.2.2.1 ≤ R.cells → rxM208.2.2.2.2.2.2.2 ≤ R.slots → rxCI0.2.2.2.1 ≤ R.frames → rxCI0.2.2.2.1 * 40 ≤ R.locals → bx_Step p l e R s m args below meth c Q Dg rxL X vwCl A xa H0 ad rxM208 rxYI0 (rxII0 S0 ws) (rxmI0 S0 ws) S0 rxCI0.2.2.1 i q := by
  intro i q hq hus p e R s m args below meth c Q H0 hF hA hH0 hmc hms hd hdl
  match i, hq with
  | 0, hq =>
    cases hq
    exact absurd (show false = true from hus) Bool.false_ne_true
  | 1, hq =>
    cases hq
    exact rx_stepC (ins := .invokevirtual 431) (len := 3) (i_p := 2) (M_p := rxM154) (d := rxCI0.2.2.2.1) (as := [.inr (3, (0, 138)), .inr (3, (0, 1))]) (t := []) (ct := rxCCF138x1) hPX hF rfl hA hH0 hmc hms hd hdl (by decide +kernel) rfl rfl (by decide +kernel) (by decide +kernel) hQCF138x1 (by decide +kernel) rfl (Or.inl ⟨rfl, rfl, rfl⟩) (rxsI0_1 hP)
  | 2, hq =>
    cases hq
    exact absurd (show false = true from hus) Bool.false_ne_true
  | n + 3, hq => cases hq
theorem rxQI0 {PX : State → Prop} {Dg : va_G} {A : Nat → Prop} {ad xa : Nat → Nat} {l : Launch} {X : (Nat → Int → Int) → Prop} (hPX : rx_PXOK rxNW A PX) (hsl : ∀ s : State, PX s → ∀ o idx n : Nat, rxSl o idx = some n → ∃ tx : String, vk_R (rxNm o) idx tx (ad n) s)
    (hX : ∀ S S_p : Nat → Int → Int, X S → bx_same rxL (bx_mdl rxCI0.2.2.1) S S_p → X S_p)
    (ih : ∀ (j2 : Nat) (ct2 : bx_Ct) (M2 : rx_Mt), ct2 ∈ rxCnE j2 → ct2.2.2.2.1 + 1 ≤ rxCI0.2.2.2.1 → rxT.2.2.2.2.2 j2 = some M2 → bx_Con rxG rxNW rxAO PX Dg rxL X vwCl A ad l M2 ct2) (hQCF138x1 : bx_ConP rxG rxNW rxAO PX Dg rxL X vwCl A ad l rxM154 rxCCF138x1 rxPCF138x1 rxPSCF138x1) : bx_ConP rxG rxNW rxAO PX Dg rxL X vwCl A ad l rxM208 rxCI0 rxPI0 rxPSI0 :=
  rxQof (xa := xa) (Cn := rxCnE) (f := 30000) (j := 208) (tab := rxYI0) (us := rxUI0) hPX hsl hX ih rfl rxYcI0 rxII0 rxmI0
    (fun S0 ws r I0 I ht0 ht as he he1 hX0 hI0 hP hs ha => by
      have e := he.symm.trans (show bx_ent0 rxNP rxCI0.1 bx_I0 [] = some ([(0, 0), (0, 0), (0, 0), (0, 0), (0, 0), (0, 0), (0, 0), (0, 0), (0, 0)], [], [.inr (3, (0, 0)), .inr (0, (8, 0))]) from rfl)
      cases e
      subst ha
      have h0 : r 0 = 0 := hs.1
      show rxII0_0 S0 _ S0 (r 8)
      refine ⟨rfl, ?_⟩
      simp only [List.map_cons, List.map_nil, bx_xv_ok h0]
      rfl)
    (fun S0 ws hP => rxuI0 (xa := xa) hPX hX hQCF138x1 hP) (fun S0 ws hP => rxgCI0 hP) (fun S0 ws hP => rxgEI0 hP)
