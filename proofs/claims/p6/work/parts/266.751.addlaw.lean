/-! CONTRACT BY HAND, by program (wip/sim/genhand.py): DeadUnderstudies$Town.addLaw -/
def rxIADLQ_0 (S0 : Nat → Int → Int) (ws : List Int) (S : Nat → Int → Int) : Prop := S = S0 ∧ ws = [1, 427]
def rxmADLQ_0 (S0 : Nat → Int → Int) (ws : List Int) (S : Nat → Int → Int) : Nat := 100
def rxzADLQ_0 : rx_Z := ([(0, 0), (0, 0), (0, 0), (0, 0), (0, 0), (0, 0), (0, 0), (0, 0)], [], [], 0, 0, 0, [(0, .inr (3, (0, 1))), (1, .inr (3, (0, 427)))], [])
def rxIADLQ_1 (S0 : Nat → Int → Int) (ws : List Int) (S : Nat → Int → Int) (rp nl : Int) : Prop := nl = S 1 14 ∧ S = S0 ∧ ws = [1, 427] ∧ ∃ i : Nat, i < 6 ∧ S0 1 14 = (i : Int) ∧ rp = ((77 + 10 * i : Nat) : Int)
def rxmADLQ_1 (S0 : Nat → Int → Int) (ws : List Int) (S : Nat → Int → Int) (rp nl : Int) : Nat := 50
def rxzADLQ_1 : rx_Z := ([(0, 0), (0, 0), (0, 0), (0, 0), (0, 0), (0, 0), (0, 0), (0, 0), (0, 1522), (0, 5)], [], [(((8, 0), 1000007), .inl none), (((0, 1), 14), .inr (0, (9, 0)))], 0, 0, 21, [(0, .inr (3, (0, 1))), (1, .inr (3, (0, 427)))], [.inr (3, (0, 427)), .inr (3, (8, 0))])
def rxIADLQ_2 (S0 : Nat → Int → Int) (ws : List Int) (S : Nat → Int → Int) (rp nl : Int) : Prop := nl = S0 1 14 ∧ ws = [1, 427] ∧ ∃ i : Nat, i < 6 ∧ S0 1 14 = (i : Int) ∧ rkQc S0 S (77 + 10 * i) 427
def rxmADLQ_2 (S0 : Nat → Int → Int) (ws : List Int) (S : Nat → Int → Int) (rp nl : Int) : Nat := 40
def rxzADLQ_2 : rx_Z := ([(0, 0), (0, 0), (0, 0), (0, 0), (0, 0), (0, 0), (0, 0), (0, 0), (0, 1522), (0, 5)], [], [(((8, 0), 1000007), .inl none), (((0, 1), 14), .inr (0, (9, 0)))], 0, 0, 24, [(0, .inr (3, (0, 1))), (1, .inr (3, (0, 427)))], [])
def rxoADLQ_0_0 : bx_HO := (([(0, 0), (0, 0), (0, 0), (0, 0), (0, 0), (0, 0), (0, 0), (0, 0), (0, 5), (0, 1522)], [], [(((0, 0), 1851192626986356797424364830707437625680387377997778264876384256000000), .inr (3, (9, 0))), (((9, 0), 1000007), .inl none), (((0, 1), 16), .inr (3, (0, 20))), (((0, 0), 1851192626986356800234234225391877833944518517379736727307485184000000), .inr (0, (8, 0))), (((0, 1), 14), .inr (0, (8, 0)))], 0, 0, 21, [(0, .inr (3, (0, 1))), (1, .inr (3, (0, 427)))], [.inr (3, (0, 427)), .inr (3, (9, 0))]), [], [], [(0, 0), (0, 0), (0, 0), (0, 0), (0, 0), (0, 0), (0, 0), (0, 0), (9, 0), (8, 0)], 1)
def rxeADLQ_0_0 : rx_End × List (Nat × Int × Int) := (([(0, 0), (0, 0), (0, 0), (0, 0), (0, 0), (0, 0), (0, 0), (0, 0), (6, 6)], [], [(((0, 0), 1851192626986356800234234225391877833944518517379736727307485184000000), .inr (0, (8, 0))), (((0, 1), 14), .inr (0, (8, 0)))], some (.inr (0, (0, (-1))))), [])
def rxeADLQ_2_0 : rx_End × List (Nat × Int × Int) := (([(0, 0), (0, 0), (0, 0), (0, 0), (0, 0), (0, 0), (0, 0), (0, 0), (0, 1522), (0, 5)], [], [(((0, 0), 1851192626986356800234234225391877833944518517379736727307485187000000), .inr (0, (9, 1))), (((0, 1), 14), .inr (0, (9, 1))), (((8, 0), 1000007), .inl none)], some (.inr (0, (9, 0)))), [])
def rxYADLQ : List bx_HE := [(rxzADLQ_0, [rxoADLQ_0_0], [rxeADLQ_0_0]), (rxzADLQ_1, [], []), (rxzADLQ_2, [], [rxeADLQ_2_0])]
def rxUADLQ (q : bx_HE) : Bool := Nat.beq (rx_zpc q.1) 21
def rxYBADLQ : bx_B := (rxV, rxNP, rxDmf, bx_mdH rxC121.2.2.1)
set_option maxRecDepth 100000 in
theorem rxYcADLQ : bx_chkH rxYBADLQ rxM121 rxC121 rxYADLQ (rxUADLQ, fun cut z => rx_ex2 (rxCT rxYBADLQ rxCnE) cut 30000 rxC121.2.2.2.1 121 z) = true := by decide +kernel
def rxIADLQ (S0 : Nat → Int → Int) (ws : List Int) (i : Nat) : bx_SP := fun S r => match i with | 0 => rxIADLQ_0 S0 ws S | 1 => rxIADLQ_1 S0 ws S (r 8) (r 9) | 2 => rxIADLQ_2 S0 ws S (r 8) (r 9) | _ => False
def rxmADLQ (S0 : Nat → Int → Int) (ws : List Int) (i : Nat) (S : Nat → Int → Int) (r : Nat → Int) : Nat := match i with | 0 => rxmADLQ_0 S0 ws S | 1 => rxmADLQ_1 S0 ws S (r 8) (r 9) | 2 => rxmADLQ_2 S0 ws S (r 8) (r 9) | _ => 0
def rxPADLQ (S0 : Nat → Int → Int) (ws : List Int) : Prop := rkPf S0
def rxPSADLQ (S0 : Nat → Int → Int) (ws : List Int) (S : Nat → Int → Int) (w : Option Int) : Prop := rxPSADL S0 ws S w ∧ (S0 1 14 < 6 → ∃ (i : Nat) (S1 : Nat → Int → Int), i < 6 ∧ S0 1 14 = (i : Int) ∧ rkQc S0 S1 (77 + 10 * i) 427 ∧ ∀ (p : Nat) (j : Int), ¬ (p = 1 ∧ j = 14) → S p j = S1 p j)
theorem rxkADLQ_1 {S0 : Nat → Int → Int} {ws : List Int} {S : Nat → Int → Int} {rp nl : Int} (hP : rxPADLQ S0 ws) (hin : bx_same rxL (bx_mdl rxC121.2.2.1) S0 S) (I0 : bx_Inv rxL S) (hinv : rxIADLQ_1 S0 ws S rp nl) (l8 : 0 ≤ rp) (u8 : rp ≤ 1522) (l9 : 0 ≤ nl) (u9 : nl ≤ 5) : rxPQCZ S [rp, 427] ∧ ∀ (S_p : Nat → Int → Int), rxPSQCZ S [rp, 427] S_p none → bx_Inv rxL S_p → bx_same rxL (bx_mdl rxCQCZ.2.2.1) S S_p → rxIADLQ_2 S0 ws S_p rp nl ∧ rxmADLQ_2 S0 ws S_p rp nl < rxmADLQ_1 S0 ws S rp nl := by
  obtain ⟨hnl, rfl, hw, i, i6, hi, hr⟩ := hinv
  obtain ⟨p427, p20, -⟩ := hP
  have e : i = 0 ∨ i = 1 ∨ i = 2 ∨ i = 3 ∨ i = 4 ∨ i = 5 := by omega
  have hm : 77 + 10 * i ∈ rkPg := by rcases e with rfl | rfl | rfl | rfl | rfl | rfl <;> decide
  exact ⟨⟨77 + 10 * i, 427, by rw [hr]; rfl, ⟨hm, by decide, by omega⟩, p427, (p20 i i6).2⟩, fun S_p hq I1 hsm => ⟨⟨hnl, hw, i, i6, hi, hq.2 (77 + 10 * i) 427 (by rw [hr]; rfl)⟩, by unfold rxmADLQ_1 rxmADLQ_2; omega⟩⟩
theorem rxsADLQ_1 {X : (Nat → Int → Int) → Prop} {S0 : Nat → Int → Int} {ws : List Int} (hP : rxPADLQ S0 ws) : rx_obK X S0 rxC121.2.2.1 rxCQCZ.2.2.1 (rxIADLQ S0 ws) (rxmADLQ S0 ws) 1 2 rxzADLQ_1 rxzADLQ_2 [.inr (3, (8, 0)), .inr (3, (0, 427))] none rxPQCZ rxPSQCZ := by
  intro S r hinv hXS I0 hin hs_ hf_
  have b_ := bx_bds_sat hs_
  have f_ := bx_fcl_ok hs_.1 hf_
  obtain ⟨⟨l8, u8⟩, ⟨l9, u9⟩, -⟩ := b_
  have g := rxkADLQ_1 hP hin I0 hinv l8 u8 l9 u9
  have ea : List.map (bx_num r) [.inr (3, (8, 0)), .inr (3, (0, 427))] = [(r 8), 427] := by
    simp only [List.map_cons, List.map_nil, bx_xv_ok hs_.1]
    rfl
  rw [ea]
  refine ⟨g.1, fun S_p w r_p hPS hX_p I1 hsm hr hw hs_p => ?_⟩
  have hw : w = none := hPS.1
  subst hw
  have g2 := g.2 S_p hPS I1 hsm
  show rxIADLQ_2 S0 ws S_p (r_p 8) (r_p 9) ∧ rxmADLQ_2 S0 ws S_p (r_p 8) (r_p 9) < _
  rw [hr 8 (by decide), hr 9 (by decide)]
  exact g2
theorem rxcADLQ_0_0 {S0 : Nat → Int → Int} {ws : List Int} {S : Nat → Int → Int} {x8 x9 : Int} (hP : rxPADLQ S0 ws) (hin : bx_same rxL (bx_mdl rxC121.2.2.1) S0 S) (I0 : bx_Inv rxL S) (hinv : rxIADLQ_0 S0 ws S) (l8 : 0 ≤ x8) (u8 : x8 ≤ 5) (l9 : 0 ≤ x9) (u9 : x9 ≤ 1522) (e1 : S 1 14 = x8) (e0 : S 20 x8 = x9) : (True) ∧ (True) ∧ rxIADLQ_1 S0 ws S x9 x8 ∧ rxmADLQ_1 S0 ws S x9 x8 < rxmADLQ_0 S0 ws S := by
  obtain ⟨rfl, hw⟩ := hinv
  obtain ⟨-, p20, -⟩ := hP
  have b : x8 = ((x8.toNat : Nat) : Int) := by omega
  have g := (p20 x8.toNat (by omega)).1
  rw [← b] at g
  exact ⟨trivial, trivial, ⟨by omega, rfl, hw, x8.toNat, by omega, by omega, e0.symm.trans g⟩, by unfold rxmADLQ_0 rxmADLQ_1; omega⟩
theorem rxgADLQ_0_0 {X : (Nat → Int → Int) → Prop} {S0 : Nat → Int → Int} {ws : List Int} (hP : rxPADLQ S0 ws) : bx_obC rxL X S0 rxC121.2.2.1 (rxIADLQ S0 ws) (rxmADLQ S0 ws) 0 rxzADLQ_0 rxoADLQ_0_0 := by
  intro S S_p r r_p hinv hX hin hsm_ hseg
  obtain ⟨I0, I1, h0_, hr_, b_, f_, d_⟩ := bx_cl (evs := [(0, (0, 20), (8, 0), .inr (3, (9, 0))), (0, (0, 1), (0, 14), .inr (0, (8, 0)))]) (fvs := []) hseg (by decide +kernel) (by decide +kernel)
  have hinv : rxIADLQ_0 S0 ws S := hinv
  obtain ⟨⟨l8, u8⟩, ⟨l9, u9⟩, -⟩ := b_
  obtain ⟨e0, ⟨e1, w_⟩⟩ := d_
  subst w_
  have g := rxcADLQ_0_0 hP hin I0 hinv l8 u8 l9 u9 e1 e0
  refine ⟨bx_narP_ok (l := []) g.1, bx_nfP_ok h0_ (fvs := []) (by decide +kernel) g.2.1, ?_, ?_⟩
  · show rxIADLQ_1 S0 ws S_p (bx_val [(0, 0), (0, 0), (0, 0), (0, 0), (0, 0), (0, 0), (0, 0), (0, 0), (9, 0), (8, 0)] r_p 8) (bx_val [(0, 0), (0, 0), (0, 0), (0, 0), (0, 0), (0, 0), (0, 0), (0, 0), (9, 0), (8, 0)] r_p 9)
    rw [bx_val_x (n := 8) (e := (9, 0)) h0_ rfl, bx_val_x (n := 9) (e := (8, 0)) h0_ rfl]
    exact g.2.2.1
  · show rxmADLQ_1 S0 ws S_p (bx_val [(0, 0), (0, 0), (0, 0), (0, 0), (0, 0), (0, 0), (0, 0), (0, 0), (9, 0), (8, 0)] r_p 8) (bx_val [(0, 0), (0, 0), (0, 0), (0, 0), (0, 0), (0, 0), (0, 0), (0, 0), (9, 0), (8, 0)] r_p 9) < rxmADLQ_0 S0 ws S_p
    rw [bx_val_x (n := 8) (e := (9, 0)) h0_ rfl, bx_val_x (n := 9) (e := (8, 0)) h0_ rfl]
    exact g.2.2.2
theorem rxdADLQ_0_0 {S0 : Nat → Int → Int} {ws : List Int} {S : Nat → Int → Int} {x8 : Int} (hP : rxPADLQ S0 ws) (hin : bx_same rxL (bx_mdl rxC121.2.2.1) S0 S) (hin2 : bx_same rxL (bx_mdl rxC121.2.2.1) S S) (I0 : bx_Inv rxL S) (I1 : bx_Inv rxL S) (hinv : rxIADLQ_0 S0 ws S) (l8 : 6 ≤ x8) (u8 : x8 ≤ 6) (e0 : S 1 14 = x8) : (True) ∧ rxPSADLQ S0 ws S (some ((-1))) := by
  obtain ⟨rfl, hw⟩ := hinv
  exact ⟨trivial, ⟨hw, Or.inl ⟨by omega, rfl⟩⟩, fun g => by omega⟩
theorem rxfADLQ_0_0 {X : (Nat → Int → Int) → Prop} {S0 : Nat → Int → Int} {ws : List Int} (hP : rxPADLQ S0 ws) : bx_obE rxL X S0 rxC121.2.2.1 (rxIADLQ S0 ws) (rxPSADLQ S0 ws) 0 rxzADLQ_0 rxeADLQ_0_0 := by
  intro S S_p r r_p hinv hX hin hsm_ hseg
  obtain ⟨I0, I1, h0_, hr_, b_, f_, d_⟩ := bx_cl (evs := [(0, (0, 1), (0, 14), .inr (0, (8, 0)))]) (fvs := []) hseg (by decide +kernel) (by decide +kernel)
  have hinv : rxIADLQ_0 S0 ws S := hinv
  obtain ⟨⟨l8, u8⟩, -⟩ := b_
  obtain ⟨e0, w_⟩ := d_
  subst w_
  have g := rxdADLQ_0_0 hP hin hsm_ I0 I1 hinv l8 u8 e0
  refine ⟨bx_narP_ok (l := []) g.1, ?_⟩
  show rxPSADLQ S0 ws S_p (some (bx_num r_p (.inr (0, (0, (-1))))))
  rw [bx_xv_ok h0_]
  exact g.2
theorem rxdADLQ_2_0 {S0 : Nat → Int → Int} {ws : List Int} {S : Nat → Int → Int} {rp nl : Int} (hP : rxPADLQ S0 ws) (hin : bx_same rxL (bx_mdl rxC121.2.2.1) S0 S) (hin2 : bx_same rxL (bx_mdl rxC121.2.2.1) S (bx_up S 1 14 (nl + 1))) (I0 : bx_Inv rxL S) (I1 : bx_Inv rxL (bx_up S 1 14 (nl + 1))) (hinv : rxIADLQ_2 S0 ws S rp nl) (l8 : 0 ≤ rp) (u8 : rp ≤ 1522) (l9 : 0 ≤ nl) (u9 : nl ≤ 5) : (True) ∧ rxPSADLQ S0 ws (bx_up S 1 14 (nl + 1)) (some nl) := by
  obtain ⟨hnl, hw, i, i6, hi, q⟩ := hinv
  have qf := q.2.2.2.2.2.2.2.2.2.2.1
  have f1 : ∀ j : Int, S 1 j = S0 1 j := fun j => qf 1 j (by omega) (by omega) (by omega) (by omega) (by omega) (by omega) (by omega) (by omega) (by omega)
  have f138 : S 138 14 = S0 138 14 := qf 138 14 (by omega) (by omega) (by omega) (by omega) (by omega) (by omega) (by omega) (by omega) (by omega)
  have f274 : S 274 14 = S0 274 14 := qf 274 14 (by omega) (by omega) (by omega) (by omega) (by omega) (by omega) (by omega) (by omega) (by omega)
  have f14 := f1 14
  exact ⟨trivial, ⟨hw, Or.inr ⟨by omega, congrArg some hnl, bx_up_at.trans (by omega), (bx_up_ne (by omega)).trans f138, (bx_up_ne (by omega)).trans f274⟩⟩, fun _ => ⟨i, S, i6, hi, q, fun p j n => bx_up_ne n⟩⟩
theorem rxfADLQ_2_0 {X : (Nat → Int → Int) → Prop} {S0 : Nat → Int → Int} {ws : List Int} (hP : rxPADLQ S0 ws) : bx_obE rxL X S0 rxC121.2.2.1 (rxIADLQ S0 ws) (rxPSADLQ S0 ws) 2 rxzADLQ_2 rxeADLQ_2_0 := by
  intro S S_p r r_p hinv hX hin hsm_ hseg
  obtain ⟨I0, I1, h0_, hr_, b_, f_, d_⟩ := bx_cl (evs := [(1, (0, 1), (0, 14), .inr (0, (9, 1)))]) (fvs := []) hseg (by decide +kernel) (by decide +kernel)
  have hinv : rxIADLQ_2 S0 ws S (r 8) (r 9) := hinv
  rw [← hr_ 8 (by decide), ← hr_ 9 (by decide)] at hinv
  obtain ⟨⟨l8, u8⟩, ⟨l9, u9⟩, -⟩ := b_
  obtain ⟨T0, w_, w0⟩ := d_
  subst w0
  subst w_
  have g := rxdADLQ_2_0 hP hin hsm_ I0 I1 hinv l8 u8 l9 u9
  refine ⟨bx_narP_ok (l := []) g.1, ?_⟩
  show rxPSADLQ S0 ws (bx_up T0 1 (14) (r_p 9 + 1)) (some (bx_num r_p (.inr (0, (9, 0)))))
  rw [bx_xv_ok h0_]
  exact g.2
theorem rxgCADLQ {X : (Nat → Int → Int) → Prop} {S0 : Nat → Int → Int} {ws : List Int} (hP : rxPADLQ S0 ws) : bx_allI (fun i q => rxUADLQ q = true ∨ bx_allP (fun o => bx_obC rxL X S0 rxC121.2.2.1 (rxIADLQ S0 ws) (rxmADLQ S0 ws) i q.1 o) q.2.1) 0 rxYADLQ := ⟨Or.inr ⟨rxgADLQ_0_0 hP, trivial⟩, Or.inl rfl, Or.inr trivial, trivial⟩
theorem rxgEADLQ {X : (Nat → Int → Int) → Prop} {S0 : Nat → Int → Int} {ws : List Int} (hP : rxPADLQ S0 ws) : bx_allI (fun i q => rxUADLQ q = true ∨ bx_allP (fun E => bx_obE rxL X S0 rxC121.2.2.1 (rxIADLQ S0 ws) (rxPSADLQ S0 ws) i q.1 E) q.2.2) 0 rxYADLQ := ⟨Or.inr ⟨rxfADLQ_0_0 hP, trivial⟩, Or.inl rfl, Or.inr ⟨rxfADLQ_2_0 hP, trivial⟩, trivial⟩
theorem rxuADLQ {PX : State → Prop} {Dg : va_G} {A : Nat → Prop} {ad xa : Nat → Nat} {l : Launch} {X : (Nat → Int → Int) → Prop} (hPX : rx_PXOK rxNW A PX) (hX : ∀ S S1 : Nat → Int → Int, X S → bx_same rxL (bx_mdl rxC121.2.2.1) S S1 → X S1) (hQQCZ : bx_ConP rxG rxNW rxAO PX Dg rxL X vwCl A ad l rxM95 rxCQCZ rxPQCZ rxPSQCZ) {S0 : Nat → Int → Int} {ws : List Int} (hP : rxPADLQ S0 ws) : ∀ (i : Nat) (q : bx_HE), rxYADLQ[i]? = some q → rxUADLQ q = true → ∀ {p : Program} {e : Env} {R : Room} {s : State} {m : MethodId} {args : Array Value} {below : List Frame} {meth : Method} {c : Code} {Q : State → Prop} {H0 : Heap}, rx_Fr rxG rxNW rxAO PX p s m args meth c rxM121 → (∀ q, H0.size ≤ q → A q) → H0 = s.heap → rxM121.2.2.2.2.2.2.1 ≤ R.cells → rxM121.2.2.2.2.2.2.2 ≤ R.slots → rxC121.2.2.2.1 ≤ R.frames → rxC121.2.2.2.1 * 40 ≤ R.locals → bx_Step p l e R s m args below meth c Q Dg rxL X vwCl A xa H0 ad rxM121 rxYADLQ (rxIADLQ S0 ws) (rxmADLQ S0 ws) S0 rxC121.2.2.1 i q := by
  intro i q hq hus p e R s m args below meth c Q H0 hF hA hH0 hmc hms hd hdl
  match i, hq with
  | 0, hq =>
    cases hq
    exact absurd (show false = true from hus) Bool.false_ne_true
  | 1, hq =>
    cases hq
    exact rx_stepC (ins := .invokevirtual 102) (len := 3) (i_p := 2) (M_p := rxM95) (d := rxC121.2.2.2.1) (as := [.inr (3, (8, 0)), .inr (3, (0, 427))]) (t := []) (ct := rxCQCZ) hPX hF rfl hA hH0 hmc hms hd hdl (by decide +kernel) rfl rfl (by decide +kernel) (by decide +kernel) hQQCZ (by decide +kernel) rfl (Or.inl ⟨rfl, rfl, rfl⟩) (rxsADLQ_1 hP)
  | 2, hq =>
    cases hq
    exact absurd (show false = true from hus) Bool.false_ne_true
  | n + 3, hq => cases hq
theorem rxQADLQ {PX : State → Prop} {Dg : va_G} {A : Nat → Prop} {ad xa : Nat → Nat} {l : Launch} {X : (Nat → Int → Int) → Prop} (hPX : rx_PXOK rxNW A PX) (hsl : ∀ s : State, PX s → ∀ o idx n : Nat, rxSl o idx = some n → ∃ tx : String, vk_R (rxNm o) idx tx (ad n) s)
    (hX : ∀ S S_p : Nat → Int → Int, X S → bx_same rxL (bx_mdl rxC121.2.2.1) S S_p → X S_p)
    (ih : ∀ (j2 : Nat) (ct2 : bx_Ct) (M2 : rx_Mt), ct2 ∈ rxCnE j2 → ct2.2.2.2.1 + 1 ≤ rxC121.2.2.2.1 → rxT.2.2.2.2.2 j2 = some M2 → bx_Con rxG rxNW rxAO PX Dg rxL X vwCl A ad l M2 ct2) (hQQCZ : bx_ConP rxG rxNW rxAO PX Dg rxL X vwCl A ad l rxM95 rxCQCZ rxPQCZ rxPSQCZ) : bx_ConP rxG rxNW rxAO PX Dg rxL X vwCl A ad l rxM121 rxC121 rxPADLQ rxPSADLQ :=
  rxQof (xa := xa) (Cn := rxCnE) (f := 30000) (j := 121) (tab := rxYADLQ) (us := rxUADLQ) hPX hsl hX ih rfl rxYcADLQ rxIADLQ rxmADLQ
    (fun S0 ws r I0 I ht0 ht as he he1 hX0 hI0 hP hs ha => by
      have e := he.symm.trans (show bx_ent0 rxNP rxC121.1 bx_I0 [] = some ([(0, 0), (0, 0), (0, 0), (0, 0), (0, 0), (0, 0), (0, 0), (0, 0)], [], [.inr (3, (0, 1)), .inr (3, (0, 427))]) from rfl)
      cases e
      subst ha
      have h0 : r 0 = 0 := hs.1
      show rxIADLQ_0 S0 _ S0
      refine ⟨rfl, ?_⟩
      simp only [List.map_cons, List.map_nil, bx_xv_ok h0]
      rfl)
    (fun S0 ws hP => rxuADLQ (xa := xa) hPX hX hQQCZ hP) (fun S0 ws hP => rxgCADLQ hP) (fun S0 ws hP => rxgEADLQ hP)
