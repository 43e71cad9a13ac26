/-! CONTRACT BY HAND, by program (wip/sim/genhand.py): DeadUnderstudiesModel.mostBits -/
def rxCMB : bx_Ct := ([(3, (1, 480, 0))], some (0, (0, 1, 1023)), [], 1, [])
def rxIMB_0 (S0 : Nat → Int → Int) (ws : List Int) (S : Nat → Int → Int) : Prop := S = S0 ∧ ws = [480]
def rxmMB_0 (S0 : Nat → Int → Int) (ws : List Int) (S : Nat → Int → Int) : Nat := 1000
def rxzMB_0 : rx_Z := ([(0, 0), (0, 0), (0, 0), (0, 0), (0, 0), (0, 0), (0, 0), (0, 0)], [], [], 0, 0, 0, [(0, .inr (3, (0, 480)))], [])
def rxIMB_1 (S0 : Nat → Int → Int) (ws : List Int) (S : Nat → Int → Int) : Prop := S = S0 ∧ (∃ j : Int, 0 ≤ j ∧ j < 10 ∧ 0 < S 504 j)
def rxmMB_1 (S0 : Nat → Int → Int) (ws : List Int) (S : Nat → Int → Int) : Nat := 900
def rxzMB_1 : rx_Z := ([(0, 0), (0, 0), (0, 0), (0, 0), (0, 0), (0, 0), (0, 0), (0, 0)], [], [], 0, 0, 1, [(0, .inr (3, (0, 480)))], [.inr (3, (0, 480))])
def rxIMB_2 (S0 : Nat → Int → Int) (ws : List Int) (S : Nat → Int → Int) (m : Int) : Prop := S = S0
def rxmMB_2 (S0 : Nat → Int → Int) (ws : List Int) (S : Nat → Int → Int) (m : Int) : Nat := 800
def rxzMB_2 : rx_Z := ([(0, 0), (0, 0), (0, 0), (0, 0), (0, 0), (0, 0), (0, 0), (0, 0), (0, 9)], [], [], 0, 0, 4, [(0, .inr (3, (0, 480)))], [.inr (0, (8, 0))])
def rxIMB_3 (S0 : Nat → Int → Int) (ws : List Int) (S : Nat → Int → Int) (m its w_ : Int) : Prop := S = S0 ∧ (m < w_ → 1 ≤ its)
def rxmMB_3 (S0 : Nat → Int → Int) (ws : List Int) (S : Nat → Int → Int) (m its w_ : Int) : Nat := 10 * (20 - w_).toNat + 9
def rxzMB_3 : rx_Z := ([(0, 0), (0, 0), (0, 0), (0, 0), (0, 0), (0, 0), (0, 0), (0, 0), (0, 9), (0, 1023), (0, 10)], [], [], 0, 0, 9, [(0, .inr (3, (0, 480))), (1, .inr (0, (8, 0))), (2, .inr (0, (9, 0))), (3, .inr (0, (10, 0)))], [])
def rxIMB_4 (S0 : Nat → Int → Int) (ws : List Int) (S : Nat → Int → Int) (m its w_ a b : Int) : Prop := S = S0 ∧ (m < w_ → 1 ≤ a) ∧ (m = w_ → 1 ≤ b)
def rxmMB_4 (S0 : Nat → Int → Int) (ws : List Int) (S : Nat → Int → Int) (m its w_ a b : Int) : Nat := 10 * (20 - w_).toNat + 8
def rxzMB_4 : rx_Z := ([(0, 0), (0, 0), (0, 0), (0, 0), (0, 0), (0, 0), (0, 0), (0, 0), (0, 9), (0, 1023), (0, 9), (0, 1023), (0, 512)], [], [], 0, 0, 43, [(0, .inr (3, (0, 480))), (1, .inr (0, (8, 0))), (2, .inr (0, (9, 0))), (3, .inr (0, (10, 0)))], [.inr (0, (12, 0)), .inr (0, (11, 0))])
def rxIMB_5 (S0 : Nat → Int → Int) (ws : List Int) (S : Nat → Int → Int) (m its w_ a b c : Int) : Prop := S = S0 ∧ (m < w_ + 1 → 1 ≤ c)
def rxmMB_5 (S0 : Nat → Int → Int) (ws : List Int) (S : Nat → Int → Int) (m its w_ a b c : Int) : Nat := 10 * (20 - w_).toNat + 7
def rxzMB_5 : rx_Z := ([(0, 0), (0, 0), (0, 0), (0, 0), (0, 0), (0, 0), (0, 0), (0, 0), (0, 9), (0, 1023), (0, 9), (0, 1023), (0, 512), (0, 1023)], [], [], 0, 0, 44, [(0, .inr (3, (0, 480))), (1, .inr (0, (8, 0))), (2, .inr (0, (9, 0))), (3, .inr (0, (10, 0)))], [.inr (0, (13, 0))])
def rxoMB_0_0 : bx_HO := (([(0, 0), (0, 0), (0, 0), (0, 0), (0, 0), (0, 0), (0, 0), (0, 0)], [], [], 0, 0, 1, [(0, .inr (3, (0, 480)))], [.inr (3, (0, 480))]), [], [], [(0, 0), (0, 0), (0, 0), (0, 0), (0, 0), (0, 0), (0, 0), (0, 0)], 1)
def rxoMB_2_0 : bx_HO := (([(0, 0), (0, 0), (0, 0), (0, 0), (0, 0), (0, 0), (0, 0), (0, 0), (0, 9)], [], [], 0, 0, 9, [(3, .inr (0, (0, 0))), (2, .inr (0, (0, 0))), (1, .inr (0, (8, 0))), (0, .inr (3, (0, 480)))], []), [], [], [(0, 0), (0, 0), (0, 0), (0, 0), (0, 0), (0, 0), (0, 0), (0, 0), (8, 0), (0, 0), (0, 0)], 3)
def rxoMB_3_0 : bx_HO := (([(0, 0), (0, 0), (0, 0), (0, 0), (0, 0), (0, 0), (0, 0), (0, 0), (0, 9), (0, 1023), (0, 9), ((-2147483648), 2147483647), ((-2147483648), 2147483647), (1, 512)], [(2, (11, 0), (12, 0)), (3, (8, 0), (0, (-1)))], [(((0, 0), 1851192626986356797424364830707437625680387377997778265161859072000000), .inr (0, (12, 0))), (((0, 0), 1851192626986356797424370955790042202572729718740712036989665280000000), .inr (0, (11, 0))), (((0, 480), 50), .inr (3, (0, 504)))], 0, 0, 43, [(0, .inr (3, (0, 480))), (1, .inr (0, (8, 0))), (2, .inr (0, (9, 0))), (3, .inr (0, (10, 0)))], [.inr (0, (13, 0)), .inr (0, (9, 0))]), [], [], [(0, 0), (0, 0), (0, 0), (0, 0), (0, 0), (0, 0), (0, 0), (0, 0), (8, 0), (9, 0), (10, 0), (9, 0), (13, 0)], 4)
def rxoMB_3_1 : bx_HO := (([(0, 0), (0, 0), (0, 0), (0, 0), (0, 0), (0, 0), (0, 0), (0, 0), (0, 9), (0, 1023), (0, 9), ((-2147483648), 2147483647), ((-2147483648), 2147483647)], [(3, (11, 0), (12, 0)), (3, (8, 0), (0, (-1)))], [(((0, 0), 1851192626986356797424364830707437625680387377997778265161859072000000), .inr (0, (12, 0))), (((0, 0), 1851192626986356797424370955790042202572729718740712036989665280000000), .inr (0, (11, 0))), (((0, 480), 50), .inr (3, (0, 504)))], 0, 0, 43, [(0, .inr (3, (0, 480))), (1, .inr (0, (8, 0))), (2, .inr (0, (9, 0))), (3, .inr (0, (10, 0)))], [.inr (0, (0, 0)), .inr (0, (9, 0))]), [], [], [(0, 0), (0, 0), (0, 0), (0, 0), (0, 0), (0, 0), (0, 0), (0, 0), (8, 0), (9, 0), (10, 0), (9, 0), (0, 0)], 4)
def rxeMB_3_0 : rx_End × List (Nat × Int × Int) := (([(0, 0), (0, 0), (0, 0), (0, 0), (0, 0), (0, 0), (0, 0), (0, 0), (0, 9), (0, 1023), (10, 10)], [], [], some (.inr (0, (9, 0)))), [(9, 1, 1023)])
def rxoMB_5_0 : bx_HO := (([(0, 0), (0, 0), (0, 0), (0, 0), (0, 0), (0, 0), (0, 0), (0, 0), (0, 9), (0, 1023), (0, 9), (0, 1023), (0, 512), (0, 1023)], [], [], 0, 0, 9, [(3, .inr (0, (10, 1))), (2, .inr (0, (13, 0))), (0, .inr (3, (0, 480))), (1, .inr (0, (8, 0)))], []), [], [], [(0, 0), (0, 0), (0, 0), (0, 0), (0, 0), (0, 0), (0, 0), (0, 0), (8, 0), (13, 0), (10, 1)], 3)
def rxYMB : List bx_HE := [(rxzMB_0, [rxoMB_0_0], []), (rxzMB_1, [], []), (rxzMB_2, [rxoMB_2_0], []), (rxzMB_3, [rxoMB_3_0, rxoMB_3_1], [rxeMB_3_0]), (rxzMB_4, [], []), (rxzMB_5, [rxoMB_5_0], [])]
def rxUMB (q : bx_HE) : Bool := Nat.beq (rx_zpc q.1) 1 || Nat.beq (rx_zpc q.1) 43
def rxYBMB : bx_B := (rxV, rxNP, rxDmf, bx_mdH rxCMB.2.2.1)
set_option maxRecDepth 100000 in
theorem rxYcMB : bx_chkH rxYBMB rxM309 rxCMB rxYMB (rxUMB, fun cut z => rx_ex2 (rxCT rxYBMB rxCnE) cut 30000 rxCMB.2.2.2.1 309 z) = true := by decide +kernel
def rxIMB (S0 : Nat → Int → Int) (ws : List Int) (i : Nat) : bx_SP := fun S r => match i with | 0 => rxIMB_0 S0 ws S | 1 => rxIMB_1 S0 ws S | 2 => rxIMB_2 S0 ws S (r 8) | 3 => rxIMB_3 S0 ws S (r 8) (r 9) (r 10) | 4 => rxIMB_4 S0 ws S (r 8) (r 9) (r 10) (r 11) (r 12) | 5 => rxIMB_5 S0 ws S (r 8) (r 9) (r 10) (r 11) (r 12) (r 13) | _ => False
def rxmMB (S0 : Nat → Int → Int) (ws : List Int) (i : Nat) (S : Nat → Int → Int) (r : Nat → Int) : Nat := match i with | 0 => rxmMB_0 S0 ws S | 1 => rxmMB_1 S0 ws S | 2 => rxmMB_2 S0 ws S (r 8) | 3 => rxmMB_3 S0 ws S (r 8) (r 9) (r 10) | 4 => rxmMB_4 S0 ws S (r 8) (r 9) (r 10) (r 11) (r 12) | 5 => rxmMB_5 S0 ws S (r 8) (r 9) (r 10) (r 11) (r 12) (r 13) | _ => 0
def rxPMB (S0 : Nat → Int → Int) (ws : List Int) : Prop := ∃ j : Int, 0 ≤ j ∧ j < 10 ∧ 0 < S0 504 j
def rxPSMB (S0 : Nat → Int → Int) (ws : List Int) (S : Nat → Int → Int) (w : Option Int) : Prop := S = S0
theorem rxkMB_1 {S0 : Nat → Int → Int} {ws : List Int} {S : Nat → Int → Int} (hP : rxPMB S0 ws) (hin : bx_same rxL (bx_mdl rxCMB.2.2.1) S0 S) (I0 : bx_Inv rxL S) (hinv : rxIMB_1 S0 ws S)  : rxPMO S [480] ∧ ∀ (S_p : Nat → Int → Int) (m : Int), 0 ≤ m → m ≤ 9 → rxPSMO S [480] S_p (some m) → bx_Inv rxL S_p → bx_same rxL (bx_mdl rxCMO.2.2.1) S S_p → rxIMB_2 S0 ws S_p m ∧ rxmMB_2 S0 ws S_p m < rxmMB_1 S0 ws S := by
  exact ⟨hinv.2, fun S_p m g0 g1 hq I1 hsm => ⟨Eq.trans (show S_p = S from hq) hinv.1, by unfold rxmMB_1 rxmMB_2; omega⟩⟩
theorem rxsMB_1 {X : (Nat → Int → Int) → Prop} {S0 : Nat → Int → Int} {ws : List Int} (hP : rxPMB S0 ws) : rx_obK X S0 rxCMB.2.2.1 rxCMO.2.2.1 (rxIMB S0 ws) (rxmMB S0 ws) 1 2 rxzMB_1 rxzMB_2 [.inr (3, (0, 480))] (some 8) rxPMO rxPSMO := by
  intro S r hinv hXS I0 hin hs_ hf_
  have b_ := bx_bds_sat hs_
  have f_ := bx_fcl_ok hs_.1 hf_
  have g := rxkMB_1 hP hin I0 hinv 
  have ea : List.map (bx_num r) [.inr (3, (0, 480))] = [480] := by
    simp only [List.map_cons, List.map_nil, bx_xv_ok hs_.1]
    rfl
  rw [ea]
  refine ⟨g.1, fun S_p w r_p hPS hX_p I1 hsm hr hw hs_p => ?_⟩
  have hw := hw _ rfl
  subst hw
  have b_p := hs_p.2.2 8 _ _ rfl
  have g2 := g.2 S_p (r_p 8) b_p.1 b_p.2 hPS I1 hsm
  show rxIMB_2 S0 ws S_p (r_p 8) ∧ rxmMB_2 S0 ws S_p (r_p 8) < _
  exact g2
theorem rxbMB_4 {S0 : Nat → Int → Int} {ws : List Int} {S : Nat → Int → Int} {m its w_ a b : Int} (hP : rxPMB S0 ws) (hin : bx_same rxL (bx_mdl rxCMB.2.2.1) S0 S) (I0 : bx_Inv rxL S) (hinv : rxIMB_4 S0 ws S m its w_ a b) (l8 : 0 ≤ m) (u8 : m ≤ 9) (l9 : 0 ≤ its) (u9 : its ≤ 1023) (l10 : 0 ≤ w_) (u10 : w_ ≤ 9) (l11 : 0 ≤ a) (u11 : a ≤ 1023) (l12 : 0 ≤ b) (u12 : b ≤ 512) : bx_opc 6 a b ∧ ∀ c : Int, c = bx_opv 6 a b → (0 ≤ c ∧ c ≤ 1023) ∧ rxIMB_5 S0 ws S m its w_ a b c ∧ rxmMB_5 S0 ws S m its w_ a b c < rxmMB_4 S0 ws S m its w_ a b := by
  obtain ⟨hs, h1, h2⟩ := hinv
  refine ⟨⟨⟨l11, by omega⟩, by show 0 ≤ b ∧ b ≤ 2147483647; omega⟩, fun c hc => ?_⟩
  have hc : c = ((a.toNat ||| b.toNat : Nat) : Int) := hc
  have g1 := Nat.or_lt_two_pow (x := a.toNat) (y := b.toNat) (n := 10) (by omega) (by omega)
  have g2 := Nat.left_le_or (n := a.toNat) (m := b.toNat)
  have g3 := Nat.right_le_or (n := a.toNat) (m := b.toNat)
  refine ⟨⟨by omega, by omega⟩, ⟨hs, fun q => ?_⟩, by unfold rxmMB_4 rxmMB_5; omega⟩
  rcases (show m < w_ ∨ m = w_ by omega) with h | h
  · have := h1 h
    omega
  · have := h2 h
    omega
theorem rxsMB_4 {X : (Nat → Int → Int) → Prop} {S0 : Nat → Int → Int} {ws : List Int} (hP : rxPMB S0 ws) : rx_obB X S0 rxCMB.2.2.1 (rxIMB S0 ws) (rxmMB S0 ws) 4 5 rxzMB_4 6 (11, 0) (12, 0) 0 1023 := by
  intro S r hinv hXS I0 hin hs_ hf_
  have b_ := bx_bds_sat hs_
  have f_ := bx_fcl_ok hs_.1 hf_
  obtain ⟨⟨l8, u8⟩, ⟨l9, u9⟩, ⟨l10, u10⟩, ⟨l11, u11⟩, ⟨l12, u12⟩, -⟩ := b_
  have g := rxbMB_4 hP hin I0 hinv l8 u8 l9 u9 l10 u10 l11 u11 l12 u12
  rw [bx_x_ok hs_.1, bx_x_ok hs_.1]
  refine ⟨g.1, fun r_p hr h0_ hv => ?_⟩
  have g2 := g.2 (r_p 13) hv
  show _ ∧ rxIMB_5 S0 ws S (r_p 8) (r_p 9) (r_p 10) (r_p 11) (r_p 12) (r_p 13) ∧ rxmMB_5 S0 ws S (r_p 8) (r_p 9) (r_p 10) (r_p 11) (r_p 12) (r_p 13) < _
  rw [hr 8 (by decide), hr 9 (by decide), hr 10 (by decide), hr 11 (by decide), hr 12 (by decide)]
  exact g2
theorem rxcMB_0_0 {S0 : Nat → Int → Int} {ws : List Int} {S : Nat → Int → Int} (hP : rxPMB S0 ws) (hin : bx_same rxL (bx_mdl rxCMB.2.2.1) S0 S) (I0 : bx_Inv rxL S) (hinv : rxIMB_0 S0 ws S)  : (True) ∧ (True) ∧ rxIMB_1 S0 ws S ∧ rxmMB_1 S0 ws S < rxmMB_0 S0 ws S := by
  obtain ⟨rfl, hw⟩ := hinv
  exact ⟨trivial, trivial, ⟨rfl, hP⟩, by unfold rxmMB_0 rxmMB_1; omega⟩
theorem rxgMB_0_0 {X : (Nat → Int → Int) → Prop} {S0 : Nat → Int → Int} {ws : List Int} (hP : rxPMB S0 ws) : bx_obC rxL X S0 rxCMB.2.2.1 (rxIMB S0 ws) (rxmMB S0 ws) 0 rxzMB_0 rxoMB_0_0 := by
  intro S S_p r r_p hinv hX hin hsm_ hseg
  obtain ⟨I0, I1, h0_, hr_, b_, f_, d_⟩ := bx_cl (evs := []) (fvs := []) hseg (by decide +kernel) (by decide +kernel)
  have hinv : rxIMB_0 S0 ws S := hinv
  have w_ := d_
  subst w_
  have g := rxcMB_0_0 hP hin I0 hinv 
  refine ⟨bx_narP_ok (l := []) g.1, bx_nfP_ok h0_ (fvs := []) (by decide +kernel) g.2.1, ?_, ?_⟩
  · show rxIMB_1 S0 ws S_p
    exact g.2.2.1
  · show rxmMB_1 S0 ws S_p < rxmMB_0 S0 ws S_p
    exact g.2.2.2
theorem rxcMB_2_0 {S0 : Nat → Int → Int} {ws : List Int} {S : Nat → Int → Int} {m : Int} (hP : rxPMB S0 ws) (hin : bx_same rxL (bx_mdl rxCMB.2.2.1) S0 S) (I0 : bx_Inv rxL S) (hinv : rxIMB_2 S0 ws S m) (l8 : 0 ≤ m) (u8 : m ≤ 9) : (True) ∧ (True) ∧ rxIMB_3 S0 ws S m 0 0 ∧ rxmMB_3 S0 ws S m 0 0 < rxmMB_2 S0 ws S m := by
  exact ⟨trivial, trivial, ⟨hinv, fun h => by omega⟩, by unfold rxmMB_2 rxmMB_3; omega⟩
theorem rxgMB_2_0 {X : (Nat → Int → Int) → Prop} {S0 : Nat → Int → Int} {ws : List Int} (hP : rxPMB S0 ws) : bx_obC rxL X S0 rxCMB.2.2.1 (rxIMB S0 ws) (rxmMB S0 ws) 2 rxzMB_2 rxoMB_2_0 := by
  intro S S_p r r_p hinv hX hin hsm_ hseg
  obtain ⟨I0, I1, h0_, hr_, b_, f_, d_⟩ := bx_cl (evs := []) (fvs := []) hseg (by decide +kernel) (by decide +kernel)
  have hinv : rxIMB_2 S0 ws S (r 8) := hinv
  rw [← hr_ 8 (by decide)] at hinv
  obtain ⟨⟨l8, u8⟩, -⟩ := b_
  have w_ := d_
  subst w_
  have g := rxcMB_2_0 hP hin I0 hinv l8 u8
  refine ⟨bx_narP_ok (l := []) g.1, bx_nfP_ok h0_ (fvs := []) (by decide +kernel) g.2.1, ?_, ?_⟩
  · show rxIMB_3 S0 ws S_p (bx_val [(0, 0), (0, 0), (0, 0), (0, 0), (0, 0), (0, 0), (0, 0), (0, 0), (8, 0), (0, 0), (0, 0)] r_p 8) (bx_val [(0, 0), (0, 0), (0, 0), (0, 0), (0, 0), (0, 0), (0, 0), (0, 0), (8, 0), (0, 0), (0, 0)] r_p 9) (bx_val [(0, 0), (0, 0), (0, 0), (0, 0), (0, 0), (0, 0), (0, 0), (0, 0), (8, 0), (0, 0), (0, 0)] r_p 10)
    rw [bx_val_x (n := 8) (e := (8, 0)) h0_ rfl, bx_val_x (n := 9) (e := (0, 0)) h0_ rfl, bx_val_x (n := 10) (e := (0, 0)) h0_ rfl]
    exact g.2.2.1
  · show rxmMB_3 S0 ws S_p (bx_val [(0, 0), (0, 0), (0, 0), (0, 0), (0, 0), (0, 0), (0, 0), (0, 0), (8, 0), (0, 0), (0, 0)] r_p 8) (bx_val [(0, 0), (0, 0), (0, 0), (0, 0), (0, 0), (0, 0), (0, 0), (0, 0), (8, 0), (0, 0), (0, 0)] r_p 9) (bx_val [(0, 0), (0, 0), (0, 0), (0, 0), (0, 0), (0, 0), (0, 0), (0, 0), (8, 0), (0, 0), (0, 0)] r_p 10) < rxmMB_2 S0 ws S_p (r 8)
    rw [bx_val_x (n := 8) (e := (8, 0)) h0_ rfl, bx_val_x (n := 9) (e := (0, 0)) h0_ rfl, bx_val_x (n := 10) (e := (0, 0)) h0_ rfl, ← hr_ 8 (by decide)]
    exact g.2.2.2
theorem rxcMB_3_0 {S0 : Nat → Int → Int} {ws : List Int} {S : Nat → Int → Int} {m its w_ x11 x12 x13 : Int} (hP : rxPMB S0 ws) (hin : bx_same rxL (bx_mdl rxCMB.2.2.1) S0 S) (I0 : bx_Inv rxL S) (hinv : rxIMB_3 S0 ws S m its w_) (l8 : 0 ≤ m) (u8 : m ≤ 9) (l9 : 0 ≤ its) (u9 : its ≤ 1023) (l10 : 0 ≤ w_) (u10 : w_ ≤ 9) (l11 : (-2147483648) ≤ x11) (u11 : x11 ≤ 2147483647) (l12 : (-2147483648) ≤ x12) (u12 : x12 ≤ 2147483647) (l13 : 1 ≤ x13) (u13 : x13 ≤ 512) (f0 : x11 = x12) (f1 : m ≠ (-1)) (e1 : S 504 w_ = x11) (e0 : S 504 m = x12) : (True) ∧ (True) ∧ rxIMB_4 S0 ws S m its w_ its x13 ∧ rxmMB_4 S0 ws S m its w_ its x13 < rxmMB_3 S0 ws S m its w_ := by
  obtain ⟨hs, h⟩ := hinv
  exact ⟨trivial, trivial, ⟨hs, h, fun q => by omega⟩, by unfold rxmMB_3 rxmMB_4; omega⟩
theorem rxgMB_3_0 {X : (Nat → Int → Int) → Prop} {S0 : Nat → Int → Int} {ws : List Int} (hP : rxPMB S0 ws) : bx_obC rxL X S0 rxCMB.2.2.1 (rxIMB S0 ws) (rxmMB S0 ws) 3 rxzMB_3 rxoMB_3_0 := by
  intro S S_p r r_p hinv hX hin hsm_ hseg
  obtain ⟨I0, I1, h0_, hr_, b_, f_, d_⟩ := bx_cl (evs := [(0, (0, 504), (8, 0), .inr (0, (12, 0))), (0, (0, 504), (10, 0), .inr (0, (11, 0)))]) (fvs := [(2, (11, 0), (12, 0), (0, 0)), (3, (8, 0), (0, (-1)), (0, 0))]) hseg (by decide +kernel) (by decide +kernel)
  have hinv : rxIMB_3 S0 ws S (r 8) (r 9) (r 10) := hinv
  rw [← hr_ 8 (by decide), ← hr_ 9 (by decide), ← hr_ 10 (by decide)] at hinv
  obtain ⟨⟨l8, u8⟩, ⟨l9, u9⟩, ⟨l10, u10⟩, ⟨l11, u11⟩, ⟨l12, u12⟩, ⟨l13, u13⟩, -⟩ := b_
  obtain ⟨f0, f1, -⟩ := f_
  obtain ⟨e0, ⟨e1, w_⟩⟩ := d_
  subst w_
  have g := rxcMB_3_0 hP hin I0 hinv l8 u8 l9 u9 l10 u10 l11 u11 l12 u12 l13 u13 f0 f1 e1 e0
  refine ⟨bx_narP_ok (l := []) g.1, bx_nfP_ok h0_ (fvs := []) (by decide +kernel) g.2.1, ?_, ?_⟩
  · show rxIMB_4 S0 ws S_p (bx_val [(0, 0), (0, 0), (0, 0), (0, 0), (0, 0), (0, 0), (0, 0), (0, 0), (8, 0), (9, 0), (10, 0), (9, 0), (13, 0)] r_p 8) (bx_val [(0, 0), (0, 0), (0, 0), (0, 0), (0, 0), (0, 0), (0, 0), (0, 0), (8, 0), (9, 0), (10, 0), (9, 0), (13, 0)] r_p 9) (bx_val [(0, 0), (0, 0), (0, 0), (0, 0), (0, 0), (0, 0), (0, 0), (0, 0), (8, 0), (9, 0), (10, 0), (9, 0), (13, 0)] r_p 10) (bx_val [(0, 0), (0, 0), (0, 0), (0, 0), (0, 0), (0, 0), (0, 0), (0, 0), (8, 0), (9, 0), (10, 0), (9, 0), (13, 0)] r_p 11) (bx_val [(0, 0), (0, 0), (0, 0), (0, 0), (0, 0), (0, 0), (0, 0), (0, 0), (8, 0), (9, 0), (10, 0), (9, 0), (13, 0)] r_p 12)
    rw [bx_val_x (n := 8) (e := (8, 0)) h0_ rfl, bx_val_x (n := 9) (e := (9, 0)) h0_ rfl, bx_val_x (n := 10) (e := (10, 0)) h0_ rfl, bx_val_x (n := 11) (e := (9, 0)) h0_ rfl, bx_val_x (n := 12) (e := (13, 0)) h0_ rfl]
    exact g.2.2.1
  · show rxmMB_4 S0 ws S_p (bx_val [(0, 0), (0, 0), (0, 0), (0, 0), (0, 0), (0, 0), (0, 0), (0, 0), (8, 0), (9, 0), (10, 0), (9, 0), (13, 0)] r_p 8) (bx_val [(0, 0), (0, 0), (0, 0), (0, 0), (0, 0), (0, 0), (0, 0), (0, 0), (8, 0), (9, 0), (10, 0), (9, 0), (13, 0)] r_p 9) (bx_val [(0, 0), (0, 0), (0, 0), (0, 0), (0, 0), (0, 0), (0, 0), (0, 0), (8, 0), (9, 0), (10, 0), (9, 0), (13, 0)] r_p 10) (bx_val [(0, 0), (0, 0), (0, 0), (0, 0), (0, 0), (0, 0), (0, 0), (0, 0), (8, 0), (9, 0), (10, 0), (9, 0), (13, 0)] r_p 11) (bx_val [(0, 0), (0, 0), (0, 0), (0, 0), (0, 0), (0, 0), (0, 0), (0, 0), (8, 0), (9, 0), (10, 0), (9, 0), (13, 0)] r_p 12) < rxmMB_3 S0 ws S_p (r 8) (r 9) (r 10)
    rw [bx_val_x (n := 8) (e := (8, 0)) h0_ rfl, bx_val_x (n := 9) (e := (9, 0)) h0_ rfl, bx_val_x (n := 10) (e := (10, 0)) h0_ rfl, bx_val_x (n := 11) (e := (9, 0)) h0_ rfl, bx_val_x (n := 12) (e := (13, 0)) h0_ rfl, ← hr_ 8 (by decide), ← hr_ 9 (by decide), ← hr_ 10 (by decide)]
    exact g.2.2.2
theorem rxcMB_3_1 {S0 : Nat → Int → Int} {ws : List Int} {S : Nat → Int → Int} {m its w_ x11 x12 : Int} (hP : rxPMB S0 ws) (hin : bx_same rxL (bx_mdl rxCMB.2.2.1) S0 S) (I0 : bx_Inv rxL S) (hinv : rxIMB_3 S0 ws S m its w_) (l8 : 0 ≤ m) (u8 : m ≤ 9) (l9 : 0 ≤ its) (u9 : its ≤ 1023) (l10 : 0 ≤ w_) (u10 : w_ ≤ 9) (l11 : (-2147483648) ≤ x11) (u11 : x11 ≤ 2147483647) (l12 : (-2147483648) ≤ x12) (u12 : x12 ≤ 2147483647) (f0 : x11 ≠ x12) (f1 : m ≠ (-1)) (e1 : S 504 w_ = x11) (e0 : S 504 m = x12) : (True) ∧ (True) ∧ rxIMB_4 S0 ws S m its w_ its 0 ∧ rxmMB_4 S0 ws S m its w_ its 0 < rxmMB_3 S0 ws S m its w_ := by
  obtain ⟨hs, h⟩ := hinv
  refine ⟨trivial, trivial, ⟨hs, h, fun q => ?_⟩, by unfold rxmMB_3 rxmMB_4; omega⟩
  subst q
  have a := e1.symm.trans e0
  omega
theorem rxgMB_3_1 {X : (Nat → Int → Int) → Prop} {S0 : Nat → Int → Int} {ws : List Int} (hP : rxPMB S0 ws) : bx_obC rxL X S0 rxCMB.2.2.1 (rxIMB S0 ws) (rxmMB S0 ws) 3 rxzMB_3 rxoMB_3_1 := by
  intro S S_p r r_p hinv hX hin hsm_ hseg
  obtain ⟨I0, I1, h0_, hr_, b_, f_, d_⟩ := bx_cl (evs := [(0, (0, 504), (8, 0), .inr (0, (12, 0))), (0, (0, 504), (10, 0), .inr (0, (11, 0)))]) (fvs := [(3, (11, 0), (12, 0), (0, 0)), (3, (8, 0), (0, (-1)), (0, 0))]) hseg (by decide +kernel) (by decide +kernel)
  have hinv : rxIMB_3 S0 ws S (r 8) (r 9) (r 10) := hinv
  rw [← hr_ 8 (by decide), ← hr_ 9 (by decide), ← hr_ 10 (by decide)] at hinv
  obtain ⟨⟨l8, u8⟩, ⟨l9, u9⟩, ⟨l10, u10⟩, ⟨l11, u11⟩, ⟨l12, u12⟩, -⟩ := b_
  obtain ⟨f0, f1, -⟩ := f_
  obtain ⟨e0, ⟨e1, w_⟩⟩ := d_
  subst w_
  have g := rxcMB_3_1 hP hin I0 hinv l8 u8 l9 u9 l10 u10 l11 u11 l12 u12 f0 f1 e1 e0
  refine ⟨bx_narP_ok (l := []) g.1, bx_nfP_ok h0_ (fvs := []) (by decide +kernel) g.2.1, ?_, ?_⟩
  · show rxIMB_4 S0 ws S_p (bx_val [(0, 0), (0, 0), (0, 0), (0, 0), (0, 0), (0, 0), (0, 0), (0, 0), (8, 0), (9, 0), (10, 0), (9, 0), (0, 0)] r_p 8) (bx_val [(0, 0), (0, 0), (0, 0), (0, 0), (0, 0), (0, 0), (0, 0), (0, 0), (8, 0), (9, 0), (10, 0), (9, 0), (0, 0)] r_p 9) (bx_val [(0, 0), (0, 0), (0, 0), (0, 0), (0, 0), (0, 0), (0, 0), (0, 0), (8, 0), (9, 0), (10, 0), (9, 0), (0, 0)] r_p 10) (bx_val [(0, 0), (0, 0), (0, 0), (0, 0), (0, 0), (0, 0), (0, 0), (0, 0), (8, 0), (9, 0), (10, 0), (9, 0), (0, 0)] r_p 11) (bx_val [(0, 0), (0, 0), (0, 0), (0, 0), (0, 0), (0, 0), (0, 0), (0, 0), (8, 0), (9, 0), (10, 0), (9, 0), (0, 0)] r_p 12)
    rw [bx_val_x (n := 8) (e := (8, 0)) h0_ rfl, bx_val_x (n := 9) (e := (9, 0)) h0_ rfl, bx_val_x (n := 10) (e := (10, 0)) h0_ rfl, bx_val_x (n := 11) (e := (9, 0)) h0_ rfl, bx_val_x (n := 12) (e := (0, 0)) h0_ rfl]
    exact g.2.2.1
  · show rxmMB_4 S0 ws S_p (bx_val [(0, 0), (0, 0), (0, 0), (0, 0), (0, 0), (0, 0), (0, 0), (0, 0), (8, 0), (9, 0), (10, 0), (9, 0), (0, 0)] r_p 8) (bx_val [(0, 0), (0, 0), (0, 0), (0, 0), (0, 0), (0, 0), (0, 0), (0, 0), (8, 0), (9, 0), (10, 0), (9, 0), (0, 0)] r_p 9) (bx_val [(0, 0), (0, 0), (0, 0), (0, 0), (0, 0), (0, 0), (0, 0), (0, 0), (8, 0), (9, 0), (10, 0), (9, 0), (0, 0)] r_p 10) (bx_val [(0, 0), (0, 0), (0, 0), (0, 0), (0, 0), (0, 0), (0, 0), (0, 0), (8, 0), (9, 0), (10, 0), (9, 0), (0, 0)] r_p 11) (bx_val [(0, 0), (0, 0), (0, 0), (0, 0), (0, 0), (0, 0), (0, 0), (0, 0), (8, 0), (9, 0), (10, 0), (9, 0), (0, 0)] r_p 12) < rxmMB_3 S0 ws S_p (r 8) (r 9) (r 10)
    rw [bx_val_x (n := 8) (e := (8, 0)) h0_ rfl, bx_val_x (n := 9) (e := (9, 0)) h0_ rfl, bx_val_x (n := 10) (e := (10, 0)) h0_ rfl, bx_val_x (n := 11) (e := (9, 0)) h0_ rfl, bx_val_x (n := 12) (e := (0, 0)) h0_ rfl, ← hr_ 8 (by decide), ← hr_ 9 (by decide), ← hr_ 10 (by decide)]
    exact g.2.2.2
theorem rxdMB_3_0 {S0 : Nat → Int → Int} {ws : List Int} {S : Nat → Int → Int} {m its w_ : Int} (hP : rxPMB S0 ws) (hin : bx_same rxL (bx_mdl rxCMB.2.2.1) S0 S) (hin2 : bx_same rxL (bx_mdl rxCMB.2.2.1) S S) (I0 : bx_Inv rxL S) (I1 : bx_Inv rxL S) (hinv : rxIMB_3 S0 ws S m its w_) (l8 : 0 ≤ m) (u8 : m ≤ 9) (l9 : 0 ≤ its) (u9 : its ≤ 1023) (l10 : 10 ≤ w_) (u10 : w_ ≤ 10) : ((1 ≤ its ∧ its ≤ 1023) ∧ True) ∧ rxPSMB S0 ws S (some its) := by
  obtain ⟨hs, h⟩ := hinv
  have := h (by omega)
  exact ⟨⟨by omega, trivial⟩, hs⟩
theorem rxfMB_3_0 {X : (Nat → Int → Int) → Prop} {S0 : Nat → Int → Int} {ws : List Int} (hP : rxPMB S0 ws) : bx_obE rxL X S0 rxCMB.2.2.1 (rxIMB S0 ws) (rxPSMB S0 ws) 3 rxzMB_3 rxeMB_3_0 := by
  intro S S_p r r_p hinv hX hin hsm_ hseg
  obtain ⟨I0, I1, h0_, hr_, b_, f_, d_⟩ := bx_cl (evs := []) (fvs := []) hseg (by decide +kernel) (by decide +kernel)
  have hinv : rxIMB_3 S0 ws S (r 8) (r 9) (r 10) := hinv
  rw [← hr_ 8 (by decide), ← hr_ 9 (by decide), ← hr_ 10 (by decide)] at hinv
  obtain ⟨⟨l8, u8⟩, ⟨l9, u9⟩, ⟨l10, u10⟩, -⟩ := b_
  have w_ := d_
  subst w_
  have g := rxdMB_3_0 hP hin hsm_ I0 I1 hinv l8 u8 l9 u9 l10 u10
  refine ⟨bx_narP_ok (l := [(9, 1, 1023)]) g.1, ?_⟩
  show rxPSMB S0 ws S_p (some (bx_num r_p (.inr (0, (9, 0)))))
  rw [bx_xv_ok h0_]
  exact g.2
theorem rxcMB_5_0 {S0 : Nat → Int → Int} {ws : List Int} {S : Nat → Int → Int} {m its w_ a b c : Int} (hP : rxPMB S0 ws) (hin : bx_same rxL (bx_mdl rxCMB.2.2.1) S0 S) (I0 : bx_Inv rxL S) (hinv : rxIMB_5 S0 ws S m its w_ a b c) (l8 : 0 ≤ m) (u8 : m ≤ 9) (l9 : 0 ≤ its) (u9 : its ≤ 1023) (l10 : 0 ≤ w_) (u10 : w_ ≤ 9) (l11 : 0 ≤ a) (u11 : a ≤ 1023) (l12 : 0 ≤ b) (u12 : b ≤ 512) (l13 : 0 ≤ c) (u13 : c ≤ 1023) : (True) ∧ (True) ∧ rxIMB_3 S0 ws S m c (w_ + 1) ∧ rxmMB_3 S0 ws S m c (w_ + 1) < rxmMB_5 S0 ws S m its w_ a b c := by
  exact ⟨trivial, trivial, hinv, by unfold rxmMB_5 rxmMB_3; omega⟩
theorem rxgMB_5_0 {X : (Nat → Int → Int) → Prop} {S0 : Nat → Int → Int} {ws : List Int} (hP : rxPMB S0 ws) : bx_obC rxL X S0 rxCMB.2.2.1 (rxIMB S0 ws) (rxmMB S0 ws) 5 rxzMB_5 rxoMB_5_0 := by
  intro S S_p r r_p hinv hX hin hsm_ hseg
  obtain ⟨I0, I1, h0_, hr_, b_, f_, d_⟩ := bx_cl (evs := []) (fvs := []) hseg (by decide +kernel) (by decide +kernel)
  have hinv : rxIMB_5 S0 ws S (r 8) (r 9) (r 10) (r 11) (r 12) (r 13) := hinv
  rw [← hr_ 8 (by decide), ← hr_ 9 (by decide), ← hr_ 10 (by decide), ← hr_ 11 (by decide), ← hr_ 12 (by decide), ← hr_ 13 (by decide)] at hinv
  obtain ⟨⟨l8, u8⟩, ⟨l9, u9⟩, ⟨l10, u10⟩, ⟨l11, u11⟩, ⟨l12, u12⟩, ⟨l13, u13⟩, -⟩ := b_
  have w_ := d_
  subst w_
  have g := rxcMB_5_0 hP hin I0 hinv l8 u8 l9 u9 l10 u10 l11 u11 l12 u12 l13 u13
  refine ⟨bx_narP_ok (l := []) g.1, bx_nfP_ok h0_ (fvs := []) (by decide +kernel) g.2.1, ?_, ?_⟩
  · show rxIMB_3 S0 ws S_p (bx_val [(0, 0), (0, 0), (0, 0), (0, 0), (0, 0), (0, 0), (0, 0), (0, 0), (8, 0), (13, 0), (10, 1)] r_p 8) (bx_val [(0, 0), (0, 0), (0, 0), (0, 0), (0, 0), (0, 0), (0, 0), (0, 0), (8, 0), (13, 0), (10, 1)] r_p 9) (bx_val [(0, 0), (0, 0), (0, 0), (0, 0), (0, 0), (0, 0), (0, 0), (0, 0), (8, 0), (13, 0), (10, 1)] r_p 10)
    rw [bx_val_x (n := 8) (e := (8, 0)) h0_ rfl, bx_val_x (n := 9) (e := (13, 0)) h0_ rfl, bx_val_x (n := 10) (e := (10, 1)) h0_ rfl]
    exact g.2.2.1
  · show rxmMB_3 S0 ws S_p (bx_val [(0, 0), (0, 0), (0, 0), (0, 0), (0, 0), (0, 0), (0, 0), (0, 0), (8, 0), (13, 0), (10, 1)] r_p 8) (bx_val [(0, 0), (0, 0), (0, 0), (0, 0), (0, 0), (0, 0), (0, 0), (0, 0), (8, 0), (13, 0), (10, 1)] r_p 9) (bx_val [(0, 0), (0, 0), (0, 0), (0, 0), (0, 0), (0, 0), (0, 0), (0, 0), (8, 0), (13, 0), (10, 1)] r_p 10) < rxmMB_5 S0 ws S_p (r 8) (r 9) (r 10) (r 11) (r 12) (r 13)
    rw [bx_val_x (n := 8) (e := (8, 0)) h0_ rfl, bx_val_x (n := 9) (e := (13, 0)) h0_ rfl, bx_val_x (n := 10) (e := (10, 1)) h0_ rfl, ← hr_ 8 (by decide), ← hr_ 9 (by decide), ← hr_ 10 (by decide), ← hr_ 11 (by decide), ← hr_ 12 (by decide), ← hr_ 13 (by decide)]
    exact g.2.2.2
theorem rxgCMB {X : (Nat → Int → Int) → Prop} {S0 : Nat → Int → Int} {ws : List Int} (hP : rxPMB S0 ws) : bx_allI (fun i q => rxUMB q = true ∨ bx_allP (fun o => bx_obC rxL X S0 rxCMB.2.2.1 (rxIMB S0 ws) (rxmMB S0 ws) i q.1 o) q.2.1) 0 rxYMB := ⟨Or.inr ⟨rxgMB_0_0 hP, trivial⟩, Or.inl rfl, Or.inr ⟨rxgMB_2_0 hP, trivial⟩, Or.inr ⟨rxgMB_3_0 hP, rxgMB_3_1 hP, trivial⟩, Or.inl rfl, Or.inr ⟨rxgMB_5_0 hP, trivial⟩, trivial⟩
theorem rxgEMB {X : (Nat → Int → Int) → Prop} {S0 : Nat → Int → Int} {ws : List Int} (hP : rxPMB S0 ws) : bx_allI (fun i q => rxUMB q = true ∨ bx_allP (fun E => bx_obE rxL X S0 rxCMB.2.2.1 (rxIMB S0 ws) (rxPSMB S0 ws) i q.1 E) q.2.2) 0 rxYMB := ⟨Or.inr trivial, Or.inl rfl, Or.inr trivial, Or.inr ⟨rxfMB_3_0 hP, trivial⟩, Or.inl rfl, Or.inr trivial, trivial⟩
theorem rxuMB {PX : State → Prop} {Dg : va_G} {A : Nat → Prop} {ad xa : Nat → Nat} {l : Launch} {X : (Nat → Int → Int) → Prop} (hPX : rx_PXOK rxNW A PX) (hX : ∀ S S1 : Nat → Int → Int, X S → bx_same rxL (bx_mdl rxCMB.2.2.1) S S1 → X S1) (hQMO : bx_ConP rxG rxNW rxAO PX Dg rxL X vwCl A ad l rxM307 rxCMO rxPMO rxPSMO) {S0 : Nat → Int → Int} {ws : List Int} (hP : rxPMB S0 ws) : ∀ (i : Nat) (q : bx_HE), rxYMB[i]? = some q → rxUMB q = true → ∀ {p : Program} {e : Env} {R : Room} {s : State} {m : MethodId} {args : Array Value} {below : List Frame} {meth : Method} {c : Code} {Q : State → Prop} {H0 : Heap}, rx_Fr rxG rxNW rxAO PX p s m args meth c rxM309 → (∀ q, H0.size ≤ q → A q) → H0 = s.heap → rxM309.2.2.2.2.2.2.1 ≤ R.cells → rxM309.2.2.2.2.2.2.2 ≤ R.slots → rxCMB.2.2.2.1 ≤ R.frames → rxCMB.2.2.2.1 * 40 ≤ R.locals → bx_Step p l e R s m args below meth c Q Dg rxL X vwCl A xa H0 ad rxM309 rxYMB (rxIMB S0 ws) (rxmMB S0 ws) S0 rxCMB.2.2.1 i q := by
  intro i q hq hus p e R s m args below meth c Q H0 hF hA hH0 hmc hms hd hdl
  match i, hq with
  | 0, hq =>
    cases hq
    exact absurd (show false = true from hus) Bool.false_ne_true
  | 1, hq =>
    cases hq
    exact rx_stepC (ins := .invokevirtual 527) (len := 3) (i_p := 2) (M_p := rxM307) (d := rxCMB.2.2.2.1) (as := [.inr (3, (0, 480))]) (t := []) (ct := rxCMO) hPX hF rfl hA hH0 hmc hms hd hdl (by decide +kernel) rfl rfl (by decide +kernel) (by decide +kernel) hQMO (by decide +kernel) rfl (Or.inr ⟨_, _, _, 1, rfl, rfl, by omega, rfl, rfl, rfl⟩) (rxsMB_1 hP)
  | 2, hq =>
    cases hq
    exact absurd (show false = true from hus) Bool.false_ne_true
  | 3, hq =>
    cases hq
    exact absurd (show false = true from hus) Bool.false_ne_true
  | 4, hq =>
    cases hq
    exact rx_stepB (i_p := 5) (o := 6) (a := (11, 0)) (b := (12, 0)) (lo := 0) (hi := 1023) (t := []) hF (Or.inr (Or.inr (Or.inr ⟨rfl, rfl⟩))) (by decide +kernel) rfl rfl rfl rfl (rxsMB_4 hP)
  | 5, hq =>
    cases hq
    exact absurd (show false = true from hus) Bool.false_ne_true
  | n + 6, hq => cases hq
theorem rxQMB {PX : State → Prop} {Dg : va_G} {A : Nat → Prop} {ad xa : Nat → Nat} {l : Launch} {X : (Nat → Int → Int) → Prop} (hPX : rx_PXOK rxNW A PX) (hsl : ∀ s : State, PX s → ∀ o idx n : Nat, rxSl o idx = some n → ∃ tx : String, vk_R (rxNm o) idx tx (ad n) s)
    (hX : ∀ S S_p : Nat → Int → Int, X S → bx_same rxL (bx_mdl rxCMB.2.2.1) S S_p → X S_p)
    (ih : ∀ (j2 : Nat) (ct2 : bx_Ct) (M2 : rx_Mt), ct2 ∈ rxCnE j2 → ct2.2.2.2.1 + 1 ≤ rxCMB.2.2.2.1 → rxT.2.2.2.2.2 j2 = some M2 → bx_Con rxG rxNW rxAO PX Dg rxL X vwCl A ad l M2 ct2) (hQMO : bx_ConP rxG rxNW rxAO PX Dg rxL X vwCl A ad l rxM307 rxCMO rxPMO rxPSMO) : bx_ConP rxG rxNW rxAO PX Dg rxL X vwCl A ad l rxM309 rxCMB rxPMB rxPSMB :=
  rxQof (xa := xa) (Cn := rxCnE) (f := 30000) (j := 309) (tab := rxYMB) (us := rxUMB) hPX hsl hX ih rfl rxYcMB rxIMB rxmMB
    (fun S0 ws r I0 I ht0 ht as he he1 hX0 hI0 hP hs ha => by
      have e := he.symm.trans (show bx_ent0 rxNP rxCMB.1 bx_I0 [] = some ([(0, 0), (0, 0), (0, 0), (0, 0), (0, 0), (0, 0), (0, 0), (0, 0)], [], [.inr (3, (0, 480))]) from rfl)
      cases e
      subst ha
      have h0 : r 0 = 0 := hs.1
      show rxIMB_0 S0 _ S0
      refine ⟨rfl, ?_⟩
      simp only [List.map_cons, List.map_nil, bx_xv_ok h0]
      rfl)
    (fun S0 ws hP => rxuMB (xa := xa) hPX hX hQMO hP) (fun S0 ws hP => rxgCMB hP) (fun S0 ws hP => rxgEMB hP)
