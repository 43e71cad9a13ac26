theorem rxDf_cg {S S1 : Nat → Int → Int} {r k : Int} (h : S1 482 = S 482) : rxDf S1 r k = rxDf S r k := by
  funext x
  unfold rxDf
  rw [h]
noncomputable def rxCFR2 : bx_Ct := ([(3, (1, 480, 0))], none, [(1093, 0)], 0, [])
noncomputable def rxIFR2_0 (S0 : Nat → Int → Int) (ws : List Int) (S : Nat → Int → Int) : Prop := S = S0 ∧ ws = [480]
noncomputable def rxmFR2_0 (S0 : Nat → Int → Int) (ws : List Int) (S : Nat → Int → Int) : Nat := 10000
noncomputable def rxzFR2_0 : rx_Z := ([(0, 0), (0, 0), (0, 0), (0, 0), (0, 0), (0, 0), (0, 0), (0, 0)], [], [], 0, 0, 0, [(0, .inr (3, (0, 480)))], [])
noncomputable def rxIFR2_1 (S0 : Nat → Int → Int) (ws : List Int) (S : Nat → Int → Int) (n r : Int) : Prop := n = (rx_cnt (rxDf S r 0) (S 482 6).toNat : Int) ∧ ∀ i : Int, 0 ≤ i → i < n → ∃ j : Int, 0 ≤ j ∧ j < 12 ∧ S 512 i = 742 + 3 * j
noncomputable def rxmFR2_1 (S0 : Nat → Int → Int) (ws : List Int) (S : Nat → Int → Int) (n r : Int) : Nat := 1000 * (6 - r).toNat + 900
noncomputable def rxzFR2_1 : rx_Z := ([(0, 0), (0, 0), (0, 0), (0, 0), (0, 0), (0, 0), (0, 0), (0, 0), (0, 12), (0, 4)], [], [], 0, 0, 4, [(0, .inr (3, (0, 480))), (1, .inr (0, (8, 0))), (2, .inr (0, (9, 0)))], [])
noncomputable def rxIFR2_2 (S0 : Nat → Int → Int) (ws : List Int) (S : Nat → Int → Int) (n r k : Int) : Prop := n = (rx_cnt (rxDf S r k) (S 482 6).toNat : Int) ∧ ∀ i : Int, 0 ≤ i → i < n → ∃ j : Int, 0 ≤ j ∧ j < 12 ∧ S 512 i = 742 + 3 * j
noncomputable def rxmFR2_2 (S0 : Nat → Int → Int) (ws : List Int) (S : Nat → Int → Int) (n r k : Int) : Nat := 1000 * (6 - r).toNat + 10 * (20 - k).toNat + 9
noncomputable def rxzFR2_2 : rx_Z := ([(0, 0), (0, 0), (0, 0), (0, 0), (0, 0), (0, 0), (0, 0), (0, 0), (0, 12), (0, 3), (0, 12)], [], [], 0, 0, 11, [(0, .inr (3, (0, 480))), (1, .inr (0, (8, 0))), (2, .inr (0, (9, 0))), (3, .inr (0, (10, 0)))], [])
noncomputable def rxIFR2_3 (S0 : Nat → Int → Int) (ws : List Int) (S : Nat → Int → Int) (n r k n2 v : Int) : Prop := n2 = n ∧ v = 742 + 3 * k ∧ S 482 (742 + 3 * k) = r ∧ k < S 482 6 ∧ n = (rx_cnt (rxDf S r k) (S 482 6).toNat : Int) ∧ ∀ i : Int, 0 ≤ i → i < n → ∃ j : Int, 0 ≤ j ∧ j < 12 ∧ S 512 i = 742 + 3 * j
noncomputable def rxmFR2_3 (S0 : Nat → Int → Int) (ws : List Int) (S : Nat → Int → Int) (n r k n2 v : Int) : Nat := 1000 * (6 - r).toNat + 10 * (20 - k).toNat + 8
noncomputable def rxzFR2_3 : rx_Z := ([(0, 0), (0, 0), (0, 0), (0, 0), (0, 0), (0, 0), (0, 0), (0, 0), (0, 11), (0, 3), (0, 11), (0, 11), (742, 775)], [], [], 0, 0, 50, [(0, .inr (3, (0, 480))), (1, .inr (0, (8, 0))), (2, .inr (0, (9, 0))), (3, .inr (0, (10, 0)))], [.inr (0, (12, 0)), .inr (0, (11, 0)), .inr (3, (0, 512))])
noncomputable def rxoFR2_0_0 : bx_HO := (([(0, 0), (0, 0), (0, 0), (0, 0), (0, 0), (0, 0), (0, 0), (0, 0)], [], [], 0, 0, 4, [(2, .inr (0, (0, 0))), (1, .inr (0, (0, 0))), (0, .inr (3, (0, 480)))], []), [], [], [(0, 0), (0, 0), (0, 0), (0, 0), (0, 0), (0, 0), (0, 0), (0, 0), (0, 0), (0, 0)], 1)
noncomputable def rxoFR2_1_0 : bx_HO := (([(0, 0), (0, 0), (0, 0), (0, 0), (0, 0), (0, 0), (0, 0), (0, 0), (0, 12), (0, 3)], [], [], 0, 0, 11, [(3, .inr (0, (0, 0))), (0, .inr (3, (0, 480))), (1, .inr (0, (8, 0))), (2, .inr (0, (9, 0)))], []), [], [], [(0, 0), (0, 0), (0, 0), (0, 0), (0, 0), (0, 0), (0, 0), (0, 0), (8, 0), (9, 0), (0, 0)], 2)
noncomputable def rxeFR2_1_0 : rx_End × List (Nat × Int × Int) := (([(0, 0), (0, 0), (0, 0), (0, 0), (0, 0), (0, 0), (0, 0), (0, 0), (0, 12), (4, 4)], [], [], none), [])
noncomputable def rxoFR2_2_0 : bx_HO := (([(0, 0), (0, 0), (0, 0), (0, 0), (0, 0), (0, 0), (0, 0), (0, 0), (0, 12), (0, 3), (0, 11), (1, 12), (0, 33), (0, 3), (0, 33)], [(7, (14, 0), (10, 0)), (2, (13, 0), (9, 0)), (7, (12, 0), (10, 0)), (0, (10, 0), (11, 0))], [(((0, 480), 61), .inr (3, (0, 512))), (((0, 0), 1851192626986356946348753516660148118640598684229403945741713408000000), .inr (0, (13, 0))), (((0, 0), 1851192626986356798628580571097672967753946801749054699160600576000000), .inr (0, (11, 0))), (((0, 482), 6), .inr (0, (11, 0))), (((0, 480), 3), .inr (3, (0, 482)))], 0, 0, 50, [(0, .inr (3, (0, 480))), (1, .inr (0, (8, 0))), (2, .inr (0, (9, 0))), (3, .inr (0, (10, 0)))], [.inr (0, (14, 742)), .inr (0, (8, 0)), .inr (3, (0, 512))]), [(8, 0, 11), (8, 0, 11)], [], [(0, 0), (0, 0), (0, 0), (0, 0), (0, 0), (0, 0), (0, 0), (0, 0), (8, 0), (9, 0), (10, 0), (8, 0), (14, 742)], 3)
noncomputable def rxoFR2_2_1 : bx_HO := (([(0, 0), (0, 0), (0, 0), (0, 0), (0, 0), (0, 0), (0, 0), (0, 0), (0, 12), (0, 3), (0, 11), (1, 12), (0, 33), (0, 3)], [(3, (13, 0), (9, 0)), (7, (12, 0), (10, 0)), (0, (10, 0), (11, 0))], [(((0, 0), 1851192626986356946348753516660148118640598684229403945741713408000000), .inr (0, (13, 0))), (((0, 0), 1851192626986356798628580571097672967753946801749054699160600576000000), .inr (0, (11, 0))), (((0, 482), 6), .inr (0, (11, 0))), (((0, 480), 3), .inr (3, (0, 482)))], 0, 0, 11, [(3, .inr (0, (10, 1))), (0, .inr (3, (0, 480))), (1, .inr (0, (8, 0))), (2, .inr (0, (9, 0)))], []), [], [], [(0, 0), (0, 0), (0, 0), (0, 0), (0, 0), (0, 0), (0, 0), (0, 0), (8, 0), (9, 0), (10, 1)], 2)
noncomputable def rxoFR2_2_2 : bx_HO := (([(0, 0), (0, 0), (0, 0), (0, 0), (0, 0), (0, 0), (0, 0), (0, 0), (0, 12), (0, 3), (0, 12), (0, 12)], [(1, (11, 0), (10, 0))], [(((0, 0), 1851192626986356798628580571097672967753946801749054699160600576000000), .inr (0, (11, 0))), (((0, 482), 6), .inr (0, (11, 0))), (((0, 480), 3), .inr (3, (0, 482)))], 0, 0, 4, [(2, .inr (0, (9, 1))), (0, .inr (3, (0, 480))), (1, .inr (0, (8, 0))), (3, .inr (0, (10, 0)))], []), [], [], [(0, 0), (0, 0), (0, 0), (0, 0), (0, 0), (0, 0), (0, 0), (0, 0), (8, 0), (9, 1)], 1)
noncomputable def rxoFR2_3_0 : bx_HO := (([(0, 0), (0, 0), (0, 0), (0, 0), (0, 0), (0, 0), (0, 0), (0, 0), (0, 11), (0, 3), (0, 11), (0, 11), (742, 775)], [], [(((0, 0), 1851192626986356797424374018331344491018900889112178922908286979000000), .inr (0, (12, 0)))], 0, 0, 11, [(3, .inr (0, (10, 1))), (1, .inr (0, (8, 1))), (0, .inr (3, (0, 480))), (2, .inr (0, (9, 0)))], []), [], [], [(0, 0), (0, 0), (0, 0), (0, 0), (0, 0), (0, 0), (0, 0), (0, 0), (8, 1), (9, 0), (10, 1)], 2)
noncomputable def rxYFR2 : List bx_HE := [(rxzFR2_0, [rxoFR2_0_0], []), (rxzFR2_1, [rxoFR2_1_0], [rxeFR2_1_0]), (rxzFR2_2, [rxoFR2_2_0, rxoFR2_2_1, rxoFR2_2_2], []), (rxzFR2_3, [rxoFR2_3_0], [])]
noncomputable def rxUFR2 (q : bx_HE) : Bool := false
noncomputable def rxYBFR2 : bx_B := (rxV, rxNP, rxDmf, bx_mdH rxCFR2.2.2.1)
set_option maxRecDepth 100000 in
theorem rxYcFR2 : bx_chkH rxYBFR2 rxM322 rxCFR2 rxYFR2 (rxUFR2, fun cut z => rx_ex2 (rxCT rxYBFR2 rxCnE) cut 30000 rxCFR2.2.2.2.1 322 z) = true := by decide +kernel
noncomputable def rxIFR2 (S0 : Nat → Int → Int) (ws : List Int) (i : Nat) : bx_SP := fun S r => match i with | 0 => rxIFR2_0 S0 ws S | 1 => rxIFR2_1 S0 ws S (r 8) (r 9) | 2 => rxIFR2_2 S0 ws S (r 8) (r 9) (r 10) | 3 => rxIFR2_3 S0 ws S (r 8) (r 9) (r 10) (r 11) (r 12) | _ => False
noncomputable def rxmFR2 (S0 : Nat → Int → Int) (ws : List Int) (i : Nat) (S : Nat → Int → Int) (r : Nat → Int) : Nat := match i with | 0 => rxmFR2_0 S0 ws S | 1 => rxmFR2_1 S0 ws S (r 8) (r 9) | 2 => rxmFR2_2 S0 ws S (r 8) (r 9) (r 10) | 3 => rxmFR2_3 S0 ws S (r 8) (r 9) (r 10) (r 11) (r 12) | _ => 0
noncomputable def rxPFR2 (S0 : Nat → Int → Int) (ws : List Int) : Prop := True
noncomputable def rxPSFR2 (S0 : Nat → Int → Int) (ws : List Int) (S : Nat → Int → Int) (w : Option Int) : Prop := w = none ∧ rxOrd S
theorem rxcFR2_0_0 {S0 : Nat → Int → Int} {ws : List Int} {S : Nat → Int → Int} (hP : rxPFR2 S0 ws) (hin : bx_same rxL (bx_mdl rxCFR2.2.2.1) S0 S) (I0 : bx_Inv rxL S) (hinv : rxIFR2_0 S0 ws S)  : (True) ∧ (True) ∧ rxIFR2_1 S0 ws S 0 0 ∧ rxmFR2_1 S0 ws S 0 0 < rxmFR2_0 S0 ws S := by
  refine ⟨trivial, trivial, ⟨?_, fun i h1 h2 => by omega⟩, by unfold rxmFR2_0 rxmFR2_1; omega⟩
  have h6 := rxN6 I0
  rw [rx_cnt_zero (fun x h1 h2 => ?_)]
  · rfl
  · have hd := rxDeed0 I0 (j := x) h1 (by omega)
    unfold rxDf
    rw [if_neg (by omega)]
theorem rxgFR2_0_0 {X : (Nat → Int → Int) → Prop} {S0 : Nat → Int → Int} {ws : List Int} (hP : rxPFR2 S0 ws) : bx_obC rxL X S0 rxCFR2.2.2.1 (rxIFR2 S0 ws) (rxmFR2 S0 ws) 0 rxzFR2_0 rxoFR2_0_0 := by
  intro S S_p r r_p hinv hX hin hsm_ hseg
  obtain ⟨I0, I1, h0_, hr_, b_, f_, d_⟩ := bx_cl (evs := []) (fvs := []) hseg (by decide +kernel) (by decide +kernel)
  have hinv : rxIFR2_0 S0 ws S := hinv
  have w_ := d_
  subst w_
  have g := rxcFR2_0_0 hP hin I0 hinv 
  refine ⟨bx_narP_ok (l := []) g.1, bx_nfP_ok h0_ (fvs := []) (by decide +kernel) g.2.1, ?_, ?_⟩
  · show rxIFR2_1 S0 ws S_p (bx_val [(0, 0), (0, 0), (0, 0), (0, 0), (0, 0), (0, 0), (0, 0), (0, 0), (0, 0), (0, 0)] r_p 8) (bx_val [(0, 0), (0, 0), (0, 0), (0, 0), (0, 0), (0, 0), (0, 0), (0, 0), (0, 0), (0, 0)] r_p 9)
    rw [bx_val_x (n := 8) (e := (0, 0)) h0_ rfl, bx_val_x (n := 9) (e := (0, 0)) h0_ rfl]
    exact g.2.2.1
  · show rxmFR2_1 S0 ws S_p (bx_val [(0, 0), (0, 0), (0, 0), (0, 0), (0, 0), (0, 0), (0, 0), (0, 0), (0, 0), (0, 0)] r_p 8) (bx_val [(0, 0), (0, 0), (0, 0), (0, 0), (0, 0), (0, 0), (0, 0), (0, 0), (0, 0), (0, 0)] r_p 9) < rxmFR2_0 S0 ws S_p
    rw [bx_val_x (n := 8) (e := (0, 0)) h0_ rfl, bx_val_x (n := 9) (e := (0, 0)) h0_ rfl]
    exact g.2.2.2
theorem rxcFR2_1_0 {S0 : Nat → Int → Int} {ws : List Int} {S : Nat → Int → Int} {n r : Int} (hP : rxPFR2 S0 ws) (hin : bx_same rxL (bx_mdl rxCFR2.2.2.1) S0 S) (I0 : bx_Inv rxL S) (hinv : rxIFR2_1 S0 ws S n r) (l8 : 0 ≤ n) (u8 : n ≤ 12) (l9 : 0 ≤ r) (u9 : r ≤ 3) : (True) ∧ (True) ∧ rxIFR2_2 S0 ws S n r 0 ∧ rxmFR2_2 S0 ws S n r 0 < rxmFR2_1 S0 ws S n r := by
  exact ⟨trivial, trivial, hinv, by unfold rxmFR2_1 rxmFR2_2; omega⟩
theorem rxgFR2_1_0 {X : (Nat → Int → Int) → Prop} {S0 : Nat → Int → Int} {ws : List Int} (hP : rxPFR2 S0 ws) : bx_obC rxL X S0 rxCFR2.2.2.1 (rxIFR2 S0 ws) (rxmFR2 S0 ws) 1 rxzFR2_1 rxoFR2_1_0 := by
  intro S S_p r r_p hinv hX hin hsm_ hseg
  obtain ⟨I0, I1, h0_, hr_, b_, f_, d_⟩ := bx_cl (evs := []) (fvs := []) hseg (by decide +kernel) (by decide +kernel)
  have hinv : rxIFR2_1 S0 ws S (r 8) (r 9) := hinv
  rw [← hr_ 8 (by decide), ← hr_ 9 (by decide)] at hinv
  obtain ⟨⟨l8, u8⟩, ⟨l9, u9⟩, -⟩ := b_
  have w_ := d_
  subst w_
  have g := rxcFR2_1_0 hP hin I0 hinv l8 u8 l9 u9
  refine ⟨bx_narP_ok (l := []) g.1, bx_nfP_ok h0_ (fvs := []) (by decide +kernel) g.2.1, ?_, ?_⟩
  · show rxIFR2_2 S0 ws S_p (bx_val [(0, 0), (0, 0), (0, 0), (0, 0), (0, 0), (0, 0), (0, 0), (0, 0), (8, 0), (9, 0), (0, 0)] r_p 8) (bx_val [(0, 0), (0, 0), (0, 0), (0, 0), (0, 0), (0, 0), (0, 0), (0, 0), (8, 0), (9, 0), (0, 0)] r_p 9) (bx_val [(0, 0), (0, 0), (0, 0), (0, 0), (0, 0), (0, 0), (0, 0), (0, 0), (8, 0), (9, 0), (0, 0)] r_p 10)
    rw [bx_val_x (n := 8) (e := (8, 0)) h0_ rfl, bx_val_x (n := 9) (e := (9, 0)) h0_ rfl, bx_val_x (n := 10) (e := (0, 0)) h0_ rfl]
    exact g.2.2.1
  · show rxmFR2_2 S0 ws S_p (bx_val [(0, 0), (0, 0), (0, 0), (0, 0), (0, 0), (0, 0), (0, 0), (0, 0), (8, 0), (9, 0), (0, 0)] r_p 8) (bx_val [(0, 0), (0, 0), (0, 0), (0, 0), (0, 0), (0, 0), (0, 0), (0, 0), (8, 0), (9, 0), (0, 0)] r_p 9) (bx_val [(0, 0), (0, 0), (0, 0), (0, 0), (0, 0), (0, 0), (0, 0), (0, 0), (8, 0), (9, 0), (0, 0)] r_p 10) < rxmFR2_1 S0 ws S_p (r 8) (r 9)
    rw [bx_val_x (n := 8) (e := (8, 0)) h0_ rfl, bx_val_x (n := 9) (e := (9, 0)) h0_ rfl, bx_val_x (n := 10) (e := (0, 0)) h0_ rfl, ← hr_ 8 (by decide), ← hr_ 9 (by decide)]
    exact g.2.2.2
theorem rxdFR2_1_0 {S0 : Nat → Int → Int} {ws : List Int} {S : Nat → Int → Int} {n r : Int} (hP : rxPFR2 S0 ws) (hin : bx_same rxL (bx_mdl rxCFR2.2.2.1) S0 S) (hin2 : bx_same rxL (bx_mdl rxCFR2.2.2.1) S S) (I0 : bx_Inv rxL S) (I1 : bx_Inv rxL S) (hinv : rxIFR2_1 S0 ws S n r) (l8 : 0 ≤ n) (u8 : n ≤ 12) (l9 : 4 ≤ r) (u9 : r ≤ 4) : (True) ∧ rxPSFR2 S0 ws S none := by
  obtain ⟨h1, h2⟩ := hinv
  have h6 := rxN6 I0
  rw [rx_cnt_all (fun x a b => ?_)] at h1
  · refine ⟨trivial, rfl, fun k a b => h2 k a (by omega)⟩
  · have hd := rxDeed0 I0 (j := x) a (by omega)
    unfold rxDf
    rw [if_pos (by omega)]
    omega
theorem rxfFR2_1_0 {X : (Nat → Int → Int) → Prop} {S0 : Nat → Int → Int} {ws : List Int} (hP : rxPFR2 S0 ws) : bx_obE rxL X S0 rxCFR2.2.2.1 (rxIFR2 S0 ws) (rxPSFR2 S0 ws) 1 rxzFR2_1 rxeFR2_1_0 := by
  intro S S_p r r_p hinv hX hin hsm_ hseg
  obtain ⟨I0, I1, h0_, hr_, b_, f_, d_⟩ := bx_cl (evs := []) (fvs := []) hseg (by decide +kernel) (by decide +kernel)
  have hinv : rxIFR2_1 S0 ws S (r 8) (r 9) := hinv
  rw [← hr_ 8 (by decide), ← hr_ 9 (by decide)] at hinv
  obtain ⟨⟨l8, u8⟩, ⟨l9, u9⟩, -⟩ := b_
  have w_ := d_
  subst w_
  have g := rxdFR2_1_0 hP hin hsm_ I0 I1 hinv l8 u8 l9 u9
  refine ⟨bx_narP_ok (l := []) g.1, ?_⟩
  exact g.2
theorem rxcFR2_2_0 {S0 : Nat → Int → Int} {ws : List Int} {S : Nat → Int → Int} {n r k x11 x12 x13 x14 : Int} (hP : rxPFR2 S0 ws) (hin : bx_same rxL (bx_mdl rxCFR2.2.2.1) S0 S) (I0 : bx_Inv rxL S) (hinv : rxIFR2_2 S0 ws S n r k) (l8 : 0 ≤ n) (u8 : n ≤ 12) (l9 : 0 ≤ r) (u9 : r ≤ 3) (l10 : 0 ≤ k) (u10 : k ≤ 11) (l11 : 1 ≤ x11) (u11 : x11 ≤ 12) (l12 : 0 ≤ x12) (u12 : x12 ≤ 33) (l13 : 0 ≤ x13) (u13 : x13 ≤ 3) (l14 : 0 ≤ x14) (u14 : x14 ≤ 33) (f0 : x14 = 3 * (k)) (f1 : x13 = r) (f2 : x12 = 3 * (k)) (f3 : k < x11) (e1 : S 482 6 = x11) (e0 : S 482 (x12 + 742) = x13) : ((0 ≤ n ∧ n ≤ 11) ∧ (0 ≤ n ∧ n ≤ 11) ∧ True) ∧ (True) ∧ rxIFR2_3 S0 ws S n r k n (x14 + 742) ∧ rxmFR2_3 S0 ws S n r k n (x14 + 742) < rxmFR2_2 S0 ws S n r k := by
  obtain ⟨h1, h2⟩ := hinv
  have h6 := rxN6 I0
  have ek : S 482 (742 + 3 * k) = r := by
    rw [show 742 + 3 * k = (x12 + 742) by omega]
    omega
  have hl := rx_cnt_lt (f := rxDf S r k) (x := k) (n := (S 482 6).toNat) (by omega) (by omega) (by unfold rxDf; rw [if_neg (by omega)])
  exact ⟨⟨by omega, by omega, trivial⟩, trivial, ⟨rfl, by omega, ek, by omega, h1, h2⟩, by unfold rxmFR2_2 rxmFR2_3; omega⟩
theorem rxgFR2_2_0 {X : (Nat → Int → Int) → Prop} {S0 : Nat → Int → Int} {ws : List Int} (hP : rxPFR2 S0 ws) : bx_obC rxL X S0 rxCFR2.2.2.1 (rxIFR2 S0 ws) (rxmFR2 S0 ws) 2 rxzFR2_2 rxoFR2_2_0 := by
  intro S S_p r r_p hinv hX hin hsm_ hseg
  obtain ⟨I0, I1, h0_, hr_, b_, f_, d_⟩ := bx_cl (evs := [(0, (0, 482), (12, 742), .inr (0, (13, 0))), (0, (0, 482), (0, 6), .inr (0, (11, 0)))]) (fvs := [(4, (14, 0), (10, 0), (0, 3)), (2, (13, 0), (9, 0), (0, 0)), (4, (12, 0), (10, 0), (0, 3)), (0, (10, 0), (11, 0), (0, 0))]) hseg (by decide +kernel) (by decide +kernel)
  have hinv : rxIFR2_2 S0 ws S (r 8) (r 9) (r 10) := hinv
  rw [← hr_ 8 (by decide), ← hr_ 9 (by decide), ← hr_ 10 (by decide)] at hinv
  obtain ⟨⟨l8, u8⟩, ⟨l9, u9⟩, ⟨l10, u10⟩, ⟨l11, u11⟩, ⟨l12, u12⟩, ⟨l13, u13⟩, ⟨l14, u14⟩, -⟩ := b_
  obtain ⟨f0, f1, f2, f3, -⟩ := f_
  obtain ⟨e0, ⟨e1, w_⟩⟩ := d_
  subst w_
  have g := rxcFR2_2_0 hP hin I0 hinv l8 u8 l9 u9 l10 u10 l11 u11 l12 u12 l13 u13 l14 u14 f0 f1 f2 f3 e1 e0
  refine ⟨bx_narP_ok (l := [(8, 0, 11), (8, 0, 11)]) g.1, bx_nfP_ok h0_ (fvs := []) (by decide +kernel) g.2.1, ?_, ?_⟩
  · show rxIFR2_3 S0 ws S_p (bx_val [(0, 0), (0, 0), (0, 0), (0, 0), (0, 0), (0, 0), (0, 0), (0, 0), (8, 0), (9, 0), (10, 0), (8, 0), (14, 742)] r_p 8) (bx_val [(0, 0), (0, 0), (0, 0), (0, 0), (0, 0), (0, 0), (0, 0), (0, 0), (8, 0), (9, 0), (10, 0), (8, 0), (14, 742)] r_p 9) (bx_val [(0, 0), (0, 0), (0, 0), (0, 0), (0, 0), (0, 0), (0, 0), (0, 0), (8, 0), (9, 0), (10, 0), (8, 0), (14, 742)] r_p 10) (bx_val [(0, 0), (0, 0), (0, 0), (0, 0), (0, 0), (0, 0), (0, 0), (0, 0), (8, 0), (9, 0), (10, 0), (8, 0), (14, 742)] r_p 11) (bx_val [(0, 0), (0, 0), (0, 0), (0, 0), (0, 0), (0, 0), (0, 0), (0, 0), (8, 0), (9, 0), (10, 0), (8, 0), (14, 742)] r_p 12)
    rw [bx_val_x (n := 8) (e := (8, 0)) h0_ rfl, bx_val_x (n := 9) (e := (9, 0)) h0_ rfl, bx_val_x (n := 10) (e := (10, 0)) h0_ rfl, bx_val_x (n := 11) (e := (8, 0)) h0_ rfl, bx_val_x (n := 12) (e := (14, 742)) h0_ rfl]
    exact g.2.2.1
  · show rxmFR2_3 S0 ws S_p (bx_val [(0, 0), (0, 0), (0, 0), (0, 0), (0, 0), (0, 0), (0, 0), (0, 0), (8, 0), (9, 0), (10, 0), (8, 0), (14, 742)] r_p 8) (bx_val [(0, 0), (0, 0), (0, 0), (0, 0), (0, 0), (0, 0), (0, 0), (0, 0), (8, 0), (9, 0), (10, 0), (8, 0), (14, 742)] r_p 9) (bx_val [(0, 0), (0, 0), (0, 0), (0, 0), (0, 0), (0, 0), (0, 0), (0, 0), (8, 0), (9, 0), (10, 0), (8, 0), (14, 742)] r_p 10) (bx_val [(0, 0), (0, 0), (0, 0), (0, 0), (0, 0), (0, 0), (0, 0), (0, 0), (8, 0), (9, 0), (10, 0), (8, 0), (14, 742)] r_p 11) (bx_val [(0, 0), (0, 0), (0, 0), (0, 0), (0, 0), (0, 0), (0, 0), (0, 0), (8, 0), (9, 0), (10, 0), (8, 0), (14, 742)] r_p 12) < rxmFR2_2 S0 ws S_p (r 8) (r 9) (r 10)
    rw [bx_val_x (n := 8) (e := (8, 0)) h0_ rfl, bx_val_x (n := 9) (e := (9, 0)) h0_ rfl, bx_val_x (n := 10) (e := (10, 0)) h0_ rfl, bx_val_x (n := 11) (e := (8, 0)) h0_ rfl, bx_val_x (n := 12) (e := (14, 742)) h0_ rfl, ← hr_ 8 (by decide), ← hr_ 9 (by decide), ← hr_ 10 (by decide)]
    exact g.2.2.2
theorem rxcFR2_2_1 {S0 : Nat → Int → Int} {ws : List Int} {S : Nat → Int → Int} {n r k x11 x12 x13 : Int} (hP : rxPFR2 S0 ws) (hin : bx_same rxL (bx_mdl rxCFR2.2.2.1) S0 S) (I0 : bx_Inv rxL S) (hinv : rxIFR2_2 S0 ws S n r k) (l8 : 0 ≤ n) (u8 : n ≤ 12) (l9 : 0 ≤ r) (u9 : r ≤ 3) (l10 : 0 ≤ k) (u10 : k ≤ 11) (l11 : 1 ≤ x11) (u11 : x11 ≤ 12) (l12 : 0 ≤ x12) (u12 : x12 ≤ 33) (l13 : 0 ≤ x13) (u13 : x13 ≤ 3) (f0 : x13 ≠ r) (f1 : x12 = 3 * (k)) (f2 : k < x11) (e1 : S 482 6 = x11) (e0 : S 482 (x12 + 742) = x13) : (True) ∧ (True) ∧ rxIFR2_2 S0 ws S n r (k + 1) ∧ rxmFR2_2 S0 ws S n r (k + 1) < rxmFR2_2 S0 ws S n r k := by
  obtain ⟨h1, h2⟩ := hinv
  refine ⟨trivial, trivial, ⟨?_, h2⟩, by unfold rxmFR2_2; omega⟩
  rw [h1, rx_cnt_congr (f := rxDf S r k) (g := rxDf S r (k + 1)) (fun x a b => ?_)]
  have ek : S 482 (742 + 3 * k) ≠ r := by
    rw [show 742 + 3 * k = (x12 + 742) by omega]
    omega
  unfold rxDf
  by_cases hx : x = k
  · subst hx
    by_cases hc : S 482 (742 + 3 * x) < r
    · rw [if_pos (Or.inl hc), if_pos (Or.inl hc)]
    · rw [if_neg (by omega), if_neg (by omega)]
  · by_cases hc : S 482 (742 + 3 * x) < r ∨ (S 482 (742 + 3 * x) = r ∧ x < k)
    · rw [if_pos hc, if_pos (by omega)]
    · rw [if_neg hc, if_neg (by omega)]
theorem rxgFR2_2_1 {X : (Nat → Int → Int) → Prop} {S0 : Nat → Int → Int} {ws : List Int} (hP : rxPFR2 S0 ws) : bx_obC rxL X S0 rxCFR2.2.2.1 (rxIFR2 S0 ws) (rxmFR2 S0 ws) 2 rxzFR2_2 rxoFR2_2_1 := by
  intro S S_p r r_p hinv hX hin hsm_ hseg
  obtain ⟨I0, I1, h0_, hr_, b_, f_, d_⟩ := bx_cl (evs := [(0, (0, 482), (12, 742), .inr (0, (13, 0))), (0, (0, 482), (0, 6), .inr (0, (11, 0)))]) (fvs := [(3, (13, 0), (9, 0), (0, 0)), (4, (12, 0), (10, 0), (0, 3)), (0, (10, 0), (11, 0), (0, 0))]) hseg (by decide +kernel) (by decide +kernel)
  have hinv : rxIFR2_2 S0 ws S (r 8) (r 9) (r 10) := hinv
  rw [← hr_ 8 (by decide), ← hr_ 9 (by decide), ← hr_ 10 (by decide)] at hinv
  obtain ⟨⟨l8, u8⟩, ⟨l9, u9⟩, ⟨l10, u10⟩, ⟨l11, u11⟩, ⟨l12, u12⟩, ⟨l13, u13⟩, -⟩ := b_
  obtain ⟨f0, f1, f2, -⟩ := f_
  obtain ⟨e0, ⟨e1, w_⟩⟩ := d_
  subst w_
  have g := rxcFR2_2_1 hP hin I0 hinv l8 u8 l9 u9 l10 u10 l11 u11 l12 u12 l13 u13 f0 f1 f2 e1 e0
  refine ⟨bx_narP_ok (l := []) g.1, bx_nfP_ok h0_ (fvs := []) (by decide +kernel) g.2.1, ?_, ?_⟩
  · show rxIFR2_2 S0 ws S_p (bx_val [(0, 0), (0, 0), (0, 0), (0, 0), (0, 0), (0, 0), (0, 0), (0, 0), (8, 0), (9, 0), (10, 1)] r_p 8) (bx_val [(0, 0), (0, 0), (0, 0), (0, 0), (0, 0), (0, 0), (0, 0), (0, 0), (8, 0), (9, 0), (10, 1)] r_p 9) (bx_val [(0, 0), (0, 0), (0, 0), (0, 0), (0, 0), (0, 0), (0, 0), (0, 0), (8, 0), (9, 0), (10, 1)] r_p 10)
    rw [bx_val_x (n := 8) (e := (8, 0)) h0_ rfl, bx_val_x (n := 9) (e := (9, 0)) h0_ rfl, bx_val_x (n := 10) (e := (10, 1)) h0_ rfl]
    exact g.2.2.1
  · show rxmFR2_2 S0 ws S_p (bx_val [(0, 0), (0, 0), (0, 0), (0, 0), (0, 0), (0, 0), (0, 0), (0, 0), (8, 0), (9, 0), (10, 1)] r_p 8) (bx_val [(0, 0), (0, 0), (0, 0), (0, 0), (0, 0), (0, 0), (0, 0), (0, 0), (8, 0), (9, 0), (10, 1)] r_p 9) (bx_val [(0, 0), (0, 0), (0, 0), (0, 0), (0, 0), (0, 0), (0, 0), (0, 0), (8, 0), (9, 0), (10, 1)] r_p 10) < rxmFR2_2 S0 ws S_p (r 8) (r 9) (r 10)
    rw [bx_val_x (n := 8) (e := (8, 0)) h0_ rfl, bx_val_x (n := 9) (e := (9, 0)) h0_ rfl, bx_val_x (n := 10) (e := (10, 1)) h0_ rfl, ← hr_ 8 (by decide), ← hr_ 9 (by decide), ← hr_ 10 (by decide)]
    exact g.2.2.2
theorem rxcFR2_2_2 {S0 : Nat → Int → Int} {ws : List Int} {S : Nat → Int → Int} {n r k x11 : Int} (hP : rxPFR2 S0 ws) (hin : bx_same rxL (bx_mdl rxCFR2.2.2.1) S0 S) (I0 : bx_Inv rxL S) (hinv : rxIFR2_2 S0 ws S n r k) (l8 : 0 ≤ n) (u8 : n ≤ 12) (l9 : 0 ≤ r) (u9 : r ≤ 3) (l10 : 0 ≤ k) (u10 : k ≤ 12) (l11 : 0 ≤ x11) (u11 : x11 ≤ 12) (f0 : x11 ≤ k) (e0 : S 482 6 = x11) : (True) ∧ (True) ∧ rxIFR2_1 S0 ws S n (r + 1) ∧ rxmFR2_1 S0 ws S n (r + 1) < rxmFR2_2 S0 ws S n r k := by
  obtain ⟨h1, h2⟩ := hinv
  refine ⟨trivial, trivial, ⟨?_, h2⟩, by unfold rxmFR2_2 rxmFR2_1; omega⟩
  rw [h1, rx_cnt_congr (f := rxDf S r k) (g := rxDf S (r + 1) 0) (fun x a b => ?_)]
  unfold rxDf
  by_cases hc : S 482 (742 + 3 * x) < r ∨ (S 482 (742 + 3 * x) = r ∧ x < k)
  · rw [if_pos hc, if_pos (by omega)]
  · rw [if_neg hc, if_neg (by omega)]
theorem rxgFR2_2_2 {X : (Nat → Int → Int) → Prop} {S0 : Nat → Int → Int} {ws : List Int} (hP : rxPFR2 S0 ws) : bx_obC rxL X S0 rxCFR2.2.2.1 (rxIFR2 S0 ws) (rxmFR2 S0 ws) 2 rxzFR2_2 rxoFR2_2_2 := by
  intro S S_p r r_p hinv hX hin hsm_ hseg
  obtain ⟨I0, I1, h0_, hr_, b_, f_, d_⟩ := bx_cl (evs := [(0, (0, 482), (0, 6), .inr (0, (11, 0)))]) (fvs := [(1, (11, 0), (10, 0), (0, 0))]) hseg (by decide +kernel) (by decide +kernel)
  have hinv : rxIFR2_2 S0 ws S (r 8) (r 9) (r 10) := hinv
  rw [← hr_ 8 (by decide), ← hr_ 9 (by decide), ← hr_ 10 (by decide)] at hinv
  obtain ⟨⟨l8, u8⟩, ⟨l9, u9⟩, ⟨l10, u10⟩, ⟨l11, u11⟩, -⟩ := b_
  obtain ⟨f0, -⟩ := f_
  obtain ⟨e0, w_⟩ := d_
  subst w_
  have g := rxcFR2_2_2 hP hin I0 hinv l8 u8 l9 u9 l10 u10 l11 u11 f0 e0
  refine ⟨bx_narP_ok (l := []) g.1, bx_nfP_ok h0_ (fvs := []) (by decide +kernel) g.2.1, ?_, ?_⟩
  · show rxIFR2_1 S0 ws S_p (bx_val [(0, 0), (0, 0), (0, 0), (0, 0), (0, 0), (0, 0), (0, 0), (0, 0), (8, 0), (9, 1)] r_p 8) (bx_val [(0, 0), (0, 0), (0, 0), (0, 0), (0, 0), (0, 0), (0, 0), (0, 0), (8, 0), (9, 1)] r_p 9)
    rw [bx_val_x (n := 8) (e := (8, 0)) h0_ rfl, bx_val_x (n := 9) (e := (9, 1)) h0_ rfl]
    exact g.2.2.1
  · show rxmFR2_1 S0 ws S_p (bx_val [(0, 0), (0, 0), (0, 0), (0, 0), (0, 0), (0, 0), (0, 0), (0, 0), (8, 0), (9, 1)] r_p 8) (bx_val [(0, 0), (0, 0), (0, 0), (0, 0), (0, 0), (0, 0), (0, 0), (0, 0), (8, 0), (9, 1)] r_p 9) < rxmFR2_2 S0 ws S_p (r 8) (r 9) (r 10)
    rw [bx_val_x (n := 8) (e := (8, 0)) h0_ rfl, bx_val_x (n := 9) (e := (9, 1)) h0_ rfl, ← hr_ 8 (by decide), ← hr_ 9 (by decide), ← hr_ 10 (by decide)]
    exact g.2.2.2
theorem rxcFR2_3_0 {S0 : Nat → Int → Int} {ws : List Int} {S : Nat → Int → Int} {n r k n2 v : Int} (hP : rxPFR2 S0 ws) (hin : bx_same rxL (bx_mdl rxCFR2.2.2.1) S0 S) (I0 : bx_Inv rxL S) (hinv : rxIFR2_3 S0 ws S n r k n2 v) (l8 : 0 ≤ n) (u8 : n ≤ 11) (l9 : 0 ≤ r) (u9 : r ≤ 3) (l10 : 0 ≤ k) (u10 : k ≤ 11) (l11 : 0 ≤ n2) (u11 : n2 ≤ 11) (l12 : 742 ≤ v) (u12 : v ≤ 775) : (True) ∧ (True) ∧ rxIFR2_2 S0 ws (bx_up S 512 n2 v) (n + 1) r (k + 1) ∧ rxmFR2_2 S0 ws (bx_up S 512 n2 v) (n + 1) r (k + 1) < rxmFR2_3 S0 ws S n r k n2 v := by
  obtain ⟨rfl, hv, hd, hk, h1, h2⟩ := hinv
  have q : (bx_up S 512 n2 v) 482 = S 482 := funext fun x => by simp [bx_up]
  have hu := rx_cnt_upd (f := rxDf S r k) (g := rxDf S r (k + 1)) (x := k) (n := (S 482 6).toNat) (by omega) (by omega) (by unfold rxDf; rw [if_neg (by omega)]) (by unfold rxDf; rw [if_pos (by omega)]; omega) (fun y hy => by
    unfold rxDf
    by_cases hc : S 482 (742 + 3 * y) < r ∨ (S 482 (742 + 3 * y) = r ∧ y < k)
    · rw [if_pos hc, if_pos (by omega)]
    · rw [if_neg hc, if_neg (by omega)])
  refine ⟨trivial, trivial, ⟨?_, fun i a b => ?_⟩, by unfold rxmFR2_3 rxmFR2_2; omega⟩
  · rw [rxDf_cg q, q]
    omega
  · by_cases hi : i = n2
    · subst hi
      rw [bx_up_at]
      exact ⟨k, by omega, by omega, hv⟩
    · rw [bx_up_ne (by omega)]
      exact h2 i a (by omega)
theorem rxgFR2_3_0 {X : (Nat → Int → Int) → Prop} {S0 : Nat → Int → Int} {ws : List Int} (hP : rxPFR2 S0 ws) : bx_obC rxL X S0 rxCFR2.2.2.1 (rxIFR2 S0 ws) (rxmFR2 S0 ws) 3 rxzFR2_3 rxoFR2_3_0 := by
  intro S S_p r r_p hinv hX hin hsm_ hseg
  obtain ⟨I0, I1, h0_, hr_, b_, f_, d_⟩ := bx_cl (evs := [(1, (0, 512), (11, 0), .inr (0, (12, 0)))]) (fvs := []) hseg (by decide +kernel) (by decide +kernel)
  have hinv : rxIFR2_3 S0 ws S (r 8) (r 9) (r 10) (r 11) (r 12) := hinv
  rw [← hr_ 8 (by decide), ← hr_ 9 (by decide), ← hr_ 10 (by decide), ← hr_ 11 (by decide), ← hr_ 12 (by decide)] at hinv
  obtain ⟨⟨l8, u8⟩, ⟨l9, u9⟩, ⟨l10, u10⟩, ⟨l11, u11⟩, ⟨l12, u12⟩, -⟩ := b_
  obtain ⟨T0, w_, w0⟩ := d_
  subst w0
  subst w_
  have g := rxcFR2_3_0 hP hin I0 hinv l8 u8 l9 u9 l10 u10 l11 u11 l12 u12
  refine ⟨bx_narP_ok (l := []) g.1, bx_nfP_ok h0_ (fvs := []) (by decide +kernel) g.2.1, ?_, ?_⟩
  · show rxIFR2_2 S0 ws (bx_up T0 512 (r_p 11) (r_p 12)) (bx_val [(0, 0), (0, 0), (0, 0), (0, 0), (0, 0), (0, 0), (0, 0), (0, 0), (8, 1), (9, 0), (10, 1)] r_p 8) (bx_val [(0, 0), (0, 0), (0, 0), (0, 0), (0, 0), (0, 0), (0, 0), (0, 0), (8, 1), (9, 0), (10, 1)] r_p 9) (bx_val [(0, 0), (0, 0), (0, 0), (0, 0), (0, 0), (0, 0), (0, 0), (0, 0), (8, 1), (9, 0), (10, 1)] r_p 10)
    rw [bx_val_x (n := 8) (e := (8, 1)) h0_ rfl, bx_val_x (n := 9) (e := (9, 0)) h0_ rfl, bx_val_x (n := 10) (e := (10, 1)) h0_ rfl]
    exact g.2.2.1
  · show rxmFR2_2 S0 ws (bx_up T0 512 (r_p 11) (r_p 12)) (bx_val [(0, 0), (0, 0), (0, 0), (0, 0), (0, 0), (0, 0), (0, 0), (0, 0), (8, 1), (9, 0), (10, 1)] r_p 8) (bx_val [(0, 0), (0, 0), (0, 0), (0, 0), (0, 0), (0, 0), (0, 0), (0, 0), (8, 1), (9, 0), (10, 1)] r_p 9) (bx_val [(0, 0), (0, 0), (0, 0), (0, 0), (0, 0), (0, 0), (0, 0), (0, 0), (8, 1), (9, 0), (10, 1)] r_p 10) < rxmFR2_3 S0 ws T0 (r 8) (r 9) (r 10) (r 11) (r 12)
    rw [bx_val_x (n := 8) (e := (8, 1)) h0_ rfl, bx_val_x (n := 9) (e := (9, 0)) h0_ rfl, bx_val_x (n := 10) (e := (10, 1)) h0_ rfl, ← hr_ 8 (by decide), ← hr_ 9 (by decide), ← hr_ 10 (by decide), ← hr_ 11 (by decide), ← hr_ 12 (by decide)]
    exact g.2.2.2
theorem rxgCFR2 {X : (Nat → Int → Int) → Prop} {S0 : Nat → Int → Int} {ws : List Int} (hP : rxPFR2 S0 ws) : bx_allI (fun i q => rxUFR2 q = true ∨ bx_allP (fun o => bx_obC rxL X S0 rxCFR2.2.2.1 (rxIFR2 S0 ws) (rxmFR2 S0 ws) i q.1 o) q.2.1) 0 rxYFR2 := ⟨Or.inr ⟨rxgFR2_0_0 hP, trivial⟩, Or.inr ⟨rxgFR2_1_0 hP, trivial⟩, Or.inr ⟨rxgFR2_2_0 hP, rxgFR2_2_1 hP, rxgFR2_2_2 hP, trivial⟩, Or.inr ⟨rxgFR2_3_0 hP, trivial⟩, trivial⟩
theorem rxgEFR2 {X : (Nat → Int → Int) → Prop} {S0 : Nat → Int → Int} {ws : List Int} (hP : rxPFR2 S0 ws) : bx_allI (fun i q => rxUFR2 q = true ∨ bx_allP (fun E => bx_obE rxL X S0 rxCFR2.2.2.1 (rxIFR2 S0 ws) (rxPSFR2 S0 ws) i q.1 E) q.2.2) 0 rxYFR2 := ⟨Or.inr trivial, Or.inr ⟨rxfFR2_1_0 hP, trivial⟩, Or.inr trivial, Or.inr trivial, trivial⟩
theorem rxQFR2 {PX : State → Prop} {Dg : va_G} {A : Nat → Prop} {ad xa : Nat → Nat} {l : Launch} {X : (Nat → Int → Int) → Prop} (hPX : rx_PXOK rxNW A PX) (hsl : ∀ s : State, PX s → ∀ o idx n : Nat, rxSl o idx = some n → ∃ tx : String, vk_R (rxNm o) idx tx (ad n) s)
    (hX : ∀ S S_p : Nat → Int → Int, X S → bx_same rxL (bx_mdl rxCFR2.2.2.1) S S_p → X S_p)
    (ih : ∀ (j2 : Nat) (ct2 : bx_Ct) (M2 : rx_Mt), ct2 ∈ rxCnE j2 → ct2.2.2.2.1 + 1 ≤ rxCFR2.2.2.2.1 → rxT.2.2.2.2.2 j2 = some M2 → bx_Con rxG rxNW rxAO PX Dg rxL X vwCl A ad l M2 ct2) : bx_ConP rxG rxNW rxAO PX Dg rxL X vwCl A ad l rxM322 rxCFR2 rxPFR2 rxPSFR2 :=
  rxQof (xa := xa) (Cn := rxCnE) (f := 30000) (j := 322) (tab := rxYFR2) (us := rxUFR2) hPX hsl hX ih rfl rxYcFR2 rxIFR2 rxmFR2
    (fun S0 ws r I0 I ht0 ht as he he1 hX0 hI0 hP hs ha => by
      have e := he.symm.trans (show bx_ent0 rxNP rxCFR2.1 bx_I0 [] = some ([(0, 0), (0, 0), (0, 0), (0, 0), (0, 0), (0, 0), (0, 0), (0, 0)], [], [.inr (3, (0, 480))]) from rfl)
      cases e
      subst ha
      have h0 : r 0 = 0 := hs.1
      show rxIFR2_0 S0 _ S0
      refine ⟨rfl, ?_⟩
      simp only [List.map_cons, List.map_nil, bx_xv_ok h0]
      rfl)
    (fun S0 ws hP => fun i q hq hus => absurd (show false = true from hus) Bool.false_ne_true) (fun S0 ws hP => rxgCFR2 hP) (fun S0 ws hP => rxgEFR2 hP)
