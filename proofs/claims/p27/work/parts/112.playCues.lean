noncomputable def rxI301_0 (S0 : Nat → Int → Int) (ws : List Int) (S : Nat → Int → Int) (v : Int) : Prop := S = S0 ∧ ws = [480, v]
noncomputable def rxm301_0 (S0 : Nat → Int → Int) (ws : List Int) (S : Nat → Int → Int) (v : Int) : Nat := 10000
noncomputable def rxz301_0 : rx_Z := ([(0, 0), (0, 0), (0, 0), (0, 0), (0, 0), (0, 0), (0, 0), (0, 0), (0, 11)], [], [], 0, 0, 0, [(0, .inr (3, (0, 480))), (1, .inr (0, (8, 0)))], [])
noncomputable def rxI301_1 (S0 : Nat → Int → Int) (ws : List Int) (S : Nat → Int → Int) (v st k : Int) : Prop := (S 480 37 = -1 → 0 ≤ st ∧ ∀ j : Int, 0 ≤ j → j < k → 0 ≤ S 497 j)
noncomputable def rxm301_1 (S0 : Nat → Int → Int) (ws : List Int) (S : Nat → Int → Int) (v st k : Int) : Nat := 4 * (20 - k).toNat + 2
noncomputable def rxz301_1 : rx_Z := ([(0, 0), (0, 0), (0, 0), (0, 0), (0, 0), (0, 0), (0, 0), (0, 0), (0, 11), ((-1), 5), (0, 12)], [], [], 0, 0, 9, [(0, .inr (3, (0, 480))), (1, .inr (0, (8, 0))), (2, .inr (0, (9, 0))), (3, .inr (0, (10, 0)))], [])
noncomputable def rxI301_2 (S0 : Nat → Int → Int) (ws : List Int) (S : Nat → Int → Int) (v st k : Int) : Prop := ∀ j : Int, 0 ≤ j → j < k → 0 ≤ S 497 j
noncomputable def rxm301_2 (S0 : Nat → Int → Int) (ws : List Int) (S : Nat → Int → Int) (v st k : Int) : Nat := 4 * (20 - k).toNat + 1
noncomputable def rxz301_2 : rx_Z := ([(0, 0), (0, 0), (0, 0), (0, 0), (0, 0), (0, 0), (0, 0), (0, 0), (0, 11), (0, 5), (0, 11)], [], [], 0, 0, 27, [(0, .inr (3, (0, 480))), (1, .inr (0, (8, 0))), (2, .inr (0, (9, 0))), (3, .inr (0, (10, 0)))], [])
noncomputable def rxo301_0_0 : bx_HO := (([(0, 0), (0, 0), (0, 0), (0, 0), (0, 0), (0, 0), (0, 0), (0, 0), (0, 11)], [], [(((0, 0), 1851192626986356804850488481487716824242412199817947559327956995000000), .inr (0, (0, (-1)))), (((0, 480), 37), .inr (0, (0, (-1))))], 0, 0, 9, [(3, .inr (0, (0, 0))), (2, .inr (0, (0, 0))), (0, .inr (3, (0, 480))), (1, .inr (0, (8, 0)))], []), [], [], [(0, 0), (0, 0), (0, 0), (0, 0), (0, 0), (0, 0), (0, 0), (0, 0), (8, 0), (0, 0), (0, 0)], 1)
noncomputable def rxo301_1_0 : bx_HO := (([(0, 0), (0, 0), (0, 0), (0, 0), (0, 0), (0, 0), (0, 0), (0, 0), (0, 11), ((-1), 5), (0, 11), (1, 12), ((-1), (-1))], [(0, (10, 0), (11, 0))], [(((0, 0), 1851192626986356804850488481487716824242412199817947559327956992000000), .inr (0, (12, 0))), (((0, 480), 37), .inr (0, (12, 0))), (((0, 0), 1851192626986356798427873864310897359480125337295219445606776832000000), .inr (0, (11, 0))), (((0, 482), 5), .inr (0, (11, 0))), (((0, 480), 3), .inr (3, (0, 482)))], 0, 0, 27, [(0, .inr (3, (0, 480))), (1, .inr (0, (8, 0))), (2, .inr (0, (9, 0))), (3, .inr (0, (10, 0)))], []), [(9, 0, 5)], [], [(0, 0), (0, 0), (0, 0), (0, 0), (0, 0), (0, 0), (0, 0), (0, 0), (8, 0), (9, 0), (10, 0)], 2)
noncomputable def rxe301_1_0 : rx_End × List (Nat × Int × Int) := (([(0, 0), (0, 0), (0, 0), (0, 0), (0, 0), (0, 0), (0, 0), (0, 0), (0, 11), ((-1), 5), (0, 11), (1, 12), (0, 11)], [(3, (12, 0), (0, (-1))), (0, (10, 0), (11, 0))], [(((0, 0), 1851192626986356804850488481487716824242412199817947559327956992000000), .inr (0, (12, 0))), (((0, 480), 37), .inr (0, (12, 0))), (((0, 0), 1851192626986356798427873864310897359480125337295219445606776832000000), .inr (0, (11, 0))), (((0, 482), 5), .inr (0, (11, 0))), (((0, 480), 3), .inr (3, (0, 482)))], none), [])
noncomputable def rxe301_1_1 : rx_End × List (Nat × Int × Int) := (([(0, 0), (0, 0), (0, 0), (0, 0), (0, 0), (0, 0), (0, 0), (0, 0), (0, 11), ((-1), 5), (0, 12), (0, 12)], [(1, (11, 0), (10, 0))], [(((0, 0), 1851192626986356798427873864310897359480125337295219445606776832000000), .inr (0, (11, 0))), (((0, 482), 5), .inr (0, (11, 0))), (((0, 480), 3), .inr (3, (0, 482)))], none), [])
noncomputable def rxo301_2_0 : bx_HO := (([(0, 0), (0, 0), (0, 0), (0, 0), (0, 0), (0, 0), (0, 0), (0, 0), (0, 11), (0, 5), (0, 11), (0, 30), (0, 5), (0, 35), (0, 396), (298, 729), (0, 59), (0, 9), (0, 5)], [(3, (16, 0), (0, (-1))), (3, (16, 0), (0, (-1))), (3, (16, 0), (0, (-1))), (604462909807314587353101000000, (15, 0), (14, 298)), (40, (14, 0), (8, 0)), (604462909807314587353100000000, (13, 0), (11, 0)), (10, (11, 0), (9, 0))], [(((0, 0), 1851192626986356804850488481487716824242412199817947559327956995000000), .inr (0, (0, (-1)))), (((0, 480), 37), .inr (0, (0, (-1)))), (((0, 0), 1851192626986356797424370955790042202572729718740712036985536515000000), .inr (0, (17, 0))), (((0, 480), 36), .inr (3, (0, 497))), (((0, 0), 1851192626986356797424386268496553644803585570598046466546204672000000), .inr (0, (16, 0))), (((0, 0), 1851192626986356943940266910136236242462398770040447131268022272000000), .inr (0, (12, 0))), (((0, 480), 3), .inr (3, (0, 482)))], 0, 0, 9, [(3, .inr (0, (10, 1))), (2, .inr (0, (18, 0))), (4, .inr (0, (16, 0))), (0, .inr (3, (0, 480))), (1, .inr (0, (8, 0)))], []), [], [], [(0, 0), (0, 0), (0, 0), (0, 0), (0, 0), (0, 0), (0, 0), (0, 0), (8, 0), (18, 0), (10, 1)], 1)
noncomputable def rxo301_2_1 : bx_HO := (([(0, 0), (0, 0), (0, 0), (0, 0), (0, 0), (0, 0), (0, 0), (0, 0), (0, 11), (0, 5), (0, 11), (0, 30), (0, 5), (0, 35), (0, 396), (298, 729), ((-1), (-1))], [(604462909807314587353101000000, (15, 0), (14, 298)), (40, (14, 0), (8, 0)), (604462909807314587353100000000, (13, 0), (11, 0)), (10, (11, 0), (9, 0))], [(((0, 0), 1851192626986356804850488481487716824242412199817947559327956995000000), .inr (0, (10, 0))), (((0, 480), 37), .inr (0, (10, 0))), (((0, 0), 1851192626986356797424370955790042202572729718740712036985536515000000), .inr (0, (0, (-1)))), (((0, 480), 36), .inr (3, (0, 497))), (((0, 0), 1851192626986356797424386268496553644803585570598046466546204672000000), .inr (0, (16, 0))), (((0, 0), 1851192626986356943940266910136236242462398770040447131268022272000000), .inr (0, (12, 0))), (((0, 480), 3), .inr (3, (0, 482)))], 0, 0, 9, [(3, .inr (0, (10, 1))), (2, .inr (0, (0, (-1)))), (4, .inr (0, (16, 0))), (0, .inr (3, (0, 480))), (1, .inr (0, (8, 0)))], []), [], [], [(0, 0), (0, 0), (0, 0), (0, 0), (0, 0), (0, 0), (0, 0), (0, 0), (8, 0), (0, (-1)), (10, 1)], 1)
noncomputable def rxY301 : List bx_HE := [(rxz301_0, [rxo301_0_0], []), (rxz301_1, [rxo301_1_0], [rxe301_1_0, rxe301_1_1]), (rxz301_2, [rxo301_2_0, rxo301_2_1], [])]
noncomputable def rxU301 (q : bx_HE) : Bool := false
noncomputable def rxYB301 : bx_B := (rxV, rxNP, rxDmf, bx_mdH rxC301.2.2.1)
set_option maxRecDepth 100000 in
theorem rxYc301 : bx_chkH rxYB301 rxM301 rxC301 rxY301 (rxU301, fun cut z => rx_ex2 (rxCT rxYB301 rxCnE) cut 30000 rxC301.2.2.2.1 301 z) = true := by decide +kernel
noncomputable def rxI301 (S0 : Nat → Int → Int) (ws : List Int) (i : Nat) : bx_SP := fun S r => match i with | 0 => rxI301_0 S0 ws S (r 8) | 1 => rxI301_1 S0 ws S (r 8) (r 9) (r 10) | 2 => rxI301_2 S0 ws S (r 8) (r 9) (r 10) | _ => False
noncomputable def rxm301 (S0 : Nat → Int → Int) (ws : List Int) (i : Nat) (S : Nat → Int → Int) (r : Nat → Int) : Nat := match i with | 0 => rxm301_0 S0 ws S (r 8) | 1 => rxm301_1 S0 ws S (r 8) (r 9) (r 10) | 2 => rxm301_2 S0 ws S (r 8) (r 9) (r 10) | _ => 0
noncomputable def rxP301 (S0 : Nat → Int → Int) (ws : List Int) : Prop := True
noncomputable def rxPS301 (S0 : Nat → Int → Int) (ws : List Int) (S : Nat → Int → Int) (w : Option Int) : Prop := w = none ∧ (S 480 37 = -1 → ∀ j : Int, 0 ≤ j → j < S 482 5 → 0 ≤ S 497 j)
theorem rxc301_0_0 {S0 : Nat → Int → Int} {ws : List Int} {S : Nat → Int → Int} {v : Int} (hP : rxP301 S0 ws) (hin : bx_same rxL (bx_mdl rxC301.2.2.1) S0 S) (I0 : bx_Inv rxL S) (hinv : rxI301_0 S0 ws S v) (l8 : 0 ≤ v) (u8 : v ≤ 11) : (True) ∧ (True) ∧ rxI301_1 S0 ws (bx_up S 480 37 ((-1))) v 0 0 ∧ rxm301_1 S0 ws (bx_up S 480 37 ((-1))) v 0 0 < rxm301_0 S0 ws S v := by
  refine ⟨trivial, trivial, fun _ => ⟨by omega, fun j h1 h2 => by omega⟩, ?_⟩
  show 4 * (20 - 0 : Int).toNat + 2 < 10000
  omega
theorem rxg301_0_0 {X : (Nat → Int → Int) → Prop} {S0 : Nat → Int → Int} {ws : List Int} (hP : rxP301 S0 ws) : bx_obC rxL X S0 rxC301.2.2.1 (rxI301 S0 ws) (rxm301 S0 ws) 0 rxz301_0 rxo301_0_0 := by
  intro S S_p r r_p hinv hX hin hsm_ hseg
  obtain ⟨I0, I1, h0_, hr_, b_, f_, d_⟩ := bx_cl (evs := [(1, (0, 480), (0, 37), .inr (0, (0, (-1))))]) (fvs := []) hseg (by decide +kernel) (by decide +kernel)
  have hinv : rxI301_0 S0 ws S (r 8) := hinv
  rw [← hr_ 8 (by decide)] at hinv
  obtain ⟨⟨l8, u8⟩, -⟩ := b_
  obtain ⟨T0, w_, w0⟩ := d_
  subst w0
  subst w_
  have g := rxc301_0_0 hP hin I0 hinv l8 u8
  refine ⟨bx_narP_ok (l := []) g.1, bx_nfP_ok h0_ (fvs := []) (by decide +kernel) g.2.1, ?_, ?_⟩
  · show rxI301_1 S0 ws (bx_up T0 480 (37) ((-1))) (bx_val [(0, 0), (0, 0), (0, 0), (0, 0), (0, 0), (0, 0), (0, 0), (0, 0), (8, 0), (0, 0), (0, 0)] r_p 8) (bx_val [(0, 0), (0, 0), (0, 0), (0, 0), (0, 0), (0, 0), (0, 0), (0, 0), (8, 0), (0, 0), (0, 0)] r_p 9) (bx_val [(0, 0), (0, 0), (0, 0), (0, 0), (0, 0), (0, 0), (0, 0), (0, 0), (8, 0), (0, 0), (0, 0)] r_p 10)
    rw [bx_val_x (n := 8) (e := (8, 0)) h0_ rfl, bx_val_x (n := 9) (e := (0, 0)) h0_ rfl, bx_val_x (n := 10) (e := (0, 0)) h0_ rfl]
    exact g.2.2.1
  · show rxm301_1 S0 ws (bx_up T0 480 (37) ((-1))) (bx_val [(0, 0), (0, 0), (0, 0), (0, 0), (0, 0), (0, 0), (0, 0), (0, 0), (8, 0), (0, 0), (0, 0)] r_p 8) (bx_val [(0, 0), (0, 0), (0, 0), (0, 0), (0, 0), (0, 0), (0, 0), (0, 0), (8, 0), (0, 0), (0, 0)] r_p 9) (bx_val [(0, 0), (0, 0), (0, 0), (0, 0), (0, 0), (0, 0), (0, 0), (0, 0), (8, 0), (0, 0), (0, 0)] r_p 10) < rxm301_0 S0 ws T0 (r 8)
    rw [bx_val_x (n := 8) (e := (8, 0)) h0_ rfl, bx_val_x (n := 9) (e := (0, 0)) h0_ rfl, bx_val_x (n := 10) (e := (0, 0)) h0_ rfl, ← hr_ 8 (by decide)]
    exact g.2.2.2
theorem rxc301_1_0 {S0 : Nat → Int → Int} {ws : List Int} {S : Nat → Int → Int} {v st k x11 x12 : Int} (hP : rxP301 S0 ws) (hin : bx_same rxL (bx_mdl rxC301.2.2.1) S0 S) (I0 : bx_Inv rxL S) (hinv : rxI301_1 S0 ws S v st k) (l8 : 0 ≤ v) (u8 : v ≤ 11) (l9 : (-1) ≤ st) (u9 : st ≤ 5) (l10 : 0 ≤ k) (u10 : k ≤ 11) (l11 : 1 ≤ x11) (u11 : x11 ≤ 12) (l12 : (-1) ≤ x12) (u12 : x12 ≤ (-1)) (f0 : k < x11) (e1 : S 482 5 = x11) (e0 : S 480 37 = x12) : ((0 ≤ st ∧ st ≤ 5) ∧ True) ∧ (True) ∧ rxI301_2 S0 ws S v st k ∧ rxm301_2 S0 ws S v st k < rxm301_1 S0 ws S v st k := by
  obtain ⟨a, b⟩ := hinv (by omega)
  refine ⟨⟨by omega, trivial⟩, trivial, b, ?_⟩
  show 4 * (20 - k).toNat + 1 < 4 * (20 - k).toNat + 2
  omega
theorem rxg301_1_0 {X : (Nat → Int → Int) → Prop} {S0 : Nat → Int → Int} {ws : List Int} (hP : rxP301 S0 ws) : bx_obC rxL X S0 rxC301.2.2.1 (rxI301 S0 ws) (rxm301 S0 ws) 1 rxz301_1 rxo301_1_0 := by
  intro S S_p r r_p hinv hX hin hsm_ hseg
  obtain ⟨I0, I1, h0_, hr_, b_, f_, d_⟩ := bx_cl (evs := [(0, (0, 480), (0, 37), .inr (0, (12, 0))), (0, (0, 482), (0, 5), .inr (0, (11, 0)))]) (fvs := [(0, (10, 0), (11, 0), (0, 0))]) hseg (by decide +kernel) (by decide +kernel)
  have hinv : rxI301_1 S0 ws S (r 8) (r 9) (r 10) := hinv
  rw [← hr_ 8 (by decide), ← hr_ 9 (by decide), ← hr_ 10 (by decide)] at hinv
  obtain ⟨⟨l8, u8⟩, ⟨l9, u9⟩, ⟨l10, u10⟩, ⟨l11, u11⟩, ⟨l12, u12⟩, -⟩ := b_
  obtain ⟨f0, -⟩ := f_
  obtain ⟨e0, ⟨e1, w_⟩⟩ := d_
  subst w_
  have g := rxc301_1_0 hP hin I0 hinv l8 u8 l9 u9 l10 u10 l11 u11 l12 u12 f0 e1 e0
  refine ⟨bx_narP_ok (l := [(9, 0, 5)]) g.1, bx_nfP_ok h0_ (fvs := []) (by decide +kernel) g.2.1, ?_, ?_⟩
  · show rxI301_2 S0 ws S_p (bx_val [(0, 0), (0, 0), (0, 0), (0, 0), (0, 0), (0, 0), (0, 0), (0, 0), (8, 0), (9, 0), (10, 0)] r_p 8) (bx_val [(0, 0), (0, 0), (0, 0), (0, 0), (0, 0), (0, 0), (0, 0), (0, 0), (8, 0), (9, 0), (10, 0)] r_p 9) (bx_val [(0, 0), (0, 0), (0, 0), (0, 0), (0, 0), (0, 0), (0, 0), (0, 0), (8, 0), (9, 0), (10, 0)] r_p 10)
    rw [bx_val_x (n := 8) (e := (8, 0)) h0_ rfl, bx_val_x (n := 9) (e := (9, 0)) h0_ rfl, bx_val_x (n := 10) (e := (10, 0)) h0_ rfl]
    exact g.2.2.1
  · show rxm301_2 S0 ws S_p (bx_val [(0, 0), (0, 0), (0, 0), (0, 0), (0, 0), (0, 0), (0, 0), (0, 0), (8, 0), (9, 0), (10, 0)] r_p 8) (bx_val [(0, 0), (0, 0), (0, 0), (0, 0), (0, 0), (0, 0), (0, 0), (0, 0), (8, 0), (9, 0), (10, 0)] r_p 9) (bx_val [(0, 0), (0, 0), (0, 0), (0, 0), (0, 0), (0, 0), (0, 0), (0, 0), (8, 0), (9, 0), (10, 0)] r_p 10) < rxm301_1 S0 ws S_p (r 8) (r 9) (r 10)
    rw [bx_val_x (n := 8) (e := (8, 0)) h0_ rfl, bx_val_x (n := 9) (e := (9, 0)) h0_ rfl, bx_val_x (n := 10) (e := (10, 0)) h0_ rfl, ← hr_ 8 (by decide), ← hr_ 9 (by decide), ← hr_ 10 (by decide)]
    exact g.2.2.2
theorem rxd301_1_0 {S0 : Nat → Int → Int} {ws : List Int} {S : Nat → Int → Int} {v st k x11 x12 : Int} (hP : rxP301 S0 ws) (hin : bx_same rxL (bx_mdl rxC301.2.2.1) S0 S) (hin2 : bx_same rxL (bx_mdl rxC301.2.2.1) S S) (I0 : bx_Inv rxL S) (I1 : bx_Inv rxL S) (hinv : rxI301_1 S0 ws S v st k) (l8 : 0 ≤ v) (u8 : v ≤ 11) (l9 : (-1) ≤ st) (u9 : st ≤ 5) (l10 : 0 ≤ k) (u10 : k ≤ 11) (l11 : 1 ≤ x11) (u11 : x11 ≤ 12) (l12 : 0 ≤ x12) (u12 : x12 ≤ 11) (f0 : x12 ≠ (-1)) (f1 : k < x11) (e1 : S 482 5 = x11) (e0 : S 480 37 = x12) : (True) ∧ rxPS301 S0 ws S none := by
  exact ⟨trivial, rfl, fun h => by omega⟩
theorem rxf301_1_0 {X : (Nat → Int → Int) → Prop} {S0 : Nat → Int → Int} {ws : List Int} (hP : rxP301 S0 ws) : bx_obE rxL X S0 rxC301.2.2.1 (rxI301 S0 ws) (rxPS301 S0 ws) 1 rxz301_1 rxe301_1_0 := by
  intro S S_p r r_p hinv hX hin hsm_ hseg
  obtain ⟨I0, I1, h0_, hr_, b_, f_, d_⟩ := bx_cl (evs := [(0, (0, 480), (0, 37), .inr (0, (12, 0))), (0, (0, 482), (0, 5), .inr (0, (11, 0)))]) (fvs := [(3, (12, 0), (0, (-1)), (0, 0)), (0, (10, 0), (11, 0), (0, 0))]) hseg (by decide +kernel) (by decide +kernel)
  have hinv : rxI301_1 S0 ws S (r 8) (r 9) (r 10) := hinv
  rw [← hr_ 8 (by decide), ← hr_ 9 (by decide), ← hr_ 10 (by decide)] at hinv
  obtain ⟨⟨l8, u8⟩, ⟨l9, u9⟩, ⟨l10, u10⟩, ⟨l11, u11⟩, ⟨l12, u12⟩, -⟩ := b_
  obtain ⟨f0, f1, -⟩ := f_
  obtain ⟨e0, ⟨e1, w_⟩⟩ := d_
  subst w_
  have g := rxd301_1_0 hP hin hsm_ I0 I1 hinv l8 u8 l9 u9 l10 u10 l11 u11 l12 u12 f0 f1 e1 e0
  refine ⟨bx_narP_ok (l := []) g.1, ?_⟩
  exact g.2
theorem rxd301_1_1 {S0 : Nat → Int → Int} {ws : List Int} {S : Nat → Int → Int} {v st k x11 : Int} (hP : rxP301 S0 ws) (hin : bx_same rxL (bx_mdl rxC301.2.2.1) S0 S) (hin2 : bx_same rxL (bx_mdl rxC301.2.2.1) S S) (I0 : bx_Inv rxL S) (I1 : bx_Inv rxL S) (hinv : rxI301_1 S0 ws S v st k) (l8 : 0 ≤ v) (u8 : v ≤ 11) (l9 : (-1) ≤ st) (u9 : st ≤ 5) (l10 : 0 ≤ k) (u10 : k ≤ 12) (l11 : 0 ≤ x11) (u11 : x11 ≤ 12) (f0 : x11 ≤ k) (e0 : S 482 5 = x11) : (True) ∧ rxPS301 S0 ws S none := by
  exact ⟨trivial, rfl, fun h j h1 h2 => (hinv h).2 j h1 (by omega)⟩
theorem rxf301_1_1 {X : (Nat → Int → Int) → Prop} {S0 : Nat → Int → Int} {ws : List Int} (hP : rxP301 S0 ws) : bx_obE rxL X S0 rxC301.2.2.1 (rxI301 S0 ws) (rxPS301 S0 ws) 1 rxz301_1 rxe301_1_1 := by
  intro S S_p r r_p hinv hX hin hsm_ hseg
  obtain ⟨I0, I1, h0_, hr_, b_, f_, d_⟩ := bx_cl (evs := [(0, (0, 482), (0, 5), .inr (0, (11, 0)))]) (fvs := [(1, (11, 0), (10, 0), (0, 0))]) hseg (by decide +kernel) (by decide +kernel)
  have hinv : rxI301_1 S0 ws S (r 8) (r 9) (r 10) := hinv
  rw [← hr_ 8 (by decide), ← hr_ 9 (by decide), ← hr_ 10 (by decide)] at hinv
  obtain ⟨⟨l8, u8⟩, ⟨l9, u9⟩, ⟨l10, u10⟩, ⟨l11, u11⟩, -⟩ := b_
  obtain ⟨f0, -⟩ := f_
  obtain ⟨e0, w_⟩ := d_
  subst w_
  have g := rxd301_1_1 hP hin hsm_ I0 I1 hinv l8 u8 l9 u9 l10 u10 l11 u11 f0 e0
  refine ⟨bx_narP_ok (l := []) g.1, ?_⟩
  exact g.2
theorem rxc301_2_0 {S0 : Nat → Int → Int} {ws : List Int} {S : Nat → Int → Int} {v st k x11 x12 x13 x14 x15 x16 x17 x18 : Int} (hP : rxP301 S0 ws) (hin : bx_same rxL (bx_mdl rxC301.2.2.1) S0 S) (I0 : bx_Inv rxL S) (hinv : rxI301_2 S0 ws S v st k) (l8 : 0 ≤ v) (u8 : v ≤ 11) (l9 : 0 ≤ st) (u9 : st ≤ 5) (l10 : 0 ≤ k) (u10 : k ≤ 11) (l11 : 0 ≤ x11) (u11 : x11 ≤ 30) (l12 : 0 ≤ x12) (u12 : x12 ≤ 5) (l13 : 0 ≤ x13) (u13 : x13 ≤ 35) (l14 : 0 ≤ x14) (u14 : x14 ≤ 396) (l15 : 298 ≤ x15) (u15 : x15 ≤ 729) (l16 : 0 ≤ x16) (u16 : x16 ≤ 59) (l17 : 0 ≤ x17) (u17 : x17 ≤ 9) (l18 : 0 ≤ x18) (u18 : x18 ≤ 5) (f0 : x16 ≠ (-1)) (f1 : x16 ≠ (-1)) (f2 : x16 ≠ (-1)) (f3 : x15 = x14 + 298 + x13) (f4 : x14 = 36 * (v)) (f5 : x13 = x11 + x12) (f6 : x11 = 6 * (st)) (e3 : S 482 (k + 730) = x12) (e2 : S 482 x15 = x16) : (True) ∧ (True) ∧ rxI301_1 S0 ws (bx_up (bx_up S 497 k x17) 480 37 ((-1))) v x18 (k + 1) ∧ rxm301_1 S0 ws (bx_up (bx_up S 497 k x17) 480 37 ((-1))) v x18 (k + 1) < rxm301_2 S0 ws S v st k := by
  refine ⟨trivial, trivial, fun _ => ⟨by omega, fun j h1 h2 => ?_⟩, ?_⟩
  · rw [bx_up_row (by omega)]
    by_cases hj : j = k
    · subst hj
      rw [bx_up_at]
      omega
    · rw [bx_up_ne (by omega)]
      exact hinv j h1 (by omega)
  · show 4 * (20 - (k + 1)).toNat + 2 < 4 * (20 - k).toNat + 1
    omega
theorem rxg301_2_0 {X : (Nat → Int → Int) → Prop} {S0 : Nat → Int → Int} {ws : List Int} (hP : rxP301 S0 ws) : bx_obC rxL X S0 rxC301.2.2.1 (rxI301 S0 ws) (rxm301 S0 ws) 2 rxz301_2 rxo301_2_0 := by
  intro S S_p r r_p hinv hX hin hsm_ hseg
  obtain ⟨I0, I1, h0_, hr_, b_, f_, d_⟩ := bx_cl (evs := [(1, (0, 480), (0, 37), .inr (0, (0, (-1)))), (1, (0, 497), (10, 0), .inr (0, (17, 0))), (0, (0, 482), (15, 0), .inr (0, (16, 0))), (0, (0, 482), (10, 730), .inr (0, (12, 0)))]) (fvs := [(3, (16, 0), (0, (-1)), (0, 0)), (3, (16, 0), (0, (-1)), (0, 0)), (3, (16, 0), (0, (-1)), (0, 0)), (5, (15, 0), (14, 298), (13, 0)), (4, (14, 0), (8, 0), (0, 36)), (5, (13, 0), (11, 0), (12, 0)), (4, (11, 0), (9, 0), (0, 6))]) hseg (by decide +kernel) (by decide +kernel)
  have hinv : rxI301_2 S0 ws S (r 8) (r 9) (r 10) := hinv
  rw [← hr_ 8 (by decide), ← hr_ 9 (by decide), ← hr_ 10 (by decide)] at hinv
  obtain ⟨⟨l8, u8⟩, ⟨l9, u9⟩, ⟨l10, u10⟩, ⟨l11, u11⟩, ⟨l12, u12⟩, ⟨l13, u13⟩, ⟨l14, u14⟩, ⟨l15, u15⟩, ⟨l16, u16⟩, ⟨l17, u17⟩, ⟨l18, u18⟩, -⟩ := b_
  obtain ⟨f0, f1, f2, f3, f4, f5, f6, -⟩ := f_
  obtain ⟨T0, ⟨T1, ⟨e2, ⟨e3, w_⟩⟩, w1⟩, w0⟩ := d_
  subst w0
  subst w1
  subst w_
  have g := rxc301_2_0 hP hin I0 hinv l8 u8 l9 u9 l10 u10 l11 u11 l12 u12 l13 u13 l14 u14 l15 u15 l16 u16 l17 u17 l18 u18 f0 f1 f2 f3 f4 f5 f6 e3 e2
  refine ⟨bx_narP_ok (l := []) g.1, bx_nfP_ok h0_ (fvs := []) (by decide +kernel) g.2.1, ?_, ?_⟩
  · show rxI301_1 S0 ws (bx_up (bx_up T1 497 (r_p 10) (r_p 17)) 480 (37) ((-1))) (bx_val [(0, 0), (0, 0), (0, 0), (0, 0), (0, 0), (0, 0), (0, 0), (0, 0), (8, 0), (18, 0), (10, 1)] r_p 8) (bx_val [(0, 0), (0, 0), (0, 0), (0, 0), (0, 0), (0, 0), (0, 0), (0, 0), (8, 0), (18, 0), (10, 1)] r_p 9) (bx_val [(0, 0), (0, 0), (0, 0), (0, 0), (0, 0), (0, 0), (0, 0), (0, 0), (8, 0), (18, 0), (10, 1)] r_p 10)
    rw [bx_val_x (n := 8) (e := (8, 0)) h0_ rfl, bx_val_x (n := 9) (e := (18, 0)) h0_ rfl, bx_val_x (n := 10) (e := (10, 1)) h0_ rfl]
    exact g.2.2.1
  · show rxm301_1 S0 ws (bx_up (bx_up T1 497 (r_p 10) (r_p 17)) 480 (37) ((-1))) (bx_val [(0, 0), (0, 0), (0, 0), (0, 0), (0, 0), (0, 0), (0, 0), (0, 0), (8, 0), (18, 0), (10, 1)] r_p 8) (bx_val [(0, 0), (0, 0), (0, 0), (0, 0), (0, 0), (0, 0), (0, 0), (0, 0), (8, 0), (18, 0), (10, 1)] r_p 9) (bx_val [(0, 0), (0, 0), (0, 0), (0, 0), (0, 0), (0, 0), (0, 0), (0, 0), (8, 0), (18, 0), (10, 1)] r_p 10) < rxm301_2 S0 ws T1 (r 8) (r 9) (r 10)
    rw [bx_val_x (n := 8) (e := (8, 0)) h0_ rfl, bx_val_x (n := 9) (e := (18, 0)) h0_ rfl, bx_val_x (n := 10) (e := (10, 1)) h0_ rfl, ← hr_ 8 (by decide), ← hr_ 9 (by decide), ← hr_ 10 (by decide)]
    exact g.2.2.2
theorem rxc301_2_1 {S0 : Nat → Int → Int} {ws : List Int} {S : Nat → Int → Int} {v st k x11 x12 x13 x14 x15 x16 : Int} (hP : rxP301 S0 ws) (hin : bx_same rxL (bx_mdl rxC301.2.2.1) S0 S) (I0 : bx_Inv rxL S) (hinv : rxI301_2 S0 ws S v st k) (l8 : 0 ≤ v) (u8 : v ≤ 11) (l9 : 0 ≤ st) (u9 : st ≤ 5) (l10 : 0 ≤ k) (u10 : k ≤ 11) (l11 : 0 ≤ x11) (u11 : x11 ≤ 30) (l12 : 0 ≤ x12) (u12 : x12 ≤ 5) (l13 : 0 ≤ x13) (u13 : x13 ≤ 35) (l14 : 0 ≤ x14) (u14 : x14 ≤ 396) (l15 : 298 ≤ x15) (u15 : x15 ≤ 729) (l16 : (-1) ≤ x16) (u16 : x16 ≤ (-1)) (f0 : x15 = x14 + 298 + x13) (f1 : x14 = 36 * (v)) (f2 : x13 = x11 + x12) (f3 : x11 = 6 * (st)) (e3 : S 482 (k + 730) = x12) (e2 : S 482 x15 = x16) : (True) ∧ (True) ∧ rxI301_1 S0 ws (bx_up (bx_up S 497 k ((-1))) 480 37 k) v ((-1)) (k + 1) ∧ rxm301_1 S0 ws (bx_up (bx_up S 497 k ((-1))) 480 37 k) v ((-1)) (k + 1) < rxm301_2 S0 ws S v st k := by
  refine ⟨trivial, trivial, fun h => ?_, ?_⟩
  · rw [bx_up_at] at h
    omega
  · show 4 * (20 - (k + 1)).toNat + 2 < 4 * (20 - k).toNat + 1
    omega
theorem rxg301_2_1 {X : (Nat → Int → Int) → Prop} {S0 : Nat → Int → Int} {ws : List Int} (hP : rxP301 S0 ws) : bx_obC rxL X S0 rxC301.2.2.1 (rxI301 S0 ws) (rxm301 S0 ws) 2 rxz301_2 rxo301_2_1 := by
  intro S S_p r r_p hinv hX hin hsm_ hseg
  obtain ⟨I0, I1, h0_, hr_, b_, f_, d_⟩ := bx_cl (evs := [(1, (0, 480), (0, 37), .inr (0, (10, 0))), (1, (0, 497), (10, 0), .inr (0, (0, (-1)))), (0, (0, 482), (15, 0), .inr (0, (16, 0))), (0, (0, 482), (10, 730), .inr (0, (12, 0)))]) (fvs := [(5, (15, 0), (14, 298), (13, 0)), (4, (14, 0), (8, 0), (0, 36)), (5, (13, 0), (11, 0), (12, 0)), (4, (11, 0), (9, 0), (0, 6))]) hseg (by decide +kernel) (by decide +kernel)
  have hinv : rxI301_2 S0 ws S (r 8) (r 9) (r 10) := hinv
  rw [← hr_ 8 (by decide), ← hr_ 9 (by decide), ← hr_ 10 (by decide)] at hinv
  obtain ⟨⟨l8, u8⟩, ⟨l9, u9⟩, ⟨l10, u10⟩, ⟨l11, u11⟩, ⟨l12, u12⟩, ⟨l13, u13⟩, ⟨l14, u14⟩, ⟨l15, u15⟩, ⟨l16, u16⟩, -⟩ := b_
  obtain ⟨f0, f1, f2, f3, -⟩ := f_
  obtain ⟨T0, ⟨T1, ⟨e2, ⟨e3, w_⟩⟩, w1⟩, w0⟩ := d_
  subst w0
  subst w1
  subst w_
  have g := rxc301_2_1 hP hin I0 hinv l8 u8 l9 u9 l10 u10 l11 u11 l12 u12 l13 u13 l14 u14 l15 u15 l16 u16 f0 f1 f2 f3 e3 e2
  refine ⟨bx_narP_ok (l := []) g.1, bx_nfP_ok h0_ (fvs := []) (by decide +kernel) g.2.1, ?_, ?_⟩
  · show rxI301_1 S0 ws (bx_up (bx_up T1 497 (r_p 10) ((-1))) 480 (37) (r_p 10)) (bx_val [(0, 0), (0, 0), (0, 0), (0, 0), (0, 0), (0, 0), (0, 0), (0, 0), (8, 0), (0, (-1)), (10, 1)] r_p 8) (bx_val [(0, 0), (0, 0), (0, 0), (0, 0), (0, 0), (0, 0), (0, 0), (0, 0), (8, 0), (0, (-1)), (10, 1)] r_p 9) (bx_val [(0, 0), (0, 0), (0, 0), (0, 0), (0, 0), (0, 0), (0, 0), (0, 0), (8, 0), (0, (-1)), (10, 1)] r_p 10)
    rw [bx_val_x (n := 8) (e := (8, 0)) h0_ rfl, bx_val_x (n := 9) (e := (0, (-1))) h0_ rfl, bx_val_x (n := 10) (e := (10, 1)) h0_ rfl]
    exact g.2.2.1
  · show rxm301_1 S0 ws (bx_up (bx_up T1 497 (r_p 10) ((-1))) 480 (37) (r_p 10)) (bx_val [(0, 0), (0, 0), (0, 0), (0, 0), (0, 0), (0, 0), (0, 0), (0, 0), (8, 0), (0, (-1)), (10, 1)] r_p 8) (bx_val [(0, 0), (0, 0), (0, 0), (0, 0), (0, 0), (0, 0), (0, 0), (0, 0), (8, 0), (0, (-1)), (10, 1)] r_p 9) (bx_val [(0, 0), (0, 0), (0, 0), (0, 0), (0, 0), (0, 0), (0, 0), (0, 0), (8, 0), (0, (-1)), (10, 1)] r_p 10) < rxm301_2 S0 ws T1 (r 8) (r 9) (r 10)
    rw [bx_val_x (n := 8) (e := (8, 0)) h0_ rfl, bx_val_x (n := 9) (e := (0, (-1))) h0_ rfl, bx_val_x (n := 10) (e := (10, 1)) h0_ rfl, ← hr_ 8 (by decide), ← hr_ 9 (by decide), ← hr_ 10 (by decide)]
    exact g.2.2.2
theorem rxgC301 {X : (Nat → Int → Int) → Prop} {S0 : Nat → Int → Int} {ws : List Int} (hP : rxP301 S0 ws) : bx_allI (fun i q => rxU301 q = true ∨ bx_allP (fun o => bx_obC rxL X S0 rxC301.2.2.1 (rxI301 S0 ws) (rxm301 S0 ws) i q.1 o) q.2.1) 0 rxY301 := ⟨Or.inr ⟨rxg301_0_0 hP, trivial⟩, Or.inr ⟨rxg301_1_0 hP, trivial⟩, Or.inr ⟨rxg301_2_0 hP, rxg301_2_1 hP, trivial⟩, trivial⟩
theorem rxgE301 {X : (Nat → Int → Int) → Prop} {S0 : Nat → Int → Int} {ws : List Int} (hP : rxP301 S0 ws) : bx_allI (fun i q => rxU301 q = true ∨ bx_allP (fun E => bx_obE rxL X S0 rxC301.2.2.1 (rxI301 S0 ws) (rxPS301 S0 ws) i q.1 E) q.2.2) 0 rxY301 := ⟨Or.inr trivial, Or.inr ⟨rxf301_1_0 hP, rxf301_1_1 hP, trivial⟩, Or.inr trivial, trivial⟩
theorem rxQ301 {PX : State → Prop} {Dg : va_G} {A : Nat → Prop} {ad xa : Nat → Nat} {l : Launch} {X : (Nat → Int → Int) → Prop} (hPX : rx_PXOK rxNW A PX) (hsl : ∀ s : State, PX s → ∀ o idx n : Nat, rxSl o idx = some n → ∃ tx : String, vk_R (rxNm o) idx tx (ad n) s)
    (hX : ∀ S S_p : Nat → Int → Int, X S → bx_same rxL (bx_mdl rxC301.2.2.1) S S_p → X S_p)
    (ih : ∀ (j2 : Nat) (ct2 : bx_Ct) (M2 : rx_Mt), ct2 ∈ rxCnE j2 → ct2.2.2.2.1 + 1 ≤ rxC301.2.2.2.1 → rxT.2.2.2.2.2 j2 = some M2 → bx_Con rxG rxNW rxAO PX Dg rxL X vwCl A ad l M2 ct2) : bx_ConP rxG rxNW rxAO PX Dg rxL X vwCl A ad l rxM301 rxC301 rxP301 rxPS301 :=
  rxQof (xa := xa) (Cn := rxCnE) (f := 30000) (j := 301) (tab := rxY301) (us := rxU301) hPX hsl hX ih rfl rxYc301 rxI301 rxm301
    (fun S0 ws r I0 I ht0 ht as he he1 hX0 hI0 hP hs ha => by
      have e := he.symm.trans (show bx_ent0 rxNP rxC301.1 bx_I0 [] = some ([(0, 0), (0, 0), (0, 0), (0, 0), (0, 0), (0, 0), (0, 0), (0, 0), (0, 11)], [], [.inr (3, (0, 480)), .inr (0, (8, 0))]) from rfl)
      cases e
      subst ha
      have h0 : r 0 = 0 := hs.1
      show rxI301_0 S0 _ S0 (r 8)
      refine ⟨rfl, ?_⟩
      simp only [List.map_cons, List.map_nil, bx_xv_ok h0]
      rfl)
    (fun S0 ws hP => fun i q hq hus => absurd (show false = true from hus) Bool.false_ne_true) (fun S0 ws hP => rxgC301 hP) (fun S0 ws hP => rxgE301 hP)
