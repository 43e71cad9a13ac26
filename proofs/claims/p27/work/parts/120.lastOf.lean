section
noncomputable def rxCLO : bx_Ct := ([(3, (1, 480, 0))], some (0, (0, 0, 7)), [], 1, [])
noncomputable def rxILO_0 (S0 : Nat → Int → Int) (ws : List Int) (S : Nat → Int → Int) : Prop := S = S0 ∧ ws = [480]
noncomputable def rxmLO_0 (S0 : Nat → Int → Int) (ws : List Int) (S : Nat → Int → Int) : Nat := 1000
noncomputable def rxzLO_0 : rx_Z := ([(0, 0), (0, 0), (0, 0), (0, 0), (0, 0), (0, 0), (0, 0), (0, 0)], [], [], 0, 0, 0, [(0, .inr (3, (0, 480)))], [])
noncomputable def rxILO_1 (S0 : Nat → Int → Int) (ws : List Int) (S : Nat → Int → Int) (its k : Int) : Prop := S = S0 ∧ 1 ≤ S 480 54 ∧ ∃ i : Int, 0 ≤ i ∧ i < S 480 54 ∧ its = S 506 i
noncomputable def rxmLO_1 (S0 : Nat → Int → Int) (ws : List Int) (S : Nat → Int → Int) (its k : Int) : Nat := (20 - k).toNat
noncomputable def rxzLO_1 : rx_Z := ([(0, 0), (0, 0), (0, 0), (0, 0), (0, 0), (0, 0), (0, 0), (0, 0), (0, 7), (1, 8)], [], [], 0, 0, 9, [(0, .inr (3, (0, 480))), (1, .inr (0, (8, 0))), (2, .inr (0, (9, 0)))], [])
noncomputable def rxoLO_0_0 : bx_HO := (([(0, 0), (0, 0), (0, 0), (0, 0), (0, 0), (0, 0), (0, 0), (0, 0), (0, 7)], [], [(((0, 0), 1851192626986356797424340330377019318111018015026043177851813888000000), .inr (0, (8, 0))), (((0, 506), 0), .inr (0, (8, 0))), (((0, 480), 52), .inr (3, (0, 506)))], 0, 0, 9, [(2, .inr (0, (0, 1))), (1, .inr (0, (8, 0))), (0, .inr (3, (0, 480)))], []), [], [], [(0, 0), (0, 0), (0, 0), (0, 0), (0, 0), (0, 0), (0, 0), (0, 0), (8, 0), (0, 1)], 1)
noncomputable def rxoLO_1_0 : bx_HO := (([(0, 0), (0, 0), (0, 0), (0, 0), (0, 0), (0, 0), (0, 0), (0, 0), (0, 7), (1, 7), (2, 8), (0, 7), (0, 21), (1, 300), (0, 21), (0, 299), (0, 7)], [(0, (15, 0), (13, 0)), (7, (14, 0), (8, 0)), (7, (12, 0), (11, 0)), (0, (9, 0), (10, 0))], [(((0, 0), 1851192626986356797424367893248739914126558548369245151076941824000000), .inr (0, (16, 0))), (((0, 0), 1851192626986356845393286127994621733800744404693205179996176384000000), .inr (0, (15, 0))), (((0, 0), 1851192626986356845393280002912017156908402063950271408168370176000000), .inr (0, (13, 0))), (((0, 480), 3), .inr (3, (0, 482))), (((0, 0), 1851192626986356797424367893248739914126558548369245151076941824000000), .inr (0, (11, 0))), (((0, 480), 52), .inr (3, (0, 506))), (((0, 0), 1851192626986356808262502496862902164897377095533146869742960640000000), .inr (0, (10, 0))), (((0, 480), 54), .inr (0, (10, 0)))], 0, 0, 9, [(2, .inr (0, (9, 1))), (1, .inr (0, (16, 0))), (0, .inr (3, (0, 480)))], []), [], [], [(0, 0), (0, 0), (0, 0), (0, 0), (0, 0), (0, 0), (0, 0), (0, 0), (16, 0), (9, 1)], 1)
noncomputable def rxoLO_1_1 : bx_HO := (([(0, 0), (0, 0), (0, 0), (0, 0), (0, 0), (0, 0), (0, 0), (0, 0), (0, 7), (1, 7), (2, 8), (0, 7), (0, 21), (0, 300), (0, 21), (0, 300)], [(1, (13, 0), (15, 0)), (7, (14, 0), (8, 0)), (7, (12, 0), (11, 0)), (0, (9, 0), (10, 0))], [(((0, 0), 1851192626986356845393286127994621733800744404693205179996176384000000), .inr (0, (15, 0))), (((0, 0), 1851192626986356845393280002912017156908402063950271408168370176000000), .inr (0, (13, 0))), (((0, 480), 3), .inr (3, (0, 482))), (((0, 0), 1851192626986356797424367893248739914126558548369245151076941824000000), .inr (0, (11, 0))), (((0, 480), 52), .inr (3, (0, 506))), (((0, 0), 1851192626986356808262502496862902164897377095533146869742960640000000), .inr (0, (10, 0))), (((0, 480), 54), .inr (0, (10, 0)))], 0, 0, 9, [(2, .inr (0, (9, 1))), (1, .inr (0, (8, 0))), (0, .inr (3, (0, 480)))], []), [], [], [(0, 0), (0, 0), (0, 0), (0, 0), (0, 0), (0, 0), (0, 0), (0, 0), (8, 0), (9, 1)], 1)
noncomputable def rxeLO_1_0 : rx_End × List (Nat × Int × Int) := (([(0, 0), (0, 0), (0, 0), (0, 0), (0, 0), (0, 0), (0, 0), (0, 0), (0, 7), (1, 8), (0, 8)], [(1, (10, 0), (9, 0))], [(((0, 0), 1851192626986356808262502496862902164897377095533146869742960640000000), .inr (0, (10, 0))), (((0, 480), 54), .inr (0, (10, 0)))], some (.inr (0, (8, 0)))), [])
noncomputable def rxYLO : List bx_HE := [(rxzLO_0, [rxoLO_0_0], []), (rxzLO_1, [rxoLO_1_0, rxoLO_1_1], [rxeLO_1_0])]
noncomputable def rxULO (q : bx_HE) : Bool := false
noncomputable def rxYBLO : bx_B := (rxV, rxNP, rxDmf, bx_mdH rxCLO.2.2.1)
set_option maxRecDepth 100000 in
theorem rxYcLO : bx_chkH rxYBLO rxM312 rxCLO rxYLO (rxULO, fun cut z => rx_ex2 (rxCT rxYBLO rxCnE) cut 30000 rxCLO.2.2.2.1 312 z) = true := by decide +kernel
noncomputable def rxILO (S0 : Nat → Int → Int) (ws : List Int) (i : Nat) : bx_SP := fun S r => match i with | 0 => rxILO_0 S0 ws S | 1 => rxILO_1 S0 ws S (r 8) (r 9) | _ => False
noncomputable def rxmLO (S0 : Nat → Int → Int) (ws : List Int) (i : Nat) (S : Nat → Int → Int) (r : Nat → Int) : Nat := match i with | 0 => rxmLO_0 S0 ws S | 1 => rxmLO_1 S0 ws S (r 8) (r 9) | _ => 0
noncomputable def rxPLO (S0 : Nat → Int → Int) (ws : List Int) : Prop := 1 ≤ S0 480 54
noncomputable def rxPSLO (S0 : Nat → Int → Int) (ws : List Int) (S : Nat → Int → Int) (w : Option Int) : Prop := S = S0 ∧ ∃ i : Int, 0 ≤ i ∧ i < S 480 54 ∧ w = some (S 506 i)
theorem rxcLO_0_0 {S0 : Nat → Int → Int} {ws : List Int} {S : Nat → Int → Int} {x8 : Int} (hP : rxPLO S0 ws) (hin : bx_same rxL (bx_mdl rxCLO.2.2.1) S0 S) (I0 : bx_Inv rxL S) (hinv : rxILO_0 S0 ws S) (l8 : 0 ≤ x8) (u8 : x8 ≤ 7) (e0 : S 506 0 = x8) : (True) ∧ (True) ∧ rxILO_1 S0 ws S x8 1 ∧ rxmLO_1 S0 ws S x8 1 < rxmLO_0 S0 ws S := by
  obtain ⟨rfl, hw⟩ := hinv
  exact ⟨trivial, trivial, ⟨rfl, hP, 0, by omega, by have h : 1 ≤ S 480 54 := hP; omega, e0.symm⟩, by unfold rxmLO_0 rxmLO_1; omega⟩
theorem rxgLO_0_0 {X : (Nat → Int → Int) → Prop} {S0 : Nat → Int → Int} {ws : List Int} (hP : rxPLO S0 ws) : bx_obC rxL X S0 rxCLO.2.2.1 (rxILO S0 ws) (rxmLO S0 ws) 0 rxzLO_0 rxoLO_0_0 := by
  intro S S_p r r_p hinv hX hin hsm_ hseg
  obtain ⟨I0, I1, h0_, hr_, b_, f_, d_⟩ := bx_cl (evs := [(0, (0, 506), (0, 0), .inr (0, (8, 0)))]) (fvs := []) hseg (by decide +kernel) (by decide +kernel)
  have hinv : rxILO_0 S0 ws S := hinv
  obtain ⟨⟨l8, u8⟩, -⟩ := b_
  obtain ⟨e0, w_⟩ := d_
  subst w_
  have g := rxcLO_0_0 hP hin I0 hinv l8 u8 e0
  refine ⟨bx_narP_ok (l := []) g.1, bx_nfP_ok h0_ (fvs := []) (by decide +kernel) g.2.1, ?_, ?_⟩
  · show rxILO_1 S0 ws S_p (bx_val [(0, 0), (0, 0), (0, 0), (0, 0), (0, 0), (0, 0), (0, 0), (0, 0), (8, 0), (0, 1)] r_p 8) (bx_val [(0, 0), (0, 0), (0, 0), (0, 0), (0, 0), (0, 0), (0, 0), (0, 0), (8, 0), (0, 1)] r_p 9)
    rw [bx_val_x (n := 8) (e := (8, 0)) h0_ rfl, bx_val_x (n := 9) (e := (0, 1)) h0_ rfl]
    exact g.2.2.1
  · show rxmLO_1 S0 ws S_p (bx_val [(0, 0), (0, 0), (0, 0), (0, 0), (0, 0), (0, 0), (0, 0), (0, 0), (8, 0), (0, 1)] r_p 8) (bx_val [(0, 0), (0, 0), (0, 0), (0, 0), (0, 0), (0, 0), (0, 0), (0, 0), (8, 0), (0, 1)] r_p 9) < rxmLO_0 S0 ws S_p
    rw [bx_val_x (n := 8) (e := (8, 0)) h0_ rfl, bx_val_x (n := 9) (e := (0, 1)) h0_ rfl]
    exact g.2.2.2
theorem rxcLO_1_0 {S0 : Nat → Int → Int} {ws : List Int} {S : Nat → Int → Int} {its k x10 x11 x12 x13 x14 x15 x16 : Int} (hP : rxPLO S0 ws) (hin : bx_same rxL (bx_mdl rxCLO.2.2.1) S0 S) (I0 : bx_Inv rxL S) (hinv : rxILO_1 S0 ws S its k) (l8 : 0 ≤ its) (u8 : its ≤ 7) (l9 : 1 ≤ k) (u9 : k ≤ 7) (l10 : 2 ≤ x10) (u10 : x10 ≤ 8) (l11 : 0 ≤ x11) (u11 : x11 ≤ 7) (l12 : 0 ≤ x12) (u12 : x12 ≤ 21) (l13 : 1 ≤ x13) (u13 : x13 ≤ 300) (l14 : 0 ≤ x14) (u14 : x14 ≤ 21) (l15 : 0 ≤ x15) (u15 : x15 ≤ 299) (l16 : 0 ≤ x16) (u16 : x16 ≤ 7) (f0 : x15 < x13) (f1 : x14 = 3 * (its)) (f2 : x12 = 3 * (x11)) (f3 : k < x10) (e4 : S 480 54 = x10) (e3 : S 506 k = x11) (e2 : S 482 (x12 + 239) = x13) (e1 : S 482 (x14 + 239) = x15) (e0 : S 506 k = x16) : (True) ∧ (True) ∧ rxILO_1 S0 ws S x16 (k + 1) ∧ rxmLO_1 S0 ws S x16 (k + 1) < rxmLO_1 S0 ws S its k := by
  obtain ⟨hs, h1, h2⟩ := hinv
  exact ⟨trivial, trivial, ⟨hs, h1, k, by omega, by omega, e0.symm⟩, by unfold rxmLO_1; omega⟩
theorem rxgLO_1_0 {X : (Nat → Int → Int) → Prop} {S0 : Nat → Int → Int} {ws : List Int} (hP : rxPLO S0 ws) : bx_obC rxL X S0 rxCLO.2.2.1 (rxILO S0 ws) (rxmLO S0 ws) 1 rxzLO_1 rxoLO_1_0 := by
  intro S S_p r r_p hinv hX hin hsm_ hseg
  obtain ⟨I0, I1, h0_, hr_, b_, f_, d_⟩ := bx_cl (evs := [(0, (0, 506), (9, 0), .inr (0, (16, 0))), (0, (0, 482), (14, 239), .inr (0, (15, 0))), (0, (0, 482), (12, 239), .inr (0, (13, 0))), (0, (0, 506), (9, 0), .inr (0, (11, 0))), (0, (0, 480), (0, 54), .inr (0, (10, 0)))]) (fvs := [(0, (15, 0), (13, 0), (0, 0)), (4, (14, 0), (8, 0), (0, 3)), (4, (12, 0), (11, 0), (0, 3)), (0, (9, 0), (10, 0), (0, 0))]) hseg (by decide +kernel) (by decide +kernel)
  have hinv : rxILO_1 S0 ws S (r 8) (r 9) := hinv
  rw [← hr_ 8 (by decide), ← hr_ 9 (by decide)] at hinv
  obtain ⟨⟨l8, u8⟩, ⟨l9, u9⟩, ⟨l10, u10⟩, ⟨l11, u11⟩, ⟨l12, u12⟩, ⟨l13, u13⟩, ⟨l14, u14⟩, ⟨l15, u15⟩, ⟨l16, u16⟩, -⟩ := b_
  obtain ⟨f0, f1, f2, f3, -⟩ := f_
  obtain ⟨e0, ⟨e1, ⟨e2, ⟨e3, ⟨e4, w_⟩⟩⟩⟩⟩ := d_
  subst w_
  have g := rxcLO_1_0 hP hin I0 hinv l8 u8 l9 u9 l10 u10 l11 u11 l12 u12 l13 u13 l14 u14 l15 u15 l16 u16 f0 f1 f2 f3 e4 e3 e2 e1 e0
  refine ⟨bx_narP_ok (l := []) g.1, bx_nfP_ok h0_ (fvs := []) (by decide +kernel) g.2.1, ?_, ?_⟩
  · show rxILO_1 S0 ws S_p (bx_val [(0, 0), (0, 0), (0, 0), (0, 0), (0, 0), (0, 0), (0, 0), (0, 0), (16, 0), (9, 1)] r_p 8) (bx_val [(0, 0), (0, 0), (0, 0), (0, 0), (0, 0), (0, 0), (0, 0), (0, 0), (16, 0), (9, 1)] r_p 9)
    rw [bx_val_x (n := 8) (e := (16, 0)) h0_ rfl, bx_val_x (n := 9) (e := (9, 1)) h0_ rfl]
    exact g.2.2.1
  · show rxmLO_1 S0 ws S_p (bx_val [(0, 0), (0, 0), (0, 0), (0, 0), (0, 0), (0, 0), (0, 0), (0, 0), (16, 0), (9, 1)] r_p 8) (bx_val [(0, 0), (0, 0), (0, 0), (0, 0), (0, 0), (0, 0), (0, 0), (0, 0), (16, 0), (9, 1)] r_p 9) < rxmLO_1 S0 ws S_p (r 8) (r 9)
    rw [bx_val_x (n := 8) (e := (16, 0)) h0_ rfl, bx_val_x (n := 9) (e := (9, 1)) h0_ rfl, ← hr_ 8 (by decide), ← hr_ 9 (by decide)]
    exact g.2.2.2
theorem rxcLO_1_1 {S0 : Nat → Int → Int} {ws : List Int} {S : Nat → Int → Int} {its k x10 x11 x12 x13 x14 x15 : Int} (hP : rxPLO S0 ws) (hin : bx_same rxL (bx_mdl rxCLO.2.2.1) S0 S) (I0 : bx_Inv rxL S) (hinv : rxILO_1 S0 ws S its k) (l8 : 0 ≤ its) (u8 : its ≤ 7) (l9 : 1 ≤ k) (u9 : k ≤ 7) (l10 : 2 ≤ x10) (u10 : x10 ≤ 8) (l11 : 0 ≤ x11) (u11 : x11 ≤ 7) (l12 : 0 ≤ x12) (u12 : x12 ≤ 21) (l13 : 0 ≤ x13) (u13 : x13 ≤ 300) (l14 : 0 ≤ x14) (u14 : x14 ≤ 21) (l15 : 0 ≤ x15) (u15 : x15 ≤ 300) (f0 : x13 ≤ x15) (f1 : x14 = 3 * (its)) (f2 : x12 = 3 * (x11)) (f3 : k < x10) (e3 : S 480 54 = x10) (e2 : S 506 k = x11) (e1 : S 482 (x12 + 239) = x13) (e0 : S 482 (x14 + 239) = x15) : (True) ∧ (True) ∧ rxILO_1 S0 ws S its (k + 1) ∧ rxmLO_1 S0 ws S its (k + 1) < rxmLO_1 S0 ws S its k := by
  obtain ⟨hs, h1, h2⟩ := hinv
  exact ⟨trivial, trivial, ⟨hs, h1, h2⟩, by unfold rxmLO_1; omega⟩
theorem rxgLO_1_1 {X : (Nat → Int → Int) → Prop} {S0 : Nat → Int → Int} {ws : List Int} (hP : rxPLO S0 ws) : bx_obC rxL X S0 rxCLO.2.2.1 (rxILO S0 ws) (rxmLO S0 ws) 1 rxzLO_1 rxoLO_1_1 := by
  intro S S_p r r_p hinv hX hin hsm_ hseg
  obtain ⟨I0, I1, h0_, hr_, b_, f_, d_⟩ := bx_cl (evs := [(0, (0, 482), (14, 239), .inr (0, (15, 0))), (0, (0, 482), (12, 239), .inr (0, (13, 0))), (0, (0, 506), (9, 0), .inr (0, (11, 0))), (0, (0, 480), (0, 54), .inr (0, (10, 0)))]) (fvs := [(1, (13, 0), (15, 0), (0, 0)), (4, (14, 0), (8, 0), (0, 3)), (4, (12, 0), (11, 0), (0, 3)), (0, (9, 0), (10, 0), (0, 0))]) hseg (by decide +kernel) (by decide +kernel)
  have hinv : rxILO_1 S0 ws S (r 8) (r 9) := hinv
  rw [← hr_ 8 (by decide), ← hr_ 9 (by decide)] at hinv
  obtain ⟨⟨l8, u8⟩, ⟨l9, u9⟩, ⟨l10, u10⟩, ⟨l11, u11⟩, ⟨l12, u12⟩, ⟨l13, u13⟩, ⟨l14, u14⟩, ⟨l15, u15⟩, -⟩ := b_
  obtain ⟨f0, f1, f2, f3, -⟩ := f_
  obtain ⟨e0, ⟨e1, ⟨e2, ⟨e3, w_⟩⟩⟩⟩ := d_
  subst w_
  have g := rxcLO_1_1 hP hin I0 hinv l8 u8 l9 u9 l10 u10 l11 u11 l12 u12 l13 u13 l14 u14 l15 u15 f0 f1 f2 f3 e3 e2 e1 e0
  refine ⟨bx_narP_ok (l := []) g.1, bx_nfP_ok h0_ (fvs := []) (by decide +kernel) g.2.1, ?_, ?_⟩
  · show rxILO_1 S0 ws S_p (bx_val [(0, 0), (0, 0), (0, 0), (0, 0), (0, 0), (0, 0), (0, 0), (0, 0), (8, 0), (9, 1)] r_p 8) (bx_val [(0, 0), (0, 0), (0, 0), (0, 0), (0, 0), (0, 0), (0, 0), (0, 0), (8, 0), (9, 1)] r_p 9)
    rw [bx_val_x (n := 8) (e := (8, 0)) h0_ rfl, bx_val_x (n := 9) (e := (9, 1)) h0_ rfl]
    exact g.2.2.1
  · show rxmLO_1 S0 ws S_p (bx_val [(0, 0), (0, 0), (0, 0), (0, 0), (0, 0), (0, 0), (0, 0), (0, 0), (8, 0), (9, 1)] r_p 8) (bx_val [(0, 0), (0, 0), (0, 0), (0, 0), (0, 0), (0, 0), (0, 0), (0, 0), (8, 0), (9, 1)] r_p 9) < rxmLO_1 S0 ws S_p (r 8) (r 9)
    rw [bx_val_x (n := 8) (e := (8, 0)) h0_ rfl, bx_val_x (n := 9) (e := (9, 1)) h0_ rfl, ← hr_ 8 (by decide), ← hr_ 9 (by decide)]
    exact g.2.2.2
theorem rxdLO_1_0 {S0 : Nat → Int → Int} {ws : List Int} {S : Nat → Int → Int} {its k x10 : Int} (hP : rxPLO S0 ws) (hin : bx_same rxL (bx_mdl rxCLO.2.2.1) S0 S) (hin2 : bx_same rxL (bx_mdl rxCLO.2.2.1) S S) (I0 : bx_Inv rxL S) (I1 : bx_Inv rxL S) (hinv : rxILO_1 S0 ws S its k) (l8 : 0 ≤ its) (u8 : its ≤ 7) (l9 : 1 ≤ k) (u9 : k ≤ 8) (l10 : 0 ≤ x10) (u10 : x10 ≤ 8) (f0 : x10 ≤ k) (e0 : S 480 54 = x10) : (True) ∧ rxPSLO S0 ws S (some its) := by
  obtain ⟨hs, h1, i, h2, h3, h4⟩ := hinv
  exact ⟨trivial, hs, i, h2, h3, by rw [h4]⟩
theorem rxfLO_1_0 {X : (Nat → Int → Int) → Prop} {S0 : Nat → Int → Int} {ws : List Int} (hP : rxPLO S0 ws) : bx_obE rxL X S0 rxCLO.2.2.1 (rxILO S0 ws) (rxPSLO S0 ws) 1 rxzLO_1 rxeLO_1_0 := by
  intro S S_p r r_p hinv hX hin hsm_ hseg
  obtain ⟨I0, I1, h0_, hr_, b_, f_, d_⟩ := bx_cl (evs := [(0, (0, 480), (0, 54), .inr (0, (10, 0)))]) (fvs := [(1, (10, 0), (9, 0), (0, 0))]) hseg (by decide +kernel) (by decide +kernel)
  have hinv : rxILO_1 S0 ws S (r 8) (r 9) := hinv
  rw [← hr_ 8 (by decide), ← hr_ 9 (by decide)] at hinv
  obtain ⟨⟨l8, u8⟩, ⟨l9, u9⟩, ⟨l10, u10⟩, -⟩ := b_
  obtain ⟨f0, -⟩ := f_
  obtain ⟨e0, w_⟩ := d_
  subst w_
  have g := rxdLO_1_0 hP hin hsm_ I0 I1 hinv l8 u8 l9 u9 l10 u10 f0 e0
  refine ⟨bx_narP_ok (l := []) g.1, ?_⟩
  show rxPSLO S0 ws S_p (some (bx_num r_p (.inr (0, (8, 0)))))
  rw [bx_xv_ok h0_]
  exact g.2
theorem rxgCLO {X : (Nat → Int → Int) → Prop} {S0 : Nat → Int → Int} {ws : List Int} (hP : rxPLO S0 ws) : bx_allI (fun i q => rxULO q = true ∨ bx_allP (fun o => bx_obC rxL X S0 rxCLO.2.2.1 (rxILO S0 ws) (rxmLO S0 ws) i q.1 o) q.2.1) 0 rxYLO := ⟨Or.inr ⟨rxgLO_0_0 hP, trivial⟩, Or.inr ⟨rxgLO_1_0 hP, rxgLO_1_1 hP, trivial⟩, trivial⟩
theorem rxgELO {X : (Nat → Int → Int) → Prop} {S0 : Nat → Int → Int} {ws : List Int} (hP : rxPLO S0 ws) : bx_allI (fun i q => rxULO q = true ∨ bx_allP (fun E => bx_obE rxL X S0 rxCLO.2.2.1 (rxILO S0 ws) (rxPSLO S0 ws) i q.1 E) q.2.2) 0 rxYLO := ⟨Or.inr trivial, Or.inr ⟨rxfLO_1_0 hP, trivial⟩, trivial⟩
theorem rxQLO {PX : State → Prop} {Dg : va_G} {A : Nat → Prop} {ad xa : Nat → Nat} {l : Launch} {X : (Nat → Int → Int) → Prop} (hPX : rx_PXOK rxNW A PX) (hsl : ∀ s : State, PX s → ∀ o idx n : Nat, rxSl o idx = some n → ∃ tx : String, vk_R (rxNm o) idx tx (ad n) s)
    (hX : ∀ S S_p : Nat → Int → Int, X S → bx_same rxL (bx_mdl rxCLO.2.2.1) S S_p → X S_p)
    (ih : ∀ (j2 : Nat) (ct2 : bx_Ct) (M2 : rx_Mt), ct2 ∈ rxCnE j2 → ct2.2.2.2.1 + 1 ≤ rxCLO.2.2.2.1 → rxT.2.2.2.2.2 j2 = some M2 → bx_Con rxG rxNW rxAO PX Dg rxL X vwCl A ad l M2 ct2) : bx_ConP rxG rxNW rxAO PX Dg rxL X vwCl A ad l rxM312 rxCLO rxPLO rxPSLO :=
  rxQof (xa := xa) (Cn := rxCnE) (f := 30000) (j := 312) (tab := rxYLO) (us := rxULO) hPX hsl hX ih rfl rxYcLO rxILO rxmLO
    (fun S0 ws r I0 I ht0 ht as he he1 hX0 hI0 hP hs ha => by
      have e := he.symm.trans (show bx_ent0 rxNP rxCLO.1 bx_I0 [] = some ([(0, 0), (0, 0), (0, 0), (0, 0), (0, 0), (0, 0), (0, 0), (0, 0)], [], [.inr (3, (0, 480))]) from rfl)
      cases e
      subst ha
      have h0 : r 0 = 0 := hs.1
      show rxILO_0 S0 _ S0
      refine ⟨rfl, ?_⟩
      simp only [List.map_cons, List.map_nil, bx_xv_ok h0]
      rfl)
    (fun S0 ws hP => fun i q hq hus => absurd (show false = true from hus) Bool.false_ne_true) (fun S0 ws hP => rxgCLO hP) (fun S0 ws hP => rxgELO hP)
end
section
noncomputable def rxCLT : bx_Ct := ([(3, (1, 480, 0)), (0, (0, 0, 7))], some (0, (0, 1, 8)), [], 0, [])
noncomputable def rxILT_0 (S0 : Nat → Int → Int) (ws : List Int) (S : Nat → Int → Int) (person : Int) : Prop := S = S0 ∧ ws = [480, person]
noncomputable def rxmLT_0 (S0 : Nat → Int → Int) (ws : List Int) (S : Nat → Int → Int) (person : Int) : Nat := 1000
noncomputable def rxzLT_0 : rx_Z := ([(0, 0), (0, 0), (0, 0), (0, 0), (0, 0), (0, 0), (0, 0), (0, 0), (0, 7)], [], [], 0, 0, 0, [(0, .inr (3, (0, 480))), (1, .inr (0, (8, 0)))], [])
noncomputable def rxILT_1 (S0 : Nat → Int → Int) (ws : List Int) (S : Nat → Int → Int) (person n at_ : Int) : Prop := S = S0 ∧ S 507 at_ ≠ -1 ∧ ∃ ρ : Int → Nat, n + (ρ at_ : Int) ≤ 8 ∧ (∀ x : Int, 0 ≤ x → x < 8 → S 507 x ≠ -1 → (ρ x : Int) < 8 ∧ 0 ≤ S 507 x ∧ S 507 x < 8 ∧ S 507 (S 507 x) ≠ -1 ∧ (S 507 x ≠ x → ρ (S 507 x) < ρ x))
noncomputable def rxmLT_1 (S0 : Nat → Int → Int) (ws : List Int) (S : Nat → Int → Int) (person n at_ : Int) : Nat := (20 - n).toNat
noncomputable def rxzLT_1 : rx_Z := ([(0, 0), (0, 0), (0, 0), (0, 0), (0, 0), (0, 0), (0, 0), (0, 0), (0, 7), (1, 8), (0, 7)], [], [], 0, 0, 4, [(0, .inr (3, (0, 480))), (1, .inr (0, (8, 0))), (2, .inr (0, (9, 0))), (3, .inr (0, (10, 0)))], [])
noncomputable def rxoLT_0_0 : bx_HO := (([(0, 0), (0, 0), (0, 0), (0, 0), (0, 0), (0, 0), (0, 0), (0, 0), (0, 7)], [], [], 0, 0, 4, [(3, .inr (0, (8, 0))), (2, .inr (0, (0, 1))), (0, .inr (3, (0, 480))), (1, .inr (0, (8, 0)))], []), [], [], [(0, 0), (0, 0), (0, 0), (0, 0), (0, 0), (0, 0), (0, 0), (0, 0), (8, 0), (0, 1), (8, 0)], 1)
noncomputable def rxoLT_1_0 : bx_HO := (([(0, 0), (0, 0), (0, 0), (0, 0), (0, 0), (0, 0), (0, 0), (0, 0), (0, 7), (1, 8), (0, 7), ((-1), 7), ((-1), 7)], [(3, (11, 0), (10, 0))], [(((0, 0), 1851192626986356797424370955790042202572729718740712036991434752000000), .inr (0, (12, 0))), (((0, 0), 1851192626986356797424370955790042202572729718740712036991434752000000), .inr (0, (11, 0))), (((0, 480), 53), .inr (3, (0, 507)))], 0, 0, 4, [(3, .inr (0, (12, 0))), (2, .inr (0, (9, 1))), (0, .inr (3, (0, 480))), (1, .inr (0, (8, 0)))], []), [(9, 0, 7), (12, 0, 7)], [], [(0, 0), (0, 0), (0, 0), (0, 0), (0, 0), (0, 0), (0, 0), (0, 0), (8, 0), (9, 1), (12, 0)], 1)
noncomputable def rxeLT_1_0 : rx_End × List (Nat × Int × Int) := (([(0, 0), (0, 0), (0, 0), (0, 0), (0, 0), (0, 0), (0, 0), (0, 0), (0, 7), (1, 8), (0, 7), (0, 7)], [(2, (11, 0), (10, 0))], [(((0, 0), 1851192626986356797424370955790042202572729718740712036991434752000000), .inr (0, (11, 0))), (((0, 480), 53), .inr (3, (0, 507)))], some (.inr (0, (9, 0)))), [])
noncomputable def rxYLT : List bx_HE := [(rxzLT_0, [rxoLT_0_0], []), (rxzLT_1, [rxoLT_1_0], [rxeLT_1_0])]
noncomputable def rxULT (q : bx_HE) : Bool := false
noncomputable def rxYBLT : bx_B := (rxV, rxNP, rxDmf, bx_mdH rxCLT.2.2.1)
set_option maxRecDepth 100000 in
theorem rxYcLT : bx_chkH rxYBLT rxM313 rxCLT rxYLT (rxULT, fun cut z => rx_ex2 (rxCT rxYBLT rxCnE) cut 30000 rxCLT.2.2.2.1 313 z) = true := by decide +kernel
noncomputable def rxILT (S0 : Nat → Int → Int) (ws : List Int) (i : Nat) : bx_SP := fun S r => match i with | 0 => rxILT_0 S0 ws S (r 8) | 1 => rxILT_1 S0 ws S (r 8) (r 9) (r 10) | _ => False
noncomputable def rxmLT (S0 : Nat → Int → Int) (ws : List Int) (i : Nat) (S : Nat → Int → Int) (r : Nat → Int) : Nat := match i with | 0 => rxmLT_0 S0 ws S (r 8) | 1 => rxmLT_1 S0 ws S (r 8) (r 9) (r 10) | _ => 0
noncomputable def rxPLT (S0 : Nat → Int → Int) (ws : List Int) : Prop := ∃ p : Int, ws = [480, p] ∧ S0 507 p ≠ -1 ∧ rx_rk (S0 507) 8 8
noncomputable def rxPSLT (S0 : Nat → Int → Int) (ws : List Int) (S : Nat → Int → Int) (w : Option Int) : Prop := S = S0
theorem rxcLT_0_0 {S0 : Nat → Int → Int} {ws : List Int} {S : Nat → Int → Int} {person : Int} (hP : rxPLT S0 ws) (hin : bx_same rxL (bx_mdl rxCLT.2.2.1) S0 S) (I0 : bx_Inv rxL S) (hinv : rxILT_0 S0 ws S person) (l8 : 0 ≤ person) (u8 : person ≤ 7) : (True) ∧ (True) ∧ rxILT_1 S0 ws S person 1 person ∧ rxmLT_1 S0 ws S person 1 person < rxmLT_0 S0 ws S person := by
  obtain ⟨rfl, hw⟩ := hinv
  obtain ⟨p1, hw2, hp1, ρ, hρ⟩ := hP
  rw [hw] at hw2
  have hpe : person = p1 := Option.some.inj (congrArg (fun l => l[1]?) hw2)
  subst hpe
  have hr := hρ person (by omega) (by omega) hp1
  exact ⟨trivial, trivial, ⟨rfl, hp1, ρ, by omega, hρ⟩, by unfold rxmLT_0 rxmLT_1; omega⟩
theorem rxgLT_0_0 {X : (Nat → Int → Int) → Prop} {S0 : Nat → Int → Int} {ws : List Int} (hP : rxPLT S0 ws) : bx_obC rxL X S0 rxCLT.2.2.1 (rxILT S0 ws) (rxmLT S0 ws) 0 rxzLT_0 rxoLT_0_0 := by
  intro S S_p r r_p hinv hX hin hsm_ hseg
  obtain ⟨I0, I1, h0_, hr_, b_, f_, d_⟩ := bx_cl (evs := []) (fvs := []) hseg (by decide +kernel) (by decide +kernel)
  have hinv : rxILT_0 S0 ws S (r 8) := hinv
  rw [← hr_ 8 (by decide)] at hinv
  obtain ⟨⟨l8, u8⟩, -⟩ := b_
  have w_ := d_
  subst w_
  have g := rxcLT_0_0 hP hin I0 hinv l8 u8
  refine ⟨bx_narP_ok (l := []) g.1, bx_nfP_ok h0_ (fvs := []) (by decide +kernel) g.2.1, ?_, ?_⟩
  · show rxILT_1 S0 ws S_p (bx_val [(0, 0), (0, 0), (0, 0), (0, 0), (0, 0), (0, 0), (0, 0), (0, 0), (8, 0), (0, 1), (8, 0)] r_p 8) (bx_val [(0, 0), (0, 0), (0, 0), (0, 0), (0, 0), (0, 0), (0, 0), (0, 0), (8, 0), (0, 1), (8, 0)] r_p 9) (bx_val [(0, 0), (0, 0), (0, 0), (0, 0), (0, 0), (0, 0), (0, 0), (0, 0), (8, 0), (0, 1), (8, 0)] r_p 10)
    rw [bx_val_x (n := 8) (e := (8, 0)) h0_ rfl, bx_val_x (n := 9) (e := (0, 1)) h0_ rfl, bx_val_x (n := 10) (e := (8, 0)) h0_ rfl]
    exact g.2.2.1
  · show rxmLT_1 S0 ws S_p (bx_val [(0, 0), (0, 0), (0, 0), (0, 0), (0, 0), (0, 0), (0, 0), (0, 0), (8, 0), (0, 1), (8, 0)] r_p 8) (bx_val [(0, 0), (0, 0), (0, 0), (0, 0), (0, 0), (0, 0), (0, 0), (0, 0), (8, 0), (0, 1), (8, 0)] r_p 9) (bx_val [(0, 0), (0, 0), (0, 0), (0, 0), (0, 0), (0, 0), (0, 0), (0, 0), (8, 0), (0, 1), (8, 0)] r_p 10) < rxmLT_0 S0 ws S_p (r 8)
    rw [bx_val_x (n := 8) (e := (8, 0)) h0_ rfl, bx_val_x (n := 9) (e := (0, 1)) h0_ rfl, bx_val_x (n := 10) (e := (8, 0)) h0_ rfl, ← hr_ 8 (by decide)]
    exact g.2.2.2
theorem rxcLT_1_0 {S0 : Nat → Int → Int} {ws : List Int} {S : Nat → Int → Int} {person n at_ x11 x12 : Int} (hP : rxPLT S0 ws) (hin : bx_same rxL (bx_mdl rxCLT.2.2.1) S0 S) (I0 : bx_Inv rxL S) (hinv : rxILT_1 S0 ws S person n at_) (l8 : 0 ≤ person) (u8 : person ≤ 7) (l9 : 1 ≤ n) (u9 : n ≤ 8) (l10 : 0 ≤ at_) (u10 : at_ ≤ 7) (l11 : (-1) ≤ x11) (u11 : x11 ≤ 7) (l12 : (-1) ≤ x12) (u12 : x12 ≤ 7) (f0 : x11 ≠ at_) (e1 : S 507 at_ = x11) (e0 : S 507 at_ = x12) : ((0 ≤ n ∧ n ≤ 7) ∧ (0 ≤ x12 ∧ x12 ≤ 7) ∧ True) ∧ (True) ∧ rxILT_1 S0 ws S person (n + 1) x12 ∧ rxmLT_1 S0 ws S person (n + 1) x12 < rxmLT_1 S0 ws S person n at_ := by
  obtain ⟨hs, h1, ρ, h2, hρ⟩ := hinv
  have hr := hρ at_ (by omega) (by omega) h1
  have hr2 := hr.2.2.2.2 (by omega)
  rw [e0] at hr hr2
  exact ⟨⟨by omega, by omega, trivial⟩, trivial, ⟨hs, hr.2.2.2.1, ρ, by omega, hρ⟩, by unfold rxmLT_1; omega⟩
theorem rxgLT_1_0 {X : (Nat → Int → Int) → Prop} {S0 : Nat → Int → Int} {ws : List Int} (hP : rxPLT S0 ws) : bx_obC rxL X S0 rxCLT.2.2.1 (rxILT S0 ws) (rxmLT S0 ws) 1 rxzLT_1 rxoLT_1_0 := by
  intro S S_p r r_p hinv hX hin hsm_ hseg
  obtain ⟨I0, I1, h0_, hr_, b_, f_, d_⟩ := bx_cl (evs := [(0, (0, 507), (10, 0), .inr (0, (12, 0))), (0, (0, 507), (10, 0), .inr (0, (11, 0)))]) (fvs := [(3, (11, 0), (10, 0), (0, 0))]) hseg (by decide +kernel) (by decide +kernel)
  have hinv : rxILT_1 S0 ws S (r 8) (r 9) (r 10) := hinv
  rw [← hr_ 8 (by decide), ← hr_ 9 (by decide), ← hr_ 10 (by decide)] at hinv
  obtain ⟨⟨l8, u8⟩, ⟨l9, u9⟩, ⟨l10, u10⟩, ⟨l11, u11⟩, ⟨l12, u12⟩, -⟩ := b_
  obtain ⟨f0, -⟩ := f_
  obtain ⟨e0, ⟨e1, w_⟩⟩ := d_
  subst w_
  have g := rxcLT_1_0 hP hin I0 hinv l8 u8 l9 u9 l10 u10 l11 u11 l12 u12 f0 e1 e0
  refine ⟨bx_narP_ok (l := [(9, 0, 7), (12, 0, 7)]) g.1, bx_nfP_ok h0_ (fvs := []) (by decide +kernel) g.2.1, ?_, ?_⟩
  · show rxILT_1 S0 ws S_p (bx_val [(0, 0), (0, 0), (0, 0), (0, 0), (0, 0), (0, 0), (0, 0), (0, 0), (8, 0), (9, 1), (12, 0)] r_p 8) (bx_val [(0, 0), (0, 0), (0, 0), (0, 0), (0, 0), (0, 0), (0, 0), (0, 0), (8, 0), (9, 1), (12, 0)] r_p 9) (bx_val [(0, 0), (0, 0), (0, 0), (0, 0), (0, 0), (0, 0), (0, 0), (0, 0), (8, 0), (9, 1), (12, 0)] r_p 10)
    rw [bx_val_x (n := 8) (e := (8, 0)) h0_ rfl, bx_val_x (n := 9) (e := (9, 1)) h0_ rfl, bx_val_x (n := 10) (e := (12, 0)) h0_ rfl]
    exact g.2.2.1
  · show rxmLT_1 S0 ws S_p (bx_val [(0, 0), (0, 0), (0, 0), (0, 0), (0, 0), (0, 0), (0, 0), (0, 0), (8, 0), (9, 1), (12, 0)] r_p 8) (bx_val [(0, 0), (0, 0), (0, 0), (0, 0), (0, 0), (0, 0), (0, 0), (0, 0), (8, 0), (9, 1), (12, 0)] r_p 9) (bx_val [(0, 0), (0, 0), (0, 0), (0, 0), (0, 0), (0, 0), (0, 0), (0, 0), (8, 0), (9, 1), (12, 0)] r_p 10) < rxmLT_1 S0 ws S_p (r 8) (r 9) (r 10)
    rw [bx_val_x (n := 8) (e := (8, 0)) h0_ rfl, bx_val_x (n := 9) (e := (9, 1)) h0_ rfl, bx_val_x (n := 10) (e := (12, 0)) h0_ rfl, ← hr_ 8 (by decide), ← hr_ 9 (by decide), ← hr_ 10 (by decide)]
    exact g.2.2.2
theorem rxdLT_1_0 {S0 : Nat → Int → Int} {ws : List Int} {S : Nat → Int → Int} {person n at_ x11 : Int} (hP : rxPLT S0 ws) (hin : bx_same rxL (bx_mdl rxCLT.2.2.1) S0 S) (hin2 : bx_same rxL (bx_mdl rxCLT.2.2.1) S S) (I0 : bx_Inv rxL S) (I1 : bx_Inv rxL S) (hinv : rxILT_1 S0 ws S person n at_) (l8 : 0 ≤ person) (u8 : person ≤ 7) (l9 : 1 ≤ n) (u9 : n ≤ 8) (l10 : 0 ≤ at_) (u10 : at_ ≤ 7) (l11 : 0 ≤ x11) (u11 : x11 ≤ 7) (f0 : x11 = at_) (e0 : S 507 at_ = x11) : (True) ∧ rxPSLT S0 ws S (some n) := by
  exact ⟨trivial, hinv.1⟩
theorem rxfLT_1_0 {X : (Nat → Int → Int) → Prop} {S0 : Nat → Int → Int} {ws : List Int} (hP : rxPLT S0 ws) : bx_obE rxL X S0 rxCLT.2.2.1 (rxILT S0 ws) (rxPSLT S0 ws) 1 rxzLT_1 rxeLT_1_0 := by
  intro S S_p r r_p hinv hX hin hsm_ hseg
  obtain ⟨I0, I1, h0_, hr_, b_, f_, d_⟩ := bx_cl (evs := [(0, (0, 507), (10, 0), .inr (0, (11, 0)))]) (fvs := [(2, (11, 0), (10, 0), (0, 0))]) hseg (by decide +kernel) (by decide +kernel)
  have hinv : rxILT_1 S0 ws S (r 8) (r 9) (r 10) := hinv
  rw [← hr_ 8 (by decide), ← hr_ 9 (by decide), ← hr_ 10 (by decide)] at hinv
  obtain ⟨⟨l8, u8⟩, ⟨l9, u9⟩, ⟨l10, u10⟩, ⟨l11, u11⟩, -⟩ := b_
  obtain ⟨f0, -⟩ := f_
  obtain ⟨e0, w_⟩ := d_
  subst w_
  have g := rxdLT_1_0 hP hin hsm_ I0 I1 hinv l8 u8 l9 u9 l10 u10 l11 u11 f0 e0
  refine ⟨bx_narP_ok (l := []) g.1, ?_⟩
  show rxPSLT S0 ws S_p (some (bx_num r_p (.inr (0, (9, 0)))))
  rw [bx_xv_ok h0_]
  exact g.2
theorem rxgCLT {X : (Nat → Int → Int) → Prop} {S0 : Nat → Int → Int} {ws : List Int} (hP : rxPLT S0 ws) : bx_allI (fun i q => rxULT q = true ∨ bx_allP (fun o => bx_obC rxL X S0 rxCLT.2.2.1 (rxILT S0 ws) (rxmLT S0 ws) i q.1 o) q.2.1) 0 rxYLT := ⟨Or.inr ⟨rxgLT_0_0 hP, trivial⟩, Or.inr ⟨rxgLT_1_0 hP, trivial⟩, trivial⟩
theorem rxgELT {X : (Nat → Int → Int) → Prop} {S0 : Nat → Int → Int} {ws : List Int} (hP : rxPLT S0 ws) : bx_allI (fun i q => rxULT q = true ∨ bx_allP (fun E => bx_obE rxL X S0 rxCLT.2.2.1 (rxILT S0 ws) (rxPSLT S0 ws) i q.1 E) q.2.2) 0 rxYLT := ⟨Or.inr trivial, Or.inr ⟨rxfLT_1_0 hP, trivial⟩, trivial⟩
theorem rxQLT {PX : State → Prop} {Dg : va_G} {A : Nat → Prop} {ad xa : Nat → Nat} {l : Launch} {X : (Nat → Int → Int) → Prop} (hPX : rx_PXOK rxNW A PX) (hsl : ∀ s : State, PX s → ∀ o idx n : Nat, rxSl o idx = some n → ∃ tx : String, vk_R (rxNm o) idx tx (ad n) s)
    (hX : ∀ S S_p : Nat → Int → Int, X S → bx_same rxL (bx_mdl rxCLT.2.2.1) S S_p → X S_p)
    (ih : ∀ (j2 : Nat) (ct2 : bx_Ct) (M2 : rx_Mt), ct2 ∈ rxCnE j2 → ct2.2.2.2.1 + 1 ≤ rxCLT.2.2.2.1 → rxT.2.2.2.2.2 j2 = some M2 → bx_Con rxG rxNW rxAO PX Dg rxL X vwCl A ad l M2 ct2) : bx_ConP rxG rxNW rxAO PX Dg rxL X vwCl A ad l rxM313 rxCLT rxPLT rxPSLT :=
  rxQof (xa := xa) (Cn := rxCnE) (f := 30000) (j := 313) (tab := rxYLT) (us := rxULT) hPX hsl hX ih rfl rxYcLT rxILT rxmLT
    (fun S0 ws r I0 I ht0 ht as he he1 hX0 hI0 hP hs ha => by
      have e := he.symm.trans (show bx_ent0 rxNP rxCLT.1 bx_I0 [] = some ([(0, 0), (0, 0), (0, 0), (0, 0), (0, 0), (0, 0), (0, 0), (0, 0), (0, 7)], [], [.inr (3, (0, 480)), .inr (0, (8, 0))]) from rfl)
      cases e
      subst ha
      have h0 : r 0 = 0 := hs.1
      show rxILT_0 S0 _ S0 (r 8)
      refine ⟨rfl, ?_⟩
      simp only [List.map_cons, List.map_nil, bx_xv_ok h0]
      rfl)
    (fun S0 ws hP => fun i q hq hus => absurd (show false = true from hus) Bool.false_ne_true) (fun S0 ws hP => rxgCLT hP) (fun S0 ws hP => rxgELT hP)
end
