section
noncomputable def rxCIL : bx_Ct := ([(3, (1, 480, 0)), (0, (0, 0, 11))], some (0, (0, 0, 1)), [], 0, [])
noncomputable def rxIIL_0 (S0 : Nat → Int → Int) (ws : List Int) (S : Nat → Int → Int) (k : Int) : Prop := S = S0 ∧ ws = [480, k]
noncomputable def rxmIL_0 (S0 : Nat → Int → Int) (ws : List Int) (S : Nat → Int → Int) (k : Int) : Nat := 100
noncomputable def rxzIL_0 : rx_Z := ([(0, 0), (0, 0), (0, 0), (0, 0), (0, 0), (0, 0), (0, 0), (0, 0), (0, 11)], [], [], 0, 0, 0, [(0, .inr (3, (0, 480))), (1, .inr (0, (8, 0)))], [])
noncomputable def rxIIL_1 (S0 : Nat → Int → Int) (ws : List Int) (S : Nat → Int → Int) (k ix : Int) : Prop := S = S0 ∧ ws = [480, k] ∧ ix = k + 1 ∧ k ≠ S 482 6 - 1
noncomputable def rxmIL_1 (S0 : Nat → Int → Int) (ws : List Int) (S : Nat → Int → Int) (k ix : Int) : Nat := 90
noncomputable def rxzIL_1 : rx_Z := ([(0, 0), (0, 0), (0, 0), (0, 0), (0, 0), (0, 0), (0, 0), (0, 0), (0, 11), (0, 11)], [], [], 0, 0, 24, [(0, .inr (3, (0, 480))), (1, .inr (0, (8, 0)))], [.inr (0, (9, 0)), .inr (3, (0, 512)), .inr (3, (0, 482))])
noncomputable def rxoIL_0_0 : bx_HO := (([(0, 0), (0, 0), (0, 0), (0, 0), (0, 0), (0, 0), (0, 0), (0, 0), (0, 11), (0, 12)], [(3, (8, 0), (9, (-1)))], [(((0, 480), 61), .inr (3, (0, 512))), (((0, 0), 1851192626986356798628580571097672967753946801749054699160600576000000), .inr (0, (9, 0))), (((0, 482), 6), .inr (0, (9, 0))), (((0, 480), 3), .inr (3, (0, 482)))], 0, 0, 24, [(0, .inr (3, (0, 480))), (1, .inr (0, (8, 0)))], [.inr (0, (8, 1)), .inr (3, (0, 512)), .inr (3, (0, 482))]), [(8, (-1), 10)], [], [(0, 0), (0, 0), (0, 0), (0, 0), (0, 0), (0, 0), (0, 0), (0, 0), (8, 0), (8, 1)], 1)
noncomputable def rxeIL_0_0 : rx_End × List (Nat × Int × Int) := (([(0, 0), (0, 0), (0, 0), (0, 0), (0, 0), (0, 0), (0, 0), (0, 0), (0, 11), (1, 12)], [(2, (8, 0), (9, (-1)))], [(((0, 0), 1851192626986356798628580571097672967753946801749054699160600576000000), .inr (0, (9, 0))), (((0, 482), 6), .inr (0, (9, 0))), (((0, 480), 3), .inr (3, (0, 482)))], some (.inr (0, (0, 1)))), [])
noncomputable def rxeIL_1_0 : rx_End × List (Nat × Int × Int) := (([(0, 0), (0, 0), (0, 0), (0, 0), (0, 0), (0, 0), (0, 0), (0, 0), (0, 11), (0, 11), (0, 775), ((-1), 300), (0, 775), ((-1), 300)], [(3, (11, 0), (13, 0))], [(((0, 0), 1851192626986356797424377080872646779465072059483645808804495360000000), .inr (0, (13, 0))), (((0, 0), 1851192626986356797424364830707437625680387377997778265166577664000000), .inr (0, (12, 0))), (((0, 480), 61), .inr (3, (0, 512))), (((0, 480), 3), .inr (3, (0, 482))), (((0, 0), 1851192626986356797424370955790042202572729718740712036976689152000000), .inr (0, (11, 0))), (((0, 0), 1851192626986356797424367893248739914126558548369245151080480768000000), .inr (0, (10, 0)))], some (.inr (0, (0, 1)))), [])
noncomputable def rxeIL_1_1 : rx_End × List (Nat × Int × Int) := (([(0, 0), (0, 0), (0, 0), (0, 0), (0, 0), (0, 0), (0, 0), (0, 0), (0, 11), (0, 11), (0, 775), ((-1), 300), (0, 775), ((-1), 300)], [(2, (11, 0), (13, 0))], [(((0, 0), 1851192626986356797424377080872646779465072059483645808804495360000000), .inr (0, (13, 0))), (((0, 0), 1851192626986356797424364830707437625680387377997778265166577664000000), .inr (0, (12, 0))), (((0, 480), 61), .inr (3, (0, 512))), (((0, 480), 3), .inr (3, (0, 482))), (((0, 0), 1851192626986356797424370955790042202572729718740712036976689152000000), .inr (0, (11, 0))), (((0, 0), 1851192626986356797424367893248739914126558548369245151080480768000000), .inr (0, (10, 0)))], some (.inr (0, (0, 0)))), [])
noncomputable def rxYIL : List bx_HE := [(rxzIL_0, [rxoIL_0_0], [rxeIL_0_0]), (rxzIL_1, [], [rxeIL_1_0, rxeIL_1_1])]
noncomputable def rxUIL (q : bx_HE) : Bool := false
noncomputable def rxYBIL : bx_B := (rxV, rxNP, rxDmf, bx_mdH rxCIL.2.2.1)
set_option maxRecDepth 100000 in
theorem rxYcIL : bx_chkH rxYBIL rxM318 rxCIL rxYIL (rxUIL, fun cut z => rx_ex2 (rxCT rxYBIL rxCnE) cut 30000 rxCIL.2.2.2.1 318 z) = true := by decide +kernel
noncomputable def rxIIL (S0 : Nat → Int → Int) (ws : List Int) (i : Nat) : bx_SP := fun S r => match i with | 0 => rxIIL_0 S0 ws S (r 8) | 1 => rxIIL_1 S0 ws S (r 8) (r 9) | _ => False
noncomputable def rxmIL (S0 : Nat → Int → Int) (ws : List Int) (i : Nat) (S : Nat → Int → Int) (r : Nat → Int) : Nat := match i with | 0 => rxmIL_0 S0 ws S (r 8) | 1 => rxmIL_1 S0 ws S (r 8) (r 9) | _ => 0
noncomputable def rxPIL (S0 : Nat → Int → Int) (ws : List Int) : Prop := ∃ k : Int, ws = [480, k] ∧ k < S0 482 6
noncomputable def rxPSIL (S0 : Nat → Int → Int) (ws : List Int) (S : Nat → Int → Int) (w : Option Int) : Prop := S = S0 ∧ ∃ k : Int, ws = [480, k] ∧ ((w = some 1 ∧ rxLast S0 k) ∨ (w = some 0 ∧ ¬ rxLast S0 k))
theorem rxcIL_0_0 {S0 : Nat → Int → Int} {ws : List Int} {S : Nat → Int → Int} {k x9 : Int} (hP : rxPIL S0 ws) (hin : bx_same rxL (bx_mdl rxCIL.2.2.1) S0 S) (I0 : bx_Inv rxL S) (hinv : rxIIL_0 S0 ws S k) (l8 : 0 ≤ k) (u8 : k ≤ 11) (l9 : 0 ≤ x9) (u9 : x9 ≤ 12) (f0 : k ≠ x9 + (-1)) (e0 : S 482 6 = x9) : (((-1) ≤ k ∧ k ≤ 10) ∧ True) ∧ (True) ∧ rxIIL_1 S0 ws S k (k + 1) ∧ rxmIL_1 S0 ws S k (k + 1) < rxmIL_0 S0 ws S k := by
  obtain ⟨rfl, hw⟩ := hinv
  obtain ⟨k_p, hw2, hk⟩ := hP
  have hke : k = k_p := Option.some.inj (congrArg (fun l => l[1]?) (hw.symm.trans hw2))
  subst hke
  exact ⟨⟨by omega, trivial⟩, trivial, ⟨rfl, hw, rfl, by omega⟩, by unfold rxmIL_0 rxmIL_1; omega⟩
theorem rxgIL_0_0 {X : (Nat → Int → Int) → Prop} {S0 : Nat → Int → Int} {ws : List Int} (hP : rxPIL S0 ws) : bx_obC rxL X S0 rxCIL.2.2.1 (rxIIL S0 ws) (rxmIL S0 ws) 0 rxzIL_0 rxoIL_0_0 := by
  intro S S_p r r_p hinv hX hin hsm_ hseg
  obtain ⟨I0, I1, h0_, hr_, b_, f_, d_⟩ := bx_cl (evs := [(0, (0, 482), (0, 6), .inr (0, (9, 0)))]) (fvs := [(3, (8, 0), (9, (-1)), (0, 0))]) hseg (by decide +kernel) (by decide +kernel)
  have hinv : rxIIL_0 S0 ws S (r 8) := hinv
  rw [← hr_ 8 (by decide)] at hinv
  obtain ⟨⟨l8, u8⟩, ⟨l9, u9⟩, -⟩ := b_
  obtain ⟨f0, -⟩ := f_
  obtain ⟨e0, w_⟩ := d_
  subst w_
  have g := rxcIL_0_0 hP hin I0 hinv l8 u8 l9 u9 f0 e0
  refine ⟨bx_narP_ok (l := [(8, (-1), 10)]) g.1, bx_nfP_ok h0_ (fvs := []) (by decide +kernel) g.2.1, ?_, ?_⟩
  · show rxIIL_1 S0 ws S_p (bx_val [(0, 0), (0, 0), (0, 0), (0, 0), (0, 0), (0, 0), (0, 0), (0, 0), (8, 0), (8, 1)] r_p 8) (bx_val [(0, 0), (0, 0), (0, 0), (0, 0), (0, 0), (0, 0), (0, 0), (0, 0), (8, 0), (8, 1)] r_p 9)
    rw [bx_val_x (n := 8) (e := (8, 0)) h0_ rfl, bx_val_x (n := 9) (e := (8, 1)) h0_ rfl]
    exact g.2.2.1
  · show rxmIL_1 S0 ws S_p (bx_val [(0, 0), (0, 0), (0, 0), (0, 0), (0, 0), (0, 0), (0, 0), (0, 0), (8, 0), (8, 1)] r_p 8) (bx_val [(0, 0), (0, 0), (0, 0), (0, 0), (0, 0), (0, 0), (0, 0), (0, 0), (8, 0), (8, 1)] r_p 9) < rxmIL_0 S0 ws S_p (r 8)
    rw [bx_val_x (n := 8) (e := (8, 0)) h0_ rfl, bx_val_x (n := 9) (e := (8, 1)) h0_ rfl, ← hr_ 8 (by decide)]
    exact g.2.2.2
theorem rxdIL_0_0 {S0 : Nat → Int → Int} {ws : List Int} {S : Nat → Int → Int} {k x9 : Int} (hP : rxPIL S0 ws) (hin : bx_same rxL (bx_mdl rxCIL.2.2.1) S0 S) (hin2 : bx_same rxL (bx_mdl rxCIL.2.2.1) S S) (I0 : bx_Inv rxL S) (I1 : bx_Inv rxL S) (hinv : rxIIL_0 S0 ws S k) (l8 : 0 ≤ k) (u8 : k ≤ 11) (l9 : 1 ≤ x9) (u9 : x9 ≤ 12) (f0 : k = x9 + (-1)) (e0 : S 482 6 = x9) : (True) ∧ rxPSIL S0 ws S (some 1) := by
  obtain ⟨rfl, hw⟩ := hinv
  exact ⟨trivial, rfl, k, hw, Or.inl ⟨rfl, Or.inl (by omega)⟩⟩
theorem rxfIL_0_0 {X : (Nat → Int → Int) → Prop} {S0 : Nat → Int → Int} {ws : List Int} (hP : rxPIL S0 ws) : bx_obE rxL X S0 rxCIL.2.2.1 (rxIIL S0 ws) (rxPSIL S0 ws) 0 rxzIL_0 rxeIL_0_0 := by
  intro S S_p r r_p hinv hX hin hsm_ hseg
  obtain ⟨I0, I1, h0_, hr_, b_, f_, d_⟩ := bx_cl (evs := [(0, (0, 482), (0, 6), .inr (0, (9, 0)))]) (fvs := [(2, (8, 0), (9, (-1)), (0, 0))]) hseg (by decide +kernel) (by decide +kernel)
  have hinv : rxIIL_0 S0 ws S (r 8) := hinv
  rw [← hr_ 8 (by decide)] at hinv
  obtain ⟨⟨l8, u8⟩, ⟨l9, u9⟩, -⟩ := b_
  obtain ⟨f0, -⟩ := f_
  obtain ⟨e0, w_⟩ := d_
  subst w_
  have g := rxdIL_0_0 hP hin hsm_ I0 I1 hinv l8 u8 l9 u9 f0 e0
  refine ⟨bx_narP_ok (l := []) g.1, ?_⟩
  show rxPSIL S0 ws S_p (some (bx_num r_p (.inr (0, (0, 1)))))
  rw [bx_xv_ok h0_]
  exact g.2
theorem rxdIL_1_0 {S0 : Nat → Int → Int} {ws : List Int} {S : Nat → Int → Int} {k ix x10 x11 x12 x13 : Int} (hP : rxPIL S0 ws) (hin : bx_same rxL (bx_mdl rxCIL.2.2.1) S0 S) (hin2 : bx_same rxL (bx_mdl rxCIL.2.2.1) S S) (I0 : bx_Inv rxL S) (I1 : bx_Inv rxL S) (hinv : rxIIL_1 S0 ws S k ix) (l8 : 0 ≤ k) (u8 : k ≤ 11) (l9 : 0 ≤ ix) (u9 : ix ≤ 11) (l10 : 0 ≤ x10) (u10 : x10 ≤ 775) (l11 : (-1) ≤ x11) (u11 : x11 ≤ 300) (l12 : 0 ≤ x12) (u12 : x12 ≤ 775) (l13 : (-1) ≤ x13) (u13 : x13 ≤ 300) (f0 : x11 ≠ x13) (e3 : S 512 ix = x10) (e2 : S 482 x10 = x11) (e1 : S 512 k = x12) (e0 : S 482 x12 = x13) : (True) ∧ rxPSIL S0 ws S (some 1) := by
  obtain ⟨rfl, hw, rfl, h2⟩ := hinv
  refine ⟨trivial, rfl, k, hw, Or.inl ⟨rfl, Or.inr ?_⟩⟩
  rw [e3, e2, e1, e0]
  exact f0
theorem rxfIL_1_0 {X : (Nat → Int → Int) → Prop} {S0 : Nat → Int → Int} {ws : List Int} (hP : rxPIL S0 ws) : bx_obE rxL X S0 rxCIL.2.2.1 (rxIIL S0 ws) (rxPSIL S0 ws) 1 rxzIL_1 rxeIL_1_0 := by
  intro S S_p r r_p hinv hX hin hsm_ hseg
  obtain ⟨I0, I1, h0_, hr_, b_, f_, d_⟩ := bx_cl (evs := [(0, (0, 482), (12, 0), .inr (0, (13, 0))), (0, (0, 512), (8, 0), .inr (0, (12, 0))), (0, (0, 482), (10, 0), .inr (0, (11, 0))), (0, (0, 512), (9, 0), .inr (0, (10, 0)))]) (fvs := [(3, (11, 0), (13, 0), (0, 0))]) hseg (by decide +kernel) (by decide +kernel)
  have hinv : rxIIL_1 S0 ws S (r 8) (r 9) := hinv
  rw [← hr_ 8 (by decide), ← hr_ 9 (by decide)] at hinv
  obtain ⟨⟨l8, u8⟩, ⟨l9, u9⟩, ⟨l10, u10⟩, ⟨l11, u11⟩, ⟨l12, u12⟩, ⟨l13, u13⟩, -⟩ := b_
  obtain ⟨f0, -⟩ := f_
  obtain ⟨e0, ⟨e1, ⟨e2, ⟨e3, w_⟩⟩⟩⟩ := d_
  subst w_
  have g := rxdIL_1_0 hP hin hsm_ I0 I1 hinv l8 u8 l9 u9 l10 u10 l11 u11 l12 u12 l13 u13 f0 e3 e2 e1 e0
  refine ⟨bx_narP_ok (l := []) g.1, ?_⟩
  show rxPSIL S0 ws S_p (some (bx_num r_p (.inr (0, (0, 1)))))
  rw [bx_xv_ok h0_]
  exact g.2
theorem rxdIL_1_1 {S0 : Nat → Int → Int} {ws : List Int} {S : Nat → Int → Int} {k ix x10 x11 x12 x13 : Int} (hP : rxPIL S0 ws) (hin : bx_same rxL (bx_mdl rxCIL.2.2.1) S0 S) (hin2 : bx_same rxL (bx_mdl rxCIL.2.2.1) S S) (I0 : bx_Inv rxL S) (I1 : bx_Inv rxL S) (hinv : rxIIL_1 S0 ws S k ix) (l8 : 0 ≤ k) (u8 : k ≤ 11) (l9 : 0 ≤ ix) (u9 : ix ≤ 11) (l10 : 0 ≤ x10) (u10 : x10 ≤ 775) (l11 : (-1) ≤ x11) (u11 : x11 ≤ 300) (l12 : 0 ≤ x12) (u12 : x12 ≤ 775) (l13 : (-1) ≤ x13) (u13 : x13 ≤ 300) (f0 : x11 = x13) (e3 : S 512 ix = x10) (e2 : S 482 x10 = x11) (e1 : S 512 k = x12) (e0 : S 482 x12 = x13) : (True) ∧ rxPSIL S0 ws S (some 0) := by
  obtain ⟨rfl, hw, rfl, h2⟩ := hinv
  refine ⟨trivial, rfl, k, hw, Or.inr ⟨rfl, fun h => ?_⟩⟩
  rcases h with h | h
  · exact h2 h
  · rw [e3, e2, e1, e0] at h
    exact h f0
theorem rxfIL_1_1 {X : (Nat → Int → Int) → Prop} {S0 : Nat → Int → Int} {ws : List Int} (hP : rxPIL S0 ws) : bx_obE rxL X S0 rxCIL.2.2.1 (rxIIL S0 ws) (rxPSIL S0 ws) 1 rxzIL_1 rxeIL_1_1 := by
  intro S S_p r r_p hinv hX hin hsm_ hseg
  obtain ⟨I0, I1, h0_, hr_, b_, f_, d_⟩ := bx_cl (evs := [(0, (0, 482), (12, 0), .inr (0, (13, 0))), (0, (0, 512), (8, 0), .inr (0, (12, 0))), (0, (0, 482), (10, 0), .inr (0, (11, 0))), (0, (0, 512), (9, 0), .inr (0, (10, 0)))]) (fvs := [(2, (11, 0), (13, 0), (0, 0))]) hseg (by decide +kernel) (by decide +kernel)
  have hinv : rxIIL_1 S0 ws S (r 8) (r 9) := hinv
  rw [← hr_ 8 (by decide), ← hr_ 9 (by decide)] at hinv
  obtain ⟨⟨l8, u8⟩, ⟨l9, u9⟩, ⟨l10, u10⟩, ⟨l11, u11⟩, ⟨l12, u12⟩, ⟨l13, u13⟩, -⟩ := b_
  obtain ⟨f0, -⟩ := f_
  obtain ⟨e0, ⟨e1, ⟨e2, ⟨e3, w_⟩⟩⟩⟩ := d_
  subst w_
  have g := rxdIL_1_1 hP hin hsm_ I0 I1 hinv l8 u8 l9 u9 l10 u10 l11 u11 l12 u12 l13 u13 f0 e3 e2 e1 e0
  refine ⟨bx_narP_ok (l := []) g.1, ?_⟩
  show rxPSIL S0 ws S_p (some (bx_num r_p (.inr (0, (0, 0)))))
  rw [bx_xv_ok h0_]
  exact g.2
theorem rxgCIL {X : (Nat → Int → Int) → Prop} {S0 : Nat → Int → Int} {ws : List Int} (hP : rxPIL S0 ws) : bx_allI (fun i q => rxUIL q = true ∨ bx_allP (fun o => bx_obC rxL X S0 rxCIL.2.2.1 (rxIIL S0 ws) (rxmIL S0 ws) i q.1 o) q.2.1) 0 rxYIL := ⟨Or.inr ⟨rxgIL_0_0 hP, trivial⟩, Or.inr trivial, trivial⟩
theorem rxgEIL {X : (Nat → Int → Int) → Prop} {S0 : Nat → Int → Int} {ws : List Int} (hP : rxPIL S0 ws) : bx_allI (fun i q => rxUIL q = true ∨ bx_allP (fun E => bx_obE rxL X S0 rxCIL.2.2.1 (rxIIL S0 ws) (rxPSIL S0 ws) i q.1 E) q.2.2) 0 rxYIL := ⟨Or.inr ⟨rxfIL_0_0 hP, trivial⟩, Or.inr ⟨rxfIL_1_0 hP, rxfIL_1_1 hP, trivial⟩, trivial⟩
theorem rxQIL {PX : State → Prop} {Dg : va_G} {A : Nat → Prop} {ad xa : Nat → Nat} {l : Launch} {X : (Nat → Int → Int) → Prop} (hPX : rx_PXOK rxNW A PX) (hsl : ∀ s : State, PX s → ∀ o idx n : Nat, rxSl o idx = some n → ∃ tx : String, vk_R (rxNm o) idx tx (ad n) s)
    (hX : ∀ S S_p : Nat → Int → Int, X S → bx_same rxL (bx_mdl rxCIL.2.2.1) S S_p → X S_p)
    (ih : ∀ (j2 : Nat) (ct2 : bx_Ct) (M2 : rx_Mt), ct2 ∈ rxCnE j2 → ct2.2.2.2.1 + 1 ≤ rxCIL.2.2.2.1 → rxT.2.2.2.2.2 j2 = some M2 → bx_Con rxG rxNW rxAO PX Dg rxL X vwCl A ad l M2 ct2) : bx_ConP rxG rxNW rxAO PX Dg rxL X vwCl A ad l rxM318 rxCIL rxPIL rxPSIL :=
  rxQof (xa := xa) (Cn := rxCnE) (f := 30000) (j := 318) (tab := rxYIL) (us := rxUIL) hPX hsl hX ih rfl rxYcIL rxIIL rxmIL
    (fun S0 ws r I0 I ht0 ht as he he1 hX0 hI0 hP hs ha => by
      have e := he.symm.trans (show bx_ent0 rxNP rxCIL.1 bx_I0 [] = some ([(0, 0), (0, 0), (0, 0), (0, 0), (0, 0), (0, 0), (0, 0), (0, 0), (0, 11)], [], [.inr (3, (0, 480)), .inr (0, (8, 0))]) from rfl)
      cases e
      subst ha
      have h0 : r 0 = 0 := hs.1
      show rxIIL_0 S0 _ S0 (r 8)
      refine ⟨rfl, ?_⟩
      simp only [List.map_cons, List.map_nil, bx_xv_ok h0]
      rfl)
    (fun S0 ws hP => fun i q hq hus => absurd (show false = true from hus) Bool.false_ne_true) (fun S0 ws hP => rxgCIL hP) (fun S0 ws hP => rxgEIL hP)
end
section
noncomputable def rxCTB : bx_Ct := ([(3, (1, 480, 0)), (0, (0, 0, 11))], none, [(1095, 0), (1096, 0), (1097, 0), (1098, 0)], 0, [])
noncomputable def rxITB_0 (S0 : Nat → Int → Int) (ws : List Int) (S : Nat → Int → Int) (k : Int) : Prop := S = S0 ∧ ws = [480, k]
noncomputable def rxmTB_0 (S0 : Nat → Int → Int) (ws : List Int) (S : Nat → Int → Int) (k : Int) : Nat := 100
noncomputable def rxzTB_0 : rx_Z := ([(0, 0), (0, 0), (0, 0), (0, 0), (0, 0), (0, 0), (0, 0), (0, 0), (0, 11)], [], [], 0, 0, 0, [(0, .inr (3, (0, 480))), (1, .inr (0, (8, 0)))], [])
noncomputable def rxITB_1 (S0 : Nat → Int → Int) (ws : List Int) (S : Nat → Int → Int) (k a c : Int) : Prop := True
noncomputable def rxmTB_1 (S0 : Nat → Int → Int) (ws : List Int) (S : Nat → Int → Int) (k a c : Int) : Nat := 90
noncomputable def rxzTB_1 : rx_Z := ([(0, 0), (0, 0), (0, 0), (0, 0), (0, 0), (0, 0), (0, 0), (0, 0), (0, 11), (0, 12), (0, 5)], [], [], 0, 0, 22, [(0, .inr (3, (0, 480))), (1, .inr (0, (8, 0)))], [.inr (0, (10, 0)), .inr (0, (9, 0))])
noncomputable def rxoTB_0_0 : bx_HO := (([(0, 0), (0, 0), (0, 0), (0, 0), (0, 0), (0, 0), (0, 0), (0, 0), (0, 11), (0, 2), (0, 12), (0, 775), ((-1), 300)], [(10, (10, 0), (9, 0))], [(((0, 0), 1851192626986356797625080725118120099292722353566014176444416000000000), .inr (0, (12, 0))), (((0, 0), 1851192626986356797424364830707437625680387377997778265166577664000000), .inr (0, (11, 0))), (((0, 480), 61), .inr (3, (0, 512))), (((0, 480), 3), .inr (3, (0, 482))), (((0, 0), 1851192626986356797424364830707437625680387377997778265167167488000000), .inr (0, (9, 0))), (((0, 480), 62), .inr (3, (0, 513)))], 0, 0, 22, [(0, .inr (3, (0, 480))), (1, .inr (0, (8, 0)))], [.inr (0, (12, 0)), .inr (0, (10, 0))]), [(12, 0, 5)], [], [(0, 0), (0, 0), (0, 0), (0, 0), (0, 0), (0, 0), (0, 0), (0, 0), (8, 0), (10, 0), (12, 0)], 1)
noncomputable def rxeTB_1_0 : rx_End × List (Nat × Int × Int) := (([(0, 0), (0, 0), (0, 0), (0, 0), (0, 0), (0, 0), (0, 0), (0, 0), (0, 11), (0, 12), (0, 5), (0, 17), (1, 1), (1, 1)], [(3, (13, 0), (0, 0)), (3, (12, 0), (0, 0)), (604462909807314587353098000000, (11, 0), (9, 0))], [(((0, 0), 1851192626986356797424364830707437625680387377997778265169526787000000), .inr (0, (0, 0))), (((0, 0), 1851192626986356797424364830707437625680387377997778265168936963000000), .inr (0, (0, 0))), (((0, 0), 1851192626986356797424374018331344491018900889112178922910056451000000), .inr (0, (0, (-1)))), (((0, 0), 1851192626986356797424364830707437625680387377997778265169526784000000), .inr (0, (13, 0))), (((0, 480), 66), .inr (3, (0, 517))), (((0, 480), 64), .inr (3, (0, 515))), (((0, 0), 1851192626986356797424374018331344491018900889112178922909466627000000), .inr (0, (0, (-1)))), (((0, 0), 1851192626986356797424364830707437625680387377997778265168936960000000), .inr (0, (12, 0))), (((0, 480), 65), .inr (3, (0, 516))), (((0, 480), 63), .inr (3, (0, 514)))], none), [])
noncomputable def rxeTB_1_1 : rx_End × List (Nat × Int × Int) := (([(0, 0), (0, 0), (0, 0), (0, 0), (0, 0), (0, 0), (0, 0), (0, 0), (0, 11), (0, 12), (0, 5), (0, 17), (1, 1), (0, 0), ((-1), 2)], [(3, (12, 0), (0, 0)), (604462909807314587353098000000, (11, 0), (9, 0))], [(((0, 0), 1851192626986356797424364830707437625680387377997778265169526787000000), .inr (0, (0, 0))), (((0, 0), 1851192626986356797424364830707437625680387377997778265168936963000000), .inr (0, (0, 0))), (((0, 0), 1851192626986356797424374018331344491018900889112178922910056451000000), .inr (0, (14, 0))), (((0, 0), 1851192626986356797424374018331344491018900889112178922910056448000000), .inr (0, (14, 0))), (((0, 0), 1851192626986356797424364830707437625680387377997778265169526784000000), .inr (0, (13, 0))), (((0, 480), 66), .inr (3, (0, 517))), (((0, 480), 64), .inr (3, (0, 515))), (((0, 0), 1851192626986356797424374018331344491018900889112178922909466627000000), .inr (0, (0, (-1)))), (((0, 0), 1851192626986356797424364830707437625680387377997778265168936960000000), .inr (0, (12, 0))), (((0, 480), 65), .inr (3, (0, 516))), (((0, 480), 63), .inr (3, (0, 514)))], none), [])
noncomputable def rxeTB_1_2 : rx_End × List (Nat × Int × Int) := (([(0, 0), (0, 0), (0, 0), (0, 0), (0, 0), (0, 0), (0, 0), (0, 0), (0, 11), (0, 12), (0, 5), (0, 17), (0, 0), ((-1), 9), (1, 1)], [(3, (14, 0), (0, 0)), (604462909807314587353098000000, (11, 0), (9, 0))], [(((0, 0), 1851192626986356797424364830707437625680387377997778265169526787000000), .inr (0, (0, 0))), (((0, 0), 1851192626986356797424364830707437625680387377997778265168936963000000), .inr (0, (0, 0))), (((0, 0), 1851192626986356797424374018331344491018900889112178922910056451000000), .inr (0, (0, (-1)))), (((0, 0), 1851192626986356797424364830707437625680387377997778265169526784000000), .inr (0, (14, 0))), (((0, 480), 66), .inr (3, (0, 517))), (((0, 480), 64), .inr (3, (0, 515))), (((0, 0), 1851192626986356797424374018331344491018900889112178922909466627000000), .inr (0, (13, 0))), (((0, 0), 1851192626986356797424374018331344491018900889112178922909466624000000), .inr (0, (13, 0))), (((0, 0), 1851192626986356797424364830707437625680387377997778265168936960000000), .inr (0, (12, 0))), (((0, 480), 65), .inr (3, (0, 516))), (((0, 480), 63), .inr (3, (0, 514)))], none), [])
noncomputable def rxeTB_1_3 : rx_End × List (Nat × Int × Int) := (([(0, 0), (0, 0), (0, 0), (0, 0), (0, 0), (0, 0), (0, 0), (0, 0), (0, 11), (0, 12), (0, 5), (0, 17), (0, 0), ((-1), 9), (0, 0), ((-1), 2)], [(604462909807314587353098000000, (11, 0), (9, 0))], [(((0, 0), 1851192626986356797424364830707437625680387377997778265169526787000000), .inr (0, (0, 0))), (((0, 0), 1851192626986356797424364830707437625680387377997778265168936963000000), .inr (0, (0, 0))), (((0, 0), 1851192626986356797424374018331344491018900889112178922910056451000000), .inr (0, (15, 0))), (((0, 0), 1851192626986356797424374018331344491018900889112178922910056448000000), .inr (0, (15, 0))), (((0, 0), 1851192626986356797424364830707437625680387377997778265169526784000000), .inr (0, (14, 0))), (((0, 480), 66), .inr (3, (0, 517))), (((0, 480), 64), .inr (3, (0, 515))), (((0, 0), 1851192626986356797424374018331344491018900889112178922909466627000000), .inr (0, (13, 0))), (((0, 0), 1851192626986356797424374018331344491018900889112178922909466624000000), .inr (0, (13, 0))), (((0, 0), 1851192626986356797424364830707437625680387377997778265168936960000000), .inr (0, (12, 0))), (((0, 480), 65), .inr (3, (0, 516))), (((0, 480), 63), .inr (3, (0, 514)))], none), [])
noncomputable def rxYTB : List bx_HE := [(rxzTB_0, [rxoTB_0_0], []), (rxzTB_1, [], [rxeTB_1_0, rxeTB_1_1, rxeTB_1_2, rxeTB_1_3])]
noncomputable def rxUTB (q : bx_HE) : Bool := false
noncomputable def rxYBTB : bx_B := (rxV, rxNP, rxDmf, bx_mdH rxCTB.2.2.1)
set_option maxRecDepth 100000 in
theorem rxYcTB : bx_chkH rxYBTB rxM320 rxCTB rxYTB (rxUTB, fun cut z => rx_ex2 (rxCT rxYBTB rxCnE) cut 30000 rxCTB.2.2.2.1 320 z) = true := by decide +kernel
noncomputable def rxITB (S0 : Nat → Int → Int) (ws : List Int) (i : Nat) : bx_SP := fun S r => match i with | 0 => rxITB_0 S0 ws S (r 8) | 1 => rxITB_1 S0 ws S (r 8) (r 9) (r 10) | _ => False
noncomputable def rxmTB (S0 : Nat → Int → Int) (ws : List Int) (i : Nat) (S : Nat → Int → Int) (r : Nat → Int) : Nat := match i with | 0 => rxmTB_0 S0 ws S (r 8) | 1 => rxmTB_1 S0 ws S (r 8) (r 9) (r 10) | _ => 0
noncomputable def rxPTB (S0 : Nat → Int → Int) (ws : List Int) : Prop := ∃ k : Int, ws = [480, k] ∧ ∃ j : Int, 0 ≤ j ∧ j < 12 ∧ S0 512 k = 742 + 3 * j
noncomputable def rxPSTB (S0 : Nat → Int → Int) (ws : List Int) (S : Nat → Int → Int) (w : Option Int) : Prop := w = none ∧ True
theorem rxcTB_0_0 {S0 : Nat → Int → Int} {ws : List Int} {S : Nat → Int → Int} {k x9 x10 x11 x12 : Int} (hP : rxPTB S0 ws) (hin : bx_same rxL (bx_mdl rxCTB.2.2.1) S0 S) (I0 : bx_Inv rxL S) (hinv : rxITB_0 S0 ws S k) (l8 : 0 ≤ k) (u8 : k ≤ 11) (l9 : 0 ≤ x9) (u9 : x9 ≤ 2) (l10 : 0 ≤ x10) (u10 : x10 ≤ 12) (l11 : 0 ≤ x11) (u11 : x11 ≤ 775) (l12 : (-1) ≤ x12) (u12 : x12 ≤ 300) (f0 : x10 = 6 * (x9)) (e2 : S 513 k = x9) (e1 : S 512 k = x11) (e0 : S 482 (x11 + 1) = x12) : ((0 ≤ x12 ∧ x12 ≤ 5) ∧ True) ∧ (True) ∧ rxITB_1 S0 ws S k x10 x12 ∧ rxmTB_1 S0 ws S k x10 x12 < rxmTB_0 S0 ws S k := by
  obtain ⟨rfl, hw⟩ := hinv
  obtain ⟨k_p, hw2, j, j0, j1, hj⟩ := hP
  have hke : k = k_p := Option.some.inj (congrArg (fun l => l[1]?) (hw.symm.trans hw2))
  subst hke
  have hd := rxDeed1 I0 j0 j1
  rw [show x11 + 1 = 743 + 3 * j by omega] at e0
  exact ⟨⟨by omega, trivial⟩, trivial, trivial, by unfold rxmTB_0 rxmTB_1; omega⟩
theorem rxgTB_0_0 {X : (Nat → Int → Int) → Prop} {S0 : Nat → Int → Int} {ws : List Int} (hP : rxPTB S0 ws) : bx_obC rxL X S0 rxCTB.2.2.1 (rxITB S0 ws) (rxmTB S0 ws) 0 rxzTB_0 rxoTB_0_0 := by
  intro S S_p r r_p hinv hX hin hsm_ hseg
  obtain ⟨I0, I1, h0_, hr_, b_, f_, d_⟩ := bx_cl (evs := [(0, (0, 482), (11, 1), .inr (0, (12, 0))), (0, (0, 512), (8, 0), .inr (0, (11, 0))), (0, (0, 513), (8, 0), .inr (0, (9, 0)))]) (fvs := [(4, (10, 0), (9, 0), (0, 6))]) hseg (by decide +kernel) (by decide +kernel)
  have hinv : rxITB_0 S0 ws S (r 8) := hinv
  rw [← hr_ 8 (by decide)] at hinv
  obtain ⟨⟨l8, u8⟩, ⟨l9, u9⟩, ⟨l10, u10⟩, ⟨l11, u11⟩, ⟨l12, u12⟩, -⟩ := b_
  obtain ⟨f0, -⟩ := f_
  obtain ⟨e0, ⟨e1, ⟨e2, w_⟩⟩⟩ := d_
  subst w_
  have g := rxcTB_0_0 hP hin I0 hinv l8 u8 l9 u9 l10 u10 l11 u11 l12 u12 f0 e2 e1 e0
  refine ⟨bx_narP_ok (l := [(12, 0, 5)]) g.1, bx_nfP_ok h0_ (fvs := []) (by decide +kernel) g.2.1, ?_, ?_⟩
  · show rxITB_1 S0 ws S_p (bx_val [(0, 0), (0, 0), (0, 0), (0, 0), (0, 0), (0, 0), (0, 0), (0, 0), (8, 0), (10, 0), (12, 0)] r_p 8) (bx_val [(0, 0), (0, 0), (0, 0), (0, 0), (0, 0), (0, 0), (0, 0), (0, 0), (8, 0), (10, 0), (12, 0)] r_p 9) (bx_val [(0, 0), (0, 0), (0, 0), (0, 0), (0, 0), (0, 0), (0, 0), (0, 0), (8, 0), (10, 0), (12, 0)] r_p 10)
    rw [bx_val_x (n := 8) (e := (8, 0)) h0_ rfl, bx_val_x (n := 9) (e := (10, 0)) h0_ rfl, bx_val_x (n := 10) (e := (12, 0)) h0_ rfl]
    exact g.2.2.1
  · show rxmTB_1 S0 ws S_p (bx_val [(0, 0), (0, 0), (0, 0), (0, 0), (0, 0), (0, 0), (0, 0), (0, 0), (8, 0), (10, 0), (12, 0)] r_p 8) (bx_val [(0, 0), (0, 0), (0, 0), (0, 0), (0, 0), (0, 0), (0, 0), (0, 0), (8, 0), (10, 0), (12, 0)] r_p 9) (bx_val [(0, 0), (0, 0), (0, 0), (0, 0), (0, 0), (0, 0), (0, 0), (0, 0), (8, 0), (10, 0), (12, 0)] r_p 10) < rxmTB_0 S0 ws S_p (r 8)
    rw [bx_val_x (n := 8) (e := (8, 0)) h0_ rfl, bx_val_x (n := 9) (e := (10, 0)) h0_ rfl, bx_val_x (n := 10) (e := (12, 0)) h0_ rfl, ← hr_ 8 (by decide)]
    exact g.2.2.2
theorem rxdTB_1_0 {S0 : Nat → Int → Int} {ws : List Int} {S : Nat → Int → Int} {k a c x11 x12 x13 : Int} (hP : rxPTB S0 ws) (hin : bx_same rxL (bx_mdl rxCTB.2.2.1) S0 S) (hin2 : bx_same rxL (bx_mdl rxCTB.2.2.1) S (bx_up (bx_up (bx_up (bx_up S 514 x11 ((-1))) 515 x11 ((-1))) 516 k 0) 517 k 0)) (I0 : bx_Inv rxL S) (I1 : bx_Inv rxL (bx_up (bx_up (bx_up (bx_up S 514 x11 ((-1))) 515 x11 ((-1))) 516 k 0) 517 k 0)) (hinv : rxITB_1 S0 ws S k a c) (l8 : 0 ≤ k) (u8 : k ≤ 11) (l9 : 0 ≤ a) (u9 : a ≤ 12) (l10 : 0 ≤ c) (u10 : c ≤ 5) (l11 : 0 ≤ x11) (u11 : x11 ≤ 17) (l12 : 1 ≤ x12) (u12 : x12 ≤ 1) (l13 : 1 ≤ x13) (u13 : x13 ≤ 1) (f0 : x13 ≠ 0) (f1 : x12 ≠ 0) (f2 : x11 = a + c) (e5 : S 516 k = x12) (e3 : (bx_up S 514 x11 ((-1))) 517 k = x13) : (True) ∧ rxPSTB S0 ws (bx_up (bx_up (bx_up (bx_up S 514 x11 ((-1))) 515 x11 ((-1))) 516 k 0) 517 k 0) none := by
  exact ⟨trivial, rfl, trivial⟩
theorem rxfTB_1_0 {X : (Nat → Int → Int) → Prop} {S0 : Nat → Int → Int} {ws : List Int} (hP : rxPTB S0 ws) : bx_obE rxL X S0 rxCTB.2.2.1 (rxITB S0 ws) (rxPSTB S0 ws) 1 rxzTB_1 rxeTB_1_0 := by
  intro S S_p r r_p hinv hX hin hsm_ hseg
  obtain ⟨I0, I1, h0_, hr_, b_, f_, d_⟩ := bx_cl (evs := [(1, (0, 517), (8, 0), .inr (0, (0, 0))), (1, (0, 516), (8, 0), .inr (0, (0, 0))), (1, (0, 515), (11, 0), .inr (0, (0, (-1)))), (0, (0, 517), (8, 0), .inr (0, (13, 0))), (1, (0, 514), (11, 0), .inr (0, (0, (-1)))), (0, (0, 516), (8, 0), .inr (0, (12, 0)))]) (fvs := [(3, (13, 0), (0, 0), (0, 0)), (3, (12, 0), (0, 0), (0, 0)), (5, (11, 0), (9, 0), (10, 0))]) hseg (by decide +kernel) (by decide +kernel)
  have hinv : rxITB_1 S0 ws S (r 8) (r 9) (r 10) := hinv
  rw [← hr_ 8 (by decide), ← hr_ 9 (by decide), ← hr_ 10 (by decide)] at hinv
  obtain ⟨⟨l8, u8⟩, ⟨l9, u9⟩, ⟨l10, u10⟩, ⟨l11, u11⟩, ⟨l12, u12⟩, ⟨l13, u13⟩, -⟩ := b_
  obtain ⟨f0, f1, f2, -⟩ := f_
  obtain ⟨T0, ⟨T1, ⟨T2, ⟨e3, ⟨T4, ⟨e5, w_⟩, w4⟩⟩, w2⟩, w1⟩, w0⟩ := d_
  subst w0
  subst w1
  subst w2
  subst w4
  subst w_
  have g := rxdTB_1_0 hP hin hsm_ I0 I1 hinv l8 u8 l9 u9 l10 u10 l11 u11 l12 u12 l13 u13 f0 f1 f2 e5 e3
  refine ⟨bx_narP_ok (l := []) g.1, ?_⟩
  exact g.2
theorem rxdTB_1_1 {S0 : Nat → Int → Int} {ws : List Int} {S : Nat → Int → Int} {k a c x11 x12 x13 x14 : Int} (hP : rxPTB S0 ws) (hin : bx_same rxL (bx_mdl rxCTB.2.2.1) S0 S) (hin2 : bx_same rxL (bx_mdl rxCTB.2.2.1) S (bx_up (bx_up (bx_up (bx_up S 514 x11 ((-1))) 515 x11 x14) 516 k 0) 517 k 0)) (I0 : bx_Inv rxL S) (I1 : bx_Inv rxL (bx_up (bx_up (bx_up (bx_up S 514 x11 ((-1))) 515 x11 x14) 516 k 0) 517 k 0)) (hinv : rxITB_1 S0 ws S k a c) (l8 : 0 ≤ k) (u8 : k ≤ 11) (l9 : 0 ≤ a) (u9 : a ≤ 12) (l10 : 0 ≤ c) (u10 : c ≤ 5) (l11 : 0 ≤ x11) (u11 : x11 ≤ 17) (l12 : 1 ≤ x12) (u12 : x12 ≤ 1) (l13 : 0 ≤ x13) (u13 : x13 ≤ 0) (l14 : (-1) ≤ x14) (u14 : x14 ≤ 2) (f0 : x12 ≠ 0) (f1 : x11 = a + c) (e6 : S 516 k = x12) (e4 : (bx_up S 514 x11 ((-1))) 517 k = x13) (e3 : (bx_up S 514 x11 ((-1))) 515 x11 = x14) : (True) ∧ rxPSTB S0 ws (bx_up (bx_up (bx_up (bx_up S 514 x11 ((-1))) 515 x11 x14) 516 k 0) 517 k 0) none := by
  exact ⟨trivial, rfl, trivial⟩
theorem rxfTB_1_1 {X : (Nat → Int → Int) → Prop} {S0 : Nat → Int → Int} {ws : List Int} (hP : rxPTB S0 ws) : bx_obE rxL X S0 rxCTB.2.2.1 (rxITB S0 ws) (rxPSTB S0 ws) 1 rxzTB_1 rxeTB_1_1 := by
  intro S S_p r r_p hinv hX hin hsm_ hseg
  obtain ⟨I0, I1, h0_, hr_, b_, f_, d_⟩ := bx_cl (evs := [(1, (0, 517), (8, 0), .inr (0, (0, 0))), (1, (0, 516), (8, 0), .inr (0, (0, 0))), (1, (0, 515), (11, 0), .inr (0, (14, 0))), (0, (0, 515), (11, 0), .inr (0, (14, 0))), (0, (0, 517), (8, 0), .inr (0, (13, 0))), (1, (0, 514), (11, 0), .inr (0, (0, (-1)))), (0, (0, 516), (8, 0), .inr (0, (12, 0)))]) (fvs := [(3, (12, 0), (0, 0), (0, 0)), (5, (11, 0), (9, 0), (10, 0))]) hseg (by decide +kernel) (by decide +kernel)
  have hinv : rxITB_1 S0 ws S (r 8) (r 9) (r 10) := hinv
  rw [← hr_ 8 (by decide), ← hr_ 9 (by decide), ← hr_ 10 (by decide)] at hinv
  obtain ⟨⟨l8, u8⟩, ⟨l9, u9⟩, ⟨l10, u10⟩, ⟨l11, u11⟩, ⟨l12, u12⟩, ⟨l13, u13⟩, ⟨l14, u14⟩, -⟩ := b_
  obtain ⟨f0, f1, -⟩ := f_
  obtain ⟨T0, ⟨T1, ⟨T2, ⟨e3, ⟨e4, ⟨T5, ⟨e6, w_⟩, w5⟩⟩⟩, w2⟩, w1⟩, w0⟩ := d_
  subst w0
  subst w1
  subst w2
  subst w5
  subst w_
  have g := rxdTB_1_1 hP hin hsm_ I0 I1 hinv l8 u8 l9 u9 l10 u10 l11 u11 l12 u12 l13 u13 l14 u14 f0 f1 e6 e4 e3
  refine ⟨bx_narP_ok (l := []) g.1, ?_⟩
  exact g.2
theorem rxdTB_1_2 {S0 : Nat → Int → Int} {ws : List Int} {S : Nat → Int → Int} {k a c x11 x12 x13 x14 : Int} (hP : rxPTB S0 ws) (hin : bx_same rxL (bx_mdl rxCTB.2.2.1) S0 S) (hin2 : bx_same rxL (bx_mdl rxCTB.2.2.1) S (bx_up (bx_up (bx_up (bx_up S 514 x11 x13) 515 x11 ((-1))) 516 k 0) 517 k 0)) (I0 : bx_Inv rxL S) (I1 : bx_Inv rxL (bx_up (bx_up (bx_up (bx_up S 514 x11 x13) 515 x11 ((-1))) 516 k 0) 517 k 0)) (hinv : rxITB_1 S0 ws S k a c) (l8 : 0 ≤ k) (u8 : k ≤ 11) (l9 : 0 ≤ a) (u9 : a ≤ 12) (l10 : 0 ≤ c) (u10 : c ≤ 5) (l11 : 0 ≤ x11) (u11 : x11 ≤ 17) (l12 : 0 ≤ x12) (u12 : x12 ≤ 0) (l13 : (-1) ≤ x13) (u13 : x13 ≤ 9) (l14 : 1 ≤ x14) (u14 : x14 ≤ 1) (f0 : x14 ≠ 0) (f1 : x11 = a + c) (e6 : S 516 k = x12) (e5 : S 514 x11 = x13) (e3 : (bx_up S 514 x11 x13) 517 k = x14) : (True) ∧ rxPSTB S0 ws (bx_up (bx_up (bx_up (bx_up S 514 x11 x13) 515 x11 ((-1))) 516 k 0) 517 k 0) none := by
  exact ⟨trivial, rfl, trivial⟩
theorem rxfTB_1_2 {X : (Nat → Int → Int) → Prop} {S0 : Nat → Int → Int} {ws : List Int} (hP : rxPTB S0 ws) : bx_obE rxL X S0 rxCTB.2.2.1 (rxITB S0 ws) (rxPSTB S0 ws) 1 rxzTB_1 rxeTB_1_2 := by
  intro S S_p r r_p hinv hX hin hsm_ hseg
  obtain ⟨I0, I1, h0_, hr_, b_, f_, d_⟩ := bx_cl (evs := [(1, (0, 517), (8, 0), .inr (0, (0, 0))), (1, (0, 516), (8, 0), .inr (0, (0, 0))), (1, (0, 515), (11, 0), .inr (0, (0, (-1)))), (0, (0, 517), (8, 0), .inr (0, (14, 0))), (1, (0, 514), (11, 0), .inr (0, (13, 0))), (0, (0, 514), (11, 0), .inr (0, (13, 0))), (0, (0, 516), (8, 0), .inr (0, (12, 0)))]) (fvs := [(3, (14, 0), (0, 0), (0, 0)), (5, (11, 0), (9, 0), (10, 0))]) hseg (by decide +kernel) (by decide +kernel)
  have hinv : rxITB_1 S0 ws S (r 8) (r 9) (r 10) := hinv
  rw [← hr_ 8 (by decide), ← hr_ 9 (by decide), ← hr_ 10 (by decide)] at hinv
  obtain ⟨⟨l8, u8⟩, ⟨l9, u9⟩, ⟨l10, u10⟩, ⟨l11, u11⟩, ⟨l12, u12⟩, ⟨l13, u13⟩, ⟨l14, u14⟩, -⟩ := b_
  obtain ⟨f0, f1, -⟩ := f_
  obtain ⟨T0, ⟨T1, ⟨T2, ⟨e3, ⟨T4, ⟨e5, ⟨e6, w_⟩⟩, w4⟩⟩, w2⟩, w1⟩, w0⟩ := d_
  subst w0
  subst w1
  subst w2
  subst w4
  subst w_
  have g := rxdTB_1_2 hP hin hsm_ I0 I1 hinv l8 u8 l9 u9 l10 u10 l11 u11 l12 u12 l13 u13 l14 u14 f0 f1 e6 e5 e3
  refine ⟨bx_narP_ok (l := []) g.1, ?_⟩
  exact g.2
theorem rxdTB_1_3 {S0 : Nat → Int → Int} {ws : List Int} {S : Nat → Int → Int} {k a c x11 x12 x13 x14 x15 : Int} (hP : rxPTB S0 ws) (hin : bx_same rxL (bx_mdl rxCTB.2.2.1) S0 S) (hin2 : bx_same rxL (bx_mdl rxCTB.2.2.1) S (bx_up (bx_up (bx_up (bx_up S 514 x11 x13) 515 x11 x15) 516 k 0) 517 k 0)) (I0 : bx_Inv rxL S) (I1 : bx_Inv rxL (bx_up (bx_up (bx_up (bx_up S 514 x11 x13) 515 x11 x15) 516 k 0) 517 k 0)) (hinv : rxITB_1 S0 ws S k a c) (l8 : 0 ≤ k) (u8 : k ≤ 11) (l9 : 0 ≤ a) (u9 : a ≤ 12) (l10 : 0 ≤ c) (u10 : c ≤ 5) (l11 : 0 ≤ x11) (u11 : x11 ≤ 17) (l12 : 0 ≤ x12) (u12 : x12 ≤ 0) (l13 : (-1) ≤ x13) (u13 : x13 ≤ 9) (l14 : 0 ≤ x14) (u14 : x14 ≤ 0) (l15 : (-1) ≤ x15) (u15 : x15 ≤ 2) (f0 : x11 = a + c) (e7 : S 516 k = x12) (e6 : S 514 x11 = x13) (e4 : (bx_up S 514 x11 x13) 517 k = x14) (e3 : (bx_up S 514 x11 x13) 515 x11 = x15) : (True) ∧ rxPSTB S0 ws (bx_up (bx_up (bx_up (bx_up S 514 x11 x13) 515 x11 x15) 516 k 0) 517 k 0) none := by
  exact ⟨trivial, rfl, trivial⟩
theorem rxfTB_1_3 {X : (Nat → Int → Int) → Prop} {S0 : Nat → Int → Int} {ws : List Int} (hP : rxPTB S0 ws) : bx_obE rxL X S0 rxCTB.2.2.1 (rxITB S0 ws) (rxPSTB S0 ws) 1 rxzTB_1 rxeTB_1_3 := by
  intro S S_p r r_p hinv hX hin hsm_ hseg
  obtain ⟨I0, I1, h0_, hr_, b_, f_, d_⟩ := bx_cl (evs := [(1, (0, 517), (8, 0), .inr (0, (0, 0))), (1, (0, 516), (8, 0), .inr (0, (0, 0))), (1, (0, 515), (11, 0), .inr (0, (15, 0))), (0, (0, 515), (11, 0), .inr (0, (15, 0))), (0, (0, 517), (8, 0), .inr (0, (14, 0))), (1, (0, 514), (11, 0), .inr (0, (13, 0))), (0, (0, 514), (11, 0), .inr (0, (13, 0))), (0, (0, 516), (8, 0), .inr (0, (12, 0)))]) (fvs := [(5, (11, 0), (9, 0), (10, 0))]) hseg (by decide +kernel) (by decide +kernel)
  have hinv : rxITB_1 S0 ws S (r 8) (r 9) (r 10) := hinv
  rw [← hr_ 8 (by decide), ← hr_ 9 (by decide), ← hr_ 10 (by decide)] at hinv
  obtain ⟨⟨l8, u8⟩, ⟨l9, u9⟩, ⟨l10, u10⟩, ⟨l11, u11⟩, ⟨l12, u12⟩, ⟨l13, u13⟩, ⟨l14, u14⟩, ⟨l15, u15⟩, -⟩ := b_
  obtain ⟨f0, -⟩ := f_
  obtain ⟨T0, ⟨T1, ⟨T2, ⟨e3, ⟨e4, ⟨T5, ⟨e6, ⟨e7, w_⟩⟩, w5⟩⟩⟩, w2⟩, w1⟩, w0⟩ := d_
  subst w0
  subst w1
  subst w2
  subst w5
  subst w_
  have g := rxdTB_1_3 hP hin hsm_ I0 I1 hinv l8 u8 l9 u9 l10 u10 l11 u11 l12 u12 l13 u13 l14 u14 l15 u15 f0 e7 e6 e4 e3
  refine ⟨bx_narP_ok (l := []) g.1, ?_⟩
  exact g.2
theorem rxgCTB {X : (Nat → Int → Int) → Prop} {S0 : Nat → Int → Int} {ws : List Int} (hP : rxPTB S0 ws) : bx_allI (fun i q => rxUTB q = true ∨ bx_allP (fun o => bx_obC rxL X S0 rxCTB.2.2.1 (rxITB S0 ws) (rxmTB S0 ws) i q.1 o) q.2.1) 0 rxYTB := ⟨Or.inr ⟨rxgTB_0_0 hP, trivial⟩, Or.inr trivial, trivial⟩
theorem rxgETB {X : (Nat → Int → Int) → Prop} {S0 : Nat → Int → Int} {ws : List Int} (hP : rxPTB S0 ws) : bx_allI (fun i q => rxUTB q = true ∨ bx_allP (fun E => bx_obE rxL X S0 rxCTB.2.2.1 (rxITB S0 ws) (rxPSTB S0 ws) i q.1 E) q.2.2) 0 rxYTB := ⟨Or.inr trivial, Or.inr ⟨rxfTB_1_0 hP, rxfTB_1_1 hP, rxfTB_1_2 hP, rxfTB_1_3 hP, trivial⟩, trivial⟩
theorem rxQTB {PX : State → Prop} {Dg : va_G} {A : Nat → Prop} {ad xa : Nat → Nat} {l : Launch} {X : (Nat → Int → Int) → Prop} (hPX : rx_PXOK rxNW A PX) (hsl : ∀ s : State, PX s → ∀ o idx n : Nat, rxSl o idx = some n → ∃ tx : String, vk_R (rxNm o) idx tx (ad n) s)
    (hX : ∀ S S_p : Nat → Int → Int, X S → bx_same rxL (bx_mdl rxCTB.2.2.1) S S_p → X S_p)
    (ih : ∀ (j2 : Nat) (ct2 : bx_Ct) (M2 : rx_Mt), ct2 ∈ rxCnE j2 → ct2.2.2.2.1 + 1 ≤ rxCTB.2.2.2.1 → rxT.2.2.2.2.2 j2 = some M2 → bx_Con rxG rxNW rxAO PX Dg rxL X vwCl A ad l M2 ct2) : bx_ConP rxG rxNW rxAO PX Dg rxL X vwCl A ad l rxM320 rxCTB rxPTB rxPSTB :=
  rxQof (xa := xa) (Cn := rxCnE) (f := 30000) (j := 320) (tab := rxYTB) (us := rxUTB) hPX hsl hX ih rfl rxYcTB rxITB rxmTB
    (fun S0 ws r I0 I ht0 ht as he he1 hX0 hI0 hP hs ha => by
      have e := he.symm.trans (show bx_ent0 rxNP rxCTB.1 bx_I0 [] = some ([(0, 0), (0, 0), (0, 0), (0, 0), (0, 0), (0, 0), (0, 0), (0, 0), (0, 11)], [], [.inr (3, (0, 480)), .inr (0, (8, 0))]) from rfl)
      cases e
      subst ha
      have h0 : r 0 = 0 := hs.1
      show rxITB_0 S0 _ S0 (r 8)
      refine ⟨rfl, ?_⟩
      simp only [List.map_cons, List.map_nil, bx_xv_ok h0]
      rfl)
    (fun S0 ws hP => fun i q hq hus => absurd (show false = true from hus) Bool.false_ne_true) (fun S0 ws hP => rxgCTB hP) (fun S0 ws hP => rxgETB hP)
end
