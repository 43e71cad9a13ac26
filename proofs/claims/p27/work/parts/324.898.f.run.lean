noncomputable def rxCFLP : bx_Ct := ([(3, (1, 479, 0)), (0, (0, 0, 0))], none, [(1061, 0)], 0, [])
noncomputable def rxIFLP_0 (S0 : Nat → Int → Int) (ws : List Int) (S : Nat → Int → Int) (v : Int) : Prop := S = S0 ∧ ws = [479, v]
noncomputable def rxmFLP_0 (S0 : Nat → Int → Int) (ws : List Int) (S : Nat → Int → Int) (v : Int) : Nat := 1000
noncomputable def rxzFLP_0 : rx_Z := ([(0, 0), (0, 0), (0, 0), (0, 0), (0, 0), (0, 0), (0, 0), (0, 0), (0, 0)], [], [], 0, 0, 0, [(0, .inr (3, (0, 479))), (1, .inr (0, (8, 0)))], [])
noncomputable def rxIFLP_1 (S0 : Nat → Int → Int) (ws : List Int) (S : Nat → Int → Int) (v i : Int) : Prop := ∀ (p : Nat) (j : Int), p ≠ 479 → S p j = S0 p j
noncomputable def rxmFLP_1 (S0 : Nat → Int → Int) (ws : List Int) (S : Nat → Int → Int) (v i : Int) : Nat := (100 - i).toNat
noncomputable def rxzFLP_1 : rx_Z := ([(0, 0), (0, 0), (0, 0), (0, 0), (0, 0), (0, 0), (0, 0), (0, 0), (0, 0), (0, 8)], [], [], 0, 0, 5, [(0, .inr (3, (0, 479))), (0, .inr (3, (0, 479))), (1, .inr (0, (8, 0))), (2, .inr (0, (9, 0))), (3, .inr (0, (0, 8)))], [])
noncomputable def rxoFLP_0_0 : bx_HO := (([(0, 0), (0, 0), (0, 0), (0, 0), (0, 0), (0, 0), (0, 0), (0, 0), (0, 0)], [], [], 0, 0, 5, [(3, .inr (0, (0, 8))), (2, .inr (0, (0, 0))), (0, .inr (3, (0, 479))), (1, .inr (0, (8, 0)))], []), [], [], [(0, 0), (0, 0), (0, 0), (0, 0), (0, 0), (0, 0), (0, 0), (0, 0), (8, 0), (0, 0)], 1)
noncomputable def rxoFLP_1_0 : bx_HO := (([(0, 0), (0, 0), (0, 0), (0, 0), (0, 0), (0, 0), (0, 0), (0, 0), (0, 0), (0, 7)], [], [(((0, 0), 1851192626986356797424367893248739914126558548369245151061016579000000), .inr (0, (8, 0)))], 0, 0, 5, [(2, .inr (0, (9, 1))), (0, .inr (3, (0, 479))), (0, .inr (3, (0, 479))), (1, .inr (0, (8, 0))), (3, .inr (0, (0, 8)))], []), [], [], [(0, 0), (0, 0), (0, 0), (0, 0), (0, 0), (0, 0), (0, 0), (0, 0), (8, 0), (9, 1)], 1)
noncomputable def rxeFLP_1_0 : rx_End × List (Nat × Int × Int) := (([(0, 0), (0, 0), (0, 0), (0, 0), (0, 0), (0, 0), (0, 0), (0, 0), (0, 0), (8, 8)], [], [], none), [])
noncomputable def rxYFLP : List bx_HE := [(rxzFLP_0, [rxoFLP_0_0], []), (rxzFLP_1, [rxoFLP_1_0], [rxeFLP_1_0])]
noncomputable def rxUFLP (q : bx_HE) : Bool := false
noncomputable def rxYBFLP : bx_B := (rxV, rxNP, rxDmf, bx_mdH rxCFLP.2.2.1)
set_option maxRecDepth 100000 in
theorem rxYcFLP : bx_chkH rxYBFLP rxM0 rxCFLP rxYFLP (rxUFLP, fun cut z => rx_ex2 (rxCT rxYBFLP rxCnE) cut 30000 rxCFLP.2.2.2.1 0 z) = true := by decide +kernel
noncomputable def rxIFLP (S0 : Nat → Int → Int) (ws : List Int) (i : Nat) : bx_SP := fun S r => match i with | 0 => rxIFLP_0 S0 ws S (r 8) | 1 => rxIFLP_1 S0 ws S (r 8) (r 9) | _ => False
noncomputable def rxmFLP (S0 : Nat → Int → Int) (ws : List Int) (i : Nat) (S : Nat → Int → Int) (r : Nat → Int) : Nat := match i with | 0 => rxmFLP_0 S0 ws S (r 8) | 1 => rxmFLP_1 S0 ws S (r 8) (r 9) | _ => 0
noncomputable def rxPFLP (S0 : Nat → Int → Int) (ws : List Int) : Prop := True
noncomputable def rxPSFLP (S0 : Nat → Int → Int) (ws : List Int) (S : Nat → Int → Int) (w : Option Int) : Prop := w = none ∧ ∀ (p : Nat) (j : Int), p ≠ 479 → S p j = S0 p j
theorem rxcFLP_0_0 {S0 : Nat → Int → Int} {ws : List Int} {S : Nat → Int → Int} {v : Int} (hP : rxPFLP S0 ws) (hin : bx_same rxL (bx_mdl rxCFLP.2.2.1) S0 S) (I0 : bx_Inv rxL S) (hinv : rxIFLP_0 S0 ws S v) (l8 : 0 ≤ v) (u8 : v ≤ 0) : (True) ∧ (True) ∧ rxIFLP_1 S0 ws S v 0 ∧ rxmFLP_1 S0 ws S v 0 < rxmFLP_0 S0 ws S v := by
  obtain ⟨rfl, hw⟩ := hinv
  exact ⟨trivial, trivial, fun _ _ _ => rfl, by unfold rxmFLP_0 rxmFLP_1; omega⟩
theorem rxgFLP_0_0 {X : (Nat → Int → Int) → Prop} {S0 : Nat → Int → Int} {ws : List Int} (hP : rxPFLP S0 ws) : bx_obC rxL X S0 rxCFLP.2.2.1 (rxIFLP S0 ws) (rxmFLP S0 ws) 0 rxzFLP_0 rxoFLP_0_0 := by
  intro S S_p r r_p hinv hX hin hsm_ hseg
  obtain ⟨I0, I1, h0_, hr_, b_, f_, d_⟩ := bx_cl (evs := []) (fvs := []) hseg (by decide +kernel) (by decide +kernel)
  have hinv : rxIFLP_0 S0 ws S (r 8) := hinv
  rw [← hr_ 8 (by decide)] at hinv
  obtain ⟨⟨l8, u8⟩, -⟩ := b_
  have w_ := d_
  subst w_
  have g := rxcFLP_0_0 hP hin I0 hinv l8 u8
  refine ⟨bx_narP_ok (l := []) g.1, bx_nfP_ok h0_ (fvs := []) (by decide +kernel) g.2.1, ?_, ?_⟩
  · show rxIFLP_1 S0 ws S_p (bx_val [(0, 0), (0, 0), (0, 0), (0, 0), (0, 0), (0, 0), (0, 0), (0, 0), (8, 0), (0, 0)] r_p 8) (bx_val [(0, 0), (0, 0), (0, 0), (0, 0), (0, 0), (0, 0), (0, 0), (0, 0), (8, 0), (0, 0)] r_p 9)
    rw [bx_val_x (n := 8) (e := (8, 0)) h0_ rfl, bx_val_x (n := 9) (e := (0, 0)) h0_ rfl]
    exact g.2.2.1
  · show rxmFLP_1 S0 ws S_p (bx_val [(0, 0), (0, 0), (0, 0), (0, 0), (0, 0), (0, 0), (0, 0), (0, 0), (8, 0), (0, 0)] r_p 8) (bx_val [(0, 0), (0, 0), (0, 0), (0, 0), (0, 0), (0, 0), (0, 0), (0, 0), (8, 0), (0, 0)] r_p 9) < rxmFLP_0 S0 ws S_p (r 8)
    rw [bx_val_x (n := 8) (e := (8, 0)) h0_ rfl, bx_val_x (n := 9) (e := (0, 0)) h0_ rfl, ← hr_ 8 (by decide)]
    exact g.2.2.2
theorem rxcFLP_1_0 {S0 : Nat → Int → Int} {ws : List Int} {S : Nat → Int → Int} {v i : Int} (hP : rxPFLP S0 ws) (hin : bx_same rxL (bx_mdl rxCFLP.2.2.1) S0 S) (I0 : bx_Inv rxL S) (hinv : rxIFLP_1 S0 ws S v i) (l8 : 0 ≤ v) (u8 : v ≤ 0) (l9 : 0 ≤ i) (u9 : i ≤ 7) : (True) ∧ (True) ∧ rxIFLP_1 S0 ws (bx_up S 479 i v) v (i + 1) ∧ rxmFLP_1 S0 ws (bx_up S 479 i v) v (i + 1) < rxmFLP_1 S0 ws S v i := by
  have hf : ∀ (p : Nat) (j : Int), p ≠ 479 → S p j = S0 p j := hinv
  exact ⟨trivial, trivial, fun p j hp => (bx_up_ne (fun y => hp y.1)).trans (hf p j hp), by unfold rxmFLP_1; omega⟩
theorem rxgFLP_1_0 {X : (Nat → Int → Int) → Prop} {S0 : Nat → Int → Int} {ws : List Int} (hP : rxPFLP S0 ws) : bx_obC rxL X S0 rxCFLP.2.2.1 (rxIFLP S0 ws) (rxmFLP S0 ws) 1 rxzFLP_1 rxoFLP_1_0 := by
  intro S S_p r r_p hinv hX hin hsm_ hseg
  obtain ⟨I0, I1, h0_, hr_, b_, f_, d_⟩ := bx_cl (evs := [(1, (0, 479), (9, 0), .inr (0, (8, 0)))]) (fvs := []) hseg (by decide +kernel) (by decide +kernel)
  have hinv : rxIFLP_1 S0 ws S (r 8) (r 9) := hinv
  rw [← hr_ 8 (by decide), ← hr_ 9 (by decide)] at hinv
  obtain ⟨⟨l8, u8⟩, ⟨l9, u9⟩, -⟩ := b_
  obtain ⟨T0, w_, w0⟩ := d_
  subst w0
  subst w_
  have g := rxcFLP_1_0 hP hin I0 hinv l8 u8 l9 u9
  refine ⟨bx_narP_ok (l := []) g.1, bx_nfP_ok h0_ (fvs := []) (by decide +kernel) g.2.1, ?_, ?_⟩
  · show rxIFLP_1 S0 ws (bx_up T0 479 (r_p 9) (r_p 8)) (bx_val [(0, 0), (0, 0), (0, 0), (0, 0), (0, 0), (0, 0), (0, 0), (0, 0), (8, 0), (9, 1)] r_p 8) (bx_val [(0, 0), (0, 0), (0, 0), (0, 0), (0, 0), (0, 0), (0, 0), (0, 0), (8, 0), (9, 1)] r_p 9)
    rw [bx_val_x (n := 8) (e := (8, 0)) h0_ rfl, bx_val_x (n := 9) (e := (9, 1)) h0_ rfl]
    exact g.2.2.1
  · show rxmFLP_1 S0 ws (bx_up T0 479 (r_p 9) (r_p 8)) (bx_val [(0, 0), (0, 0), (0, 0), (0, 0), (0, 0), (0, 0), (0, 0), (0, 0), (8, 0), (9, 1)] r_p 8) (bx_val [(0, 0), (0, 0), (0, 0), (0, 0), (0, 0), (0, 0), (0, 0), (0, 0), (8, 0), (9, 1)] r_p 9) < rxmFLP_1 S0 ws T0 (r 8) (r 9)
    rw [bx_val_x (n := 8) (e := (8, 0)) h0_ rfl, bx_val_x (n := 9) (e := (9, 1)) h0_ rfl, ← hr_ 8 (by decide), ← hr_ 9 (by decide)]
    exact g.2.2.2
theorem rxdFLP_1_0 {S0 : Nat → Int → Int} {ws : List Int} {S : Nat → Int → Int} {v i : Int} (hP : rxPFLP S0 ws) (hin : bx_same rxL (bx_mdl rxCFLP.2.2.1) S0 S) (hin2 : bx_same rxL (bx_mdl rxCFLP.2.2.1) S S) (I0 : bx_Inv rxL S) (I1 : bx_Inv rxL S) (hinv : rxIFLP_1 S0 ws S v i) (l8 : 0 ≤ v) (u8 : v ≤ 0) (l9 : 8 ≤ i) (u9 : i ≤ 8) : (True) ∧ rxPSFLP S0 ws S none := by
  exact ⟨trivial, rfl, hinv⟩
theorem rxfFLP_1_0 {X : (Nat → Int → Int) → Prop} {S0 : Nat → Int → Int} {ws : List Int} (hP : rxPFLP S0 ws) : bx_obE rxL X S0 rxCFLP.2.2.1 (rxIFLP S0 ws) (rxPSFLP S0 ws) 1 rxzFLP_1 rxeFLP_1_0 := by
  intro S S_p r r_p hinv hX hin hsm_ hseg
  obtain ⟨I0, I1, h0_, hr_, b_, f_, d_⟩ := bx_cl (evs := []) (fvs := []) hseg (by decide +kernel) (by decide +kernel)
  have hinv : rxIFLP_1 S0 ws S (r 8) (r 9) := hinv
  rw [← hr_ 8 (by decide), ← hr_ 9 (by decide)] at hinv
  obtain ⟨⟨l8, u8⟩, ⟨l9, u9⟩, -⟩ := b_
  have w_ := d_
  subst w_
  have g := rxdFLP_1_0 hP hin hsm_ I0 I1 hinv l8 u8 l9 u9
  refine ⟨bx_narP_ok (l := []) g.1, ?_⟩
  exact g.2
theorem rxgCFLP {X : (Nat → Int → Int) → Prop} {S0 : Nat → Int → Int} {ws : List Int} (hP : rxPFLP S0 ws) : bx_allI (fun i q => rxUFLP q = true ∨ bx_allP (fun o => bx_obC rxL X S0 rxCFLP.2.2.1 (rxIFLP S0 ws) (rxmFLP S0 ws) i q.1 o) q.2.1) 0 rxYFLP := ⟨Or.inr ⟨rxgFLP_0_0 hP, trivial⟩, Or.inr ⟨rxgFLP_1_0 hP, trivial⟩, trivial⟩
theorem rxgEFLP {X : (Nat → Int → Int) → Prop} {S0 : Nat → Int → Int} {ws : List Int} (hP : rxPFLP S0 ws) : bx_allI (fun i q => rxUFLP q = true ∨ bx_allP (fun E => bx_obE rxL X S0 rxCFLP.2.2.1 (rxIFLP S0 ws) (rxPSFLP S0 ws) i q.1 E) q.2.2) 0 rxYFLP := ⟨Or.inr trivial, Or.inr ⟨rxfFLP_1_0 hP, trivial⟩, trivial⟩
theorem rxQFLP {PX : State → Prop} {Dg : va_G} {A : Nat → Prop} {ad xa : Nat → Nat} {l : Launch} {X : (Nat → Int → Int) → Prop} (hPX : rx_PXOK rxNW A PX) (hsl : ∀ s : State, PX s → ∀ o idx n : Nat, rxSl o idx = some n → ∃ tx : String, vk_R (rxNm o) idx tx (ad n) s)
    (hX : ∀ S S_p : Nat → Int → Int, X S → bx_same rxL (bx_mdl rxCFLP.2.2.1) S S_p → X S_p)
    (ih : ∀ (j2 : Nat) (ct2 : bx_Ct) (M2 : rx_Mt), ct2 ∈ rxCnE j2 → ct2.2.2.2.1 + 1 ≤ rxCFLP.2.2.2.1 → rxT.2.2.2.2.2 j2 = some M2 → bx_Con rxG rxNW rxAO PX Dg rxL X vwCl A ad l M2 ct2) : bx_ConP rxG rxNW rxAO PX Dg rxL X vwCl A ad l rxM0 rxCFLP rxPFLP rxPSFLP :=
  rxQof (xa := xa) (Cn := rxCnE) (f := 30000) (j := 0) (tab := rxYFLP) (us := rxUFLP) hPX hsl hX ih rfl rxYcFLP rxIFLP rxmFLP
    (fun S0 ws r I0 I ht0 ht as he he1 hX0 hI0 hP hs ha => by
      have e := he.symm.trans (show bx_ent0 rxNP rxCFLP.1 bx_I0 [] = some ([(0, 0), (0, 0), (0, 0), (0, 0), (0, 0), (0, 0), (0, 0), (0, 0), (0, 0)], [], [.inr (3, (0, 479)), .inr (0, (8, 0))]) from rfl)
      cases e
      subst ha
      have h0 : r 0 = 0 := hs.1
      show rxIFLP_0 S0 _ S0 (r 8)
      refine ⟨rfl, ?_⟩
      simp only [List.map_cons, List.map_nil, bx_xv_ok h0]
      rfl)
    (fun S0 ws hP => fun i q hq hus => absurd (show false = true from hus) Bool.false_ne_true) (fun S0 ws hP => rxgCFLP hP) (fun S0 ws hP => rxgEFLP hP)
noncomputable def rxCRCF : bx_Ct := ([(3, (1, 0, 0)), (0, (0, 0, 1000000)), (0, (0, 0, 5)), (0, (0, 0, 100))], none, [(11, 16), (11, 19), (1017, 0), (1018, 0), (1019, 0), (1020, 0), (1023, 0), (1061, 0)], 4, [])
noncomputable def rxIRCF_0 (S0 : Nat → Int → Int) (ws : List Int) (S : Nat → Int → Int) (se pa n : Int) : Prop := S = S0 ∧ ws = [0, se, pa, n]
noncomputable def rxmRCF_0 (S0 : Nat → Int → Int) (ws : List Int) (S : Nat → Int → Int) (se pa n : Int) : Nat := 100000
noncomputable def rxzRCF_0 : rx_Z := ([(0, 0), (0, 0), (0, 0), (0, 0), (0, 0), (0, 0), (0, 0), (0, 0), (0, 1000000), (0, 5), (0, 100)], [], [], 0, 0, 0, [(0, .inr (3, (0, 0))), (1, .inr (0, (8, 0))), (2, .inr (0, (9, 0))), (3, .inr (0, (10, 0)))], [])
noncomputable def rxIRCF_1 (S0 : Nat → Int → Int) (ws : List Int) (S : Nat → Int → Int) (se pa n : Int) : Prop := rjdSm S0 S
noncomputable def rxmRCF_1 (S0 : Nat → Int → Int) (ws : List Int) (S : Nat → Int → Int) (se pa n : Int) : Nat := 90000
noncomputable def rxzRCF_1 : rx_Z := ([(0, 0), (0, 0), (0, 0), (0, 0), (0, 0), (0, 0), (0, 0), (0, 0), (0, 1000000), (0, 5), (0, 100)], [], [], 0, 0, 14, [(0, .inr (3, (0, 0))), (1, .inr (0, (8, 0))), (2, .inr (0, (9, 0))), (3, .inr (0, (10, 0)))], [.inr (0, (9, 0)), .inr (3, (0, 1)), .inr (3, (0, 476))])
noncomputable def rxIRCF_2 (S0 : Nat → Int → Int) (ws : List Int) (S : Nat → Int → Int) (se pa n sp : Int) : Prop := rjdSm S0 S ∧ sp = 23 + 3 * pa
noncomputable def rxmRCF_2 (S0 : Nat → Int → Int) (ws : List Int) (S : Nat → Int → Int) (se pa n sp : Int) : Nat := 80000
noncomputable def rxzRCF_2 : rx_Z := ([(0, 0), (0, 0), (0, 0), (0, 0), (0, 0), (0, 0), (0, 0), (0, 0), (0, 1000000), (0, 5), (0, 100), (0, 1522)], [], [(((11, 0), 1000010), .inl none)], 0, 0, 17, [(0, .inr (3, (0, 0))), (1, .inr (0, (8, 0))), (2, .inr (0, (9, 0))), (3, .inr (0, (10, 0)))], [.inr (3, (11, 0)), .inr (3, (0, 476))])
noncomputable def rxIRCF_3 (S0 : Nat → Int → Int) (ws : List Int) (S : Nat → Int → Int) (se pa n sp : Int) : Prop := rjdSm S0 S
noncomputable def rxmRCF_3 (S0 : Nat → Int → Int) (ws : List Int) (S : Nat → Int → Int) (se pa n sp : Int) : Nat := 70000
noncomputable def rxzRCF_3 : rx_Z := ([(0, 0), (0, 0), (0, 0), (0, 0), (0, 0), (0, 0), (0, 0), (0, 0), (0, 1000000), (0, 5), (0, 100), (0, 1522)], [], [(((11, 0), 1000010), .inl none)], 0, 0, 20, [(0, .inr (3, (0, 0))), (1, .inr (0, (8, 0))), (2, .inr (0, (9, 0))), (3, .inr (0, (10, 0)))], [])
noncomputable def rxIRCF_4 (S0 : Nat → Int → Int) (ws : List Int) (S : Nat → Int → Int) (se pa n : Int) : Prop := rjdSm S0 S
noncomputable def rxmRCF_4 (S0 : Nat → Int → Int) (ws : List Int) (S : Nat → Int → Int) (se pa n : Int) : Nat := 60000
noncomputable def rxzRCF_4 : rx_Z := ([(0, 0), (0, 0), (0, 0), (0, 0), (0, 0), (0, 0), (0, 0), (0, 0), (0, 1000000), (0, 5), (0, 100)], [], [], 0, 0, 25, [(0, .inr (3, (0, 0))), (1, .inr (0, (8, 0))), (2, .inr (0, (9, 0))), (3, .inr (0, (10, 0)))], [.inr (0, (0, 0)), .inr (3, (0, 479))])
noncomputable def rxIRCF_5 (S0 : Nat → Int → Int) (ws : List Int) (S : Nat → Int → Int) (se pa n : Int) : Prop := rjdSm S0 S
noncomputable def rxmRCF_5 (S0 : Nat → Int → Int) (ws : List Int) (S : Nat → Int → Int) (se pa n : Int) : Nat := 50000
noncomputable def rxzRCF_5 : rx_Z := ([(0, 0), (0, 0), (0, 0), (0, 0), (0, 0), (0, 0), (0, 0), (0, 0), (0, 1000000), (0, 5), (0, 100)], [], [], 0, 0, 28, [(0, .inr (3, (0, 0))), (1, .inr (0, (8, 0))), (2, .inr (0, (9, 0))), (3, .inr (0, (10, 0)))], [])
noncomputable def rxIRCF_6 (S0 : Nat → Int → Int) (ws : List Int) (S : Nat → Int → Int) (pa n pe s k : Int) : Prop := rjdSm S0 S
noncomputable def rxmRCF_6 (S0 : Nat → Int → Int) (ws : List Int) (S : Nat → Int → Int) (pa n pe s k : Int) : Nat := 9 * (200 - k).toNat + 8
noncomputable def rxzRCF_6 : rx_Z := ([(0, 0), (0, 0), (0, 0), (0, 0), (0, 0), (0, 0), (0, 0), (0, 0), (0, 5), (0, 100), (1, 8), (0, 1000002), (0, 100)], [], [], 0, 0, 58, [(0, .inr (3, (0, 0))), (2, .inr (0, (8, 0))), (3, .inr (0, (9, 0))), (4, .inr (0, (10, 0))), (5, .inr (0, (11, 0))), (6, .inr (0, (12, 0)))], [])
noncomputable def rxIRCF_7 (S0 : Nat → Int → Int) (ws : List Int) (S : Nat → Int → Int) (pa n pe s k : Int) : Prop := rjdSm S0 S
noncomputable def rxmRCF_7 (S0 : Nat → Int → Int) (ws : List Int) (S : Nat → Int → Int) (pa n pe s k : Int) : Nat := 9 * (200 - k).toNat + 7
noncomputable def rxzRCF_7 : rx_Z := ([(0, 0), (0, 0), (0, 0), (0, 0), (0, 0), (0, 0), (0, 0), (0, 0), (0, 5), (0, 100), (1, 8), (0, 1000002), (0, 99)], [], [], 0, 0, 71, [(0, .inr (3, (0, 0))), (2, .inr (0, (8, 0))), (3, .inr (0, (9, 0))), (4, .inr (0, (10, 0))), (5, .inr (0, (11, 0))), (6, .inr (0, (12, 0)))], [])
noncomputable def rxIRCF_8 (S0 : Nat → Int → Int) (ws : List Int) (S : Nat → Int → Int) (pa n pe s k j : Int) : Prop := rjdSm S0 S
noncomputable def rxmRCF_8 (S0 : Nat → Int → Int) (ws : List Int) (S : Nat → Int → Int) (pa n pe s k j : Int) : Nat := 9 * (200 - k).toNat + 6
noncomputable def rxzRCF_8 : rx_Z := ([(0, 0), (0, 0), (0, 0), (0, 0), (0, 0), (0, 0), (0, 0), (0, 0), (0, 5), (0, 100), (1, 8), (0, 1000002), (0, 99), (0, 7)], [], [], 0, 0, 91, [(0, .inr (3, (0, 0))), (2, .inr (0, (8, 0))), (3, .inr (0, (9, 0))), (4, .inr (0, (10, 0))), (5, .inr (0, (11, 0))), (6, .inr (0, (12, 0))), (7, .inr (0, (13, 0)))], [])
noncomputable def rxIRCF_9 (S0 : Nat → Int → Int) (ws : List Int) (S : Nat → Int → Int) (pa n pe s k : Int) : Prop := rjdSm S0 S
noncomputable def rxmRCF_9 (S0 : Nat → Int → Int) (ws : List Int) (S : Nat → Int → Int) (pa n pe s k : Int) : Nat := 9 * (200 - k).toNat + 5
noncomputable def rxzRCF_9 : rx_Z := ([(0, 0), (0, 0), (0, 0), (0, 0), (0, 0), (0, 0), (0, 0), (0, 0), (0, 5), (0, 100), (1, 8), (0, 1000002), (0, 99)], [], [], 0, 0, 122, [(0, .inr (3, (0, 0))), (2, .inr (0, (8, 0))), (3, .inr (0, (9, 0))), (4, .inr (0, (10, 0))), (5, .inr (0, (11, 0))), (6, .inr (0, (12, 0)))], [])
noncomputable def rxIRCF_10 (S0 : Nat → Int → Int) (ws : List Int) (S : Nat → Int → Int) (pa n pe s k sl : Int) : Prop := rjdSm S0 S
noncomputable def rxmRCF_10 (S0 : Nat → Int → Int) (ws : List Int) (S : Nat → Int → Int) (pa n pe s k sl : Int) : Nat := 9 * (200 - k).toNat + 4
noncomputable def rxzRCF_10 : rx_Z := ([(0, 0), (0, 0), (0, 0), (0, 0), (0, 0), (0, 0), (0, 0), (0, 0), (0, 5), (0, 100), (1, 8), (0, 1000002), (0, 99), (0, 300)], [], [], 0, 0, 134, [(0, .inr (3, (0, 0))), (2, .inr (0, (8, 0))), (3, .inr (0, (9, 0))), (4, .inr (0, (10, 0))), (5, .inr (0, (11, 0))), (6, .inr (0, (12, 0)))], [.inr (0, (13, 0)), .inr (0, (11, 0)), .inr (3, (0, 0))])
noncomputable def rxIRCF_11 (S0 : Nat → Int → Int) (ws : List Int) (S : Nat → Int → Int) (pa n pe s k sl s2 : Int) : Prop := rjdSm S0 S
noncomputable def rxmRCF_11 (S0 : Nat → Int → Int) (ws : List Int) (S : Nat → Int → Int) (pa n pe s k sl s2 : Int) : Nat := 9 * (200 - k).toNat + 3
noncomputable def rxzRCF_11 : rx_Z := ([(0, 0), (0, 0), (0, 0), (0, 0), (0, 0), (0, 0), (0, 0), (0, 0), (0, 5), (0, 100), (1, 8), (0, 1000002), (0, 99), (0, 300), (0, 1000002)], [], [], 0, 0, 137, [(0, .inr (3, (0, 0))), (2, .inr (0, (8, 0))), (3, .inr (0, (9, 0))), (4, .inr (0, (10, 0))), (5, .inr (0, (11, 0))), (6, .inr (0, (12, 0)))], [.inr (0, (14, 0))])
noncomputable def rxoRCF_0_0 : bx_HO := (([(0, 0), (0, 0), (0, 0), (0, 0), (0, 0), (0, 0), (0, 0), (0, 0), (0, 1000000), (0, 5), (0, 100)], [], [(((0, 0), 0), .inr (3, (0, 1))), (((0, 0), 17), .inr (3, (0, 476))), (((0, 0), 1851192626986356800635647638965429050492161446287407234414542851000000), .inr (0, (0, 1))), (((0, 0), 16), .inr (0, (0, 1)))], 0, 0, 14, [(0, .inr (3, (0, 0))), (1, .inr (0, (8, 0))), (2, .inr (0, (9, 0))), (3, .inr (0, (10, 0)))], [.inr (0, (9, 0)), .inr (3, (0, 1)), .inr (3, (0, 476))]), [], [], [(0, 0), (0, 0), (0, 0), (0, 0), (0, 0), (0, 0), (0, 0), (0, 0), (8, 0), (9, 0), (10, 0)], 1)
noncomputable def rxoRCF_3_0 : bx_HO := (([(0, 0), (0, 0), (0, 0), (0, 0), (0, 0), (0, 0), (0, 0), (0, 0), (0, 1000000), (0, 5), (0, 100), (0, 1522)], [], [(((0, 0), 18), .inr (3, (0, 479))), (((11, 0), 1000010), .inl none)], 0, 0, 25, [(0, .inr (3, (0, 0))), (1, .inr (0, (8, 0))), (2, .inr (0, (9, 0))), (3, .inr (0, (10, 0)))], [.inr (0, (0, 0)), .inr (3, (0, 479))]), [], [], [(0, 0), (0, 0), (0, 0), (0, 0), (0, 0), (0, 0), (0, 0), (0, 0), (8, 0), (9, 0), (10, 0)], 4)
noncomputable def rxoRCF_5_0 : bx_HO := (([(0, 0), (0, 0), (0, 0), (0, 0), (0, 0), (0, 0), (0, 0), (0, 0), (0, 1000000), (0, 5), (0, 100), (1, 8)], [], [(((0, 0), 1851192626986356801237767759325755875313625839648912995076014083000000), .inr (0, (11, 0))), (((0, 0), 19), .inr (0, (11, 0))), (((0, 0), 1851192626986356797424340330377019318111018015026043177556312064000000), .inr (0, (11, 0))), (((0, 5), 0), .inr (0, (11, 0))), (((0, 1), 4), .inr (3, (0, 5))), (((0, 0), 0), .inr (3, (0, 1)))], 0, 0, 58, [(6, .inr (0, (0, 0))), (5, .inr (0, (8, 0))), (4, .inr (0, (11, 0))), (0, .inr (3, (0, 0))), (1, .inr (0, (8, 0))), (2, .inr (0, (9, 0))), (3, .inr (0, (10, 0)))], []), [], [], [(0, 0), (0, 0), (0, 0), (0, 0), (0, 0), (0, 0), (0, 0), (0, 0), (9, 0), (10, 0), (11, 0), (8, 0), (0, 0)], 6)
noncomputable def rxeRCF_5_0 : rx_End × List (Nat × Int × Int) := (([(0, 0), (0, 0), (0, 0), (0, 0), (0, 0), (0, 0), (0, 0), (0, 0), (0, 1000000), (0, 5), (0, 100), (0, 0)], [], [(((0, 0), 1851192626986356801237767759325755875313625839648912995076014083000000), .inr (0, (11, 0))), (((0, 0), 19), .inr (0, (11, 0))), (((0, 0), 1851192626986356797424340330377019318111018015026043177556312064000000), .inr (0, (11, 0))), (((0, 5), 0), .inr (0, (11, 0))), (((0, 1), 4), .inr (3, (0, 5))), (((0, 0), 0), .inr (3, (0, 1)))], none), [])
noncomputable def rxoRCF_6_0 : bx_HO := (([(0, 0), (0, 0), (0, 0), (0, 0), (0, 0), (0, 0), (0, 0), (0, 0), (0, 5), (1, 100), (1, 8), (0, 1000002), (0, 99), (0, 1103002206), (0, 1000002)], [(1107, (13, 0), (11, 0)), (0, (12, 0), (9, 0))], [], 0, 0, 71, [(5, .inr (0, (14, 0))), (0, .inr (3, (0, 0))), (2, .inr (0, (8, 0))), (3, .inr (0, (9, 0))), (4, .inr (0, (10, 0))), (6, .inr (0, (12, 0)))], []), [], [], [(0, 0), (0, 0), (0, 0), (0, 0), (0, 0), (0, 0), (0, 0), (0, 0), (8, 0), (9, 0), (10, 0), (14, 0), (12, 0)], 7)
noncomputable def rxeRCF_6_0 : rx_End × List (Nat × Int × Int) := (([(0, 0), (0, 0), (0, 0), (0, 0), (0, 0), (0, 0), (0, 0), (0, 0), (0, 5), (0, 100), (1, 8), (0, 1000002), (0, 100)], [(1, (9, 0), (12, 0))], [], none), [])
noncomputable def rxoRCF_7_0 : bx_HO := (([(0, 0), (0, 0), (0, 0), (0, 0), (0, 0), (0, 0), (0, 0), (0, 0), (0, 5), (0, 100), (1, 8), (0, 1000002), (0, 99), (0, 7)], [], [], 0, 0, 91, [(7, .inr (0, (13, 0))), (0, .inr (3, (0, 0))), (2, .inr (0, (8, 0))), (3, .inr (0, (9, 0))), (4, .inr (0, (10, 0))), (5, .inr (0, (11, 0))), (6, .inr (0, (12, 0)))], []), [], [], [(0, 0), (0, 0), (0, 0), (0, 0), (0, 0), (0, 0), (0, 0), (0, 0), (8, 0), (9, 0), (10, 0), (11, 0), (12, 0), (13, 0)], 8)
noncomputable def rxoRCF_8_0 : bx_HO := (([(0, 0), (0, 0), (0, 0), (0, 0), (0, 0), (0, 0), (0, 0), (0, 0), (0, 5), (0, 100), (1, 8), (0, 1000002), (0, 99), (0, 7), ((-2147483648), 2147483647), ((-2147483648), 2147483647), (0, 300)], [], [(((0, 0), 915300006000000), .inl none), (((0, 0), 916200006000000), .inl none), (((0, 0), 920700006000000), .inl none), (((0, 0), 89999100006000000), .inl none), (((0, 0), 1851192626986356797424340330377019318111018015026043177564569600000000), .inr (0, (16, 0))), (((0, 19), 0), .inr (0, (16, 0))), (((0, 1), 13), .inr (3, (0, 19))), (((0, 0), 0), .inr (3, (0, 1))), (((0, 0), 1851192626986356797424380143413949067911243229855112694716628995000000), .inr (0, (15, 0))), (((0, 0), 1851192626986356797424380143413949067911243229855112694716628992000000), .inr (0, (14, 0))), (((0, 0), 18), .inr (3, (0, 479)))], 0, 0, 122, [(0, .inr (3, (0, 0))), (2, .inr (0, (8, 0))), (3, .inr (0, (9, 0))), (4, .inr (0, (10, 0))), (5, .inr (0, (11, 0))), (6, .inr (0, (12, 0))), (7, .inr (0, (13, 0)))], []), [], [], [(0, 0), (0, 0), (0, 0), (0, 0), (0, 0), (0, 0), (0, 0), (0, 0), (8, 0), (9, 0), (10, 0), (11, 0), (12, 0)], 9)
noncomputable def rxoRCF_9_0 : bx_HO := (([(0, 0), (0, 0), (0, 0), (0, 0), (0, 0), (0, 0), (0, 0), (0, 0), (0, 5), (0, 100), (1, 8), (0, 1000002), (0, 99), (0, 300)], [], [(((0, 0), 1851192626986356797424340330377019318111018015026043177565749248000000), .inr (0, (13, 0))), (((0, 21), 0), .inr (0, (13, 0))), (((0, 1), 17), .inr (3, (0, 21))), (((0, 0), 0), .inr (3, (0, 1)))], 0, 0, 134, [(0, .inr (3, (0, 0))), (2, .inr (0, (8, 0))), (3, .inr (0, (9, 0))), (4, .inr (0, (10, 0))), (5, .inr (0, (11, 0))), (6, .inr (0, (12, 0)))], [.inr (0, (13, 0)), .inr (0, (11, 0)), .inr (3, (0, 0))]), [], [], [(0, 0), (0, 0), (0, 0), (0, 0), (0, 0), (0, 0), (0, 0), (0, 0), (8, 0), (9, 0), (10, 0), (11, 0), (12, 0), (13, 0)], 10)
noncomputable def rxoRCF_11_0 : bx_HO := (([(0, 0), (0, 0), (0, 0), (0, 0), (0, 0), (0, 0), (0, 0), (0, 0), (0, 5), (0, 100), (1, 8), (0, 1000002), (0, 99), (0, 300), (0, 1000002)], [], [], 0, 0, 58, [(6, .inr (0, (12, 1))), (5, .inr (0, (14, 0))), (0, .inr (3, (0, 0))), (2, .inr (0, (8, 0))), (3, .inr (0, (9, 0))), (4, .inr (0, (10, 0)))], []), [], [], [(0, 0), (0, 0), (0, 0), (0, 0), (0, 0), (0, 0), (0, 0), (0, 0), (8, 0), (9, 0), (10, 0), (14, 0), (12, 1)], 6)
noncomputable def rxYRCF : List bx_HE := [(rxzRCF_0, [rxoRCF_0_0], []), (rxzRCF_1, [], []), (rxzRCF_2, [], []), (rxzRCF_3, [rxoRCF_3_0], []), (rxzRCF_4, [], []), (rxzRCF_5, [rxoRCF_5_0], [rxeRCF_5_0]), (rxzRCF_6, [rxoRCF_6_0], [rxeRCF_6_0]), (rxzRCF_7, [rxoRCF_7_0], []), (rxzRCF_8, [rxoRCF_8_0], []), (rxzRCF_9, [rxoRCF_9_0], []), (rxzRCF_10, [], []), (rxzRCF_11, [rxoRCF_11_0], [])]
noncomputable def rxURCF (q : bx_HE) : Bool := Nat.beq (rx_zpc q.1) 14 || Nat.beq (rx_zpc q.1) 17 || Nat.beq (rx_zpc q.1) 25 || Nat.beq (rx_zpc q.1) 134
noncomputable def rxYBRCF : bx_B := (rxV, rxNP, rxDmf, bx_mdH rxCRCF.2.2.1)
set_option maxRecDepth 100000 in
theorem rxYcRCF : bx_chkH rxYBRCF rxM151 rxCRCF rxYRCF (rxURCF, fun cut z => rx_ex2 (rxCT rxYBRCF rxCn) cut 30000 rxCRCF.2.2.2.1 151 z) = true := by decide +kernel
noncomputable def rxIRCF (S0 : Nat → Int → Int) (ws : List Int) (i : Nat) : bx_SP := fun S r => match i with | 0 => rxIRCF_0 S0 ws S (r 8) (r 9) (r 10) | 1 => rxIRCF_1 S0 ws S (r 8) (r 9) (r 10) | 2 => rxIRCF_2 S0 ws S (r 8) (r 9) (r 10) (r 11) | 3 => rxIRCF_3 S0 ws S (r 8) (r 9) (r 10) (r 11) | 4 => rxIRCF_4 S0 ws S (r 8) (r 9) (r 10) | 5 => rxIRCF_5 S0 ws S (r 8) (r 9) (r 10) | 6 => rxIRCF_6 S0 ws S (r 8) (r 9) (r 10) (r 11) (r 12) | 7 => rxIRCF_7 S0 ws S (r 8) (r 9) (r 10) (r 11) (r 12) | 8 => rxIRCF_8 S0 ws S (r 8) (r 9) (r 10) (r 11) (r 12) (r 13) | 9 => rxIRCF_9 S0 ws S (r 8) (r 9) (r 10) (r 11) (r 12) | 10 => rxIRCF_10 S0 ws S (r 8) (r 9) (r 10) (r 11) (r 12) (r 13) | 11 => rxIRCF_11 S0 ws S (r 8) (r 9) (r 10) (r 11) (r 12) (r 13) (r 14) | _ => False
noncomputable def rxmRCF (S0 : Nat → Int → Int) (ws : List Int) (i : Nat) (S : Nat → Int → Int) (r : Nat → Int) : Nat := match i with | 0 => rxmRCF_0 S0 ws S (r 8) (r 9) (r 10) | 1 => rxmRCF_1 S0 ws S (r 8) (r 9) (r 10) | 2 => rxmRCF_2 S0 ws S (r 8) (r 9) (r 10) (r 11) | 3 => rxmRCF_3 S0 ws S (r 8) (r 9) (r 10) (r 11) | 4 => rxmRCF_4 S0 ws S (r 8) (r 9) (r 10) | 5 => rxmRCF_5 S0 ws S (r 8) (r 9) (r 10) | 6 => rxmRCF_6 S0 ws S (r 8) (r 9) (r 10) (r 11) (r 12) | 7 => rxmRCF_7 S0 ws S (r 8) (r 9) (r 10) (r 11) (r 12) | 8 => rxmRCF_8 S0 ws S (r 8) (r 9) (r 10) (r 11) (r 12) (r 13) | 9 => rxmRCF_9 S0 ws S (r 8) (r 9) (r 10) (r 11) (r 12) | 10 => rxmRCF_10 S0 ws S (r 8) (r 9) (r 10) (r 11) (r 12) (r 13) | 11 => rxmRCF_11 S0 ws S (r 8) (r 9) (r 10) (r 11) (r 12) (r 13) (r 14) | _ => 0
noncomputable def rxPRCF (S0 : Nat → Int → Int) (ws : List Int) : Prop := rkPl S0 ∧ rkDu S0
noncomputable def rxPSRCF (S0 : Nat → Int → Int) (ws : List Int) (S : Nat → Int → Int) (w : Option Int) : Prop := w = none ∧ rjdSm S0 S
theorem rxkRCF_1 {S0 : Nat → Int → Int} {ws : List Int} {S : Nat → Int → Int} {se pa n : Int} (hP : rxPRCF S0 ws) (hin : bx_same rxL (bx_mdl rxCRCF.2.2.1) S0 S) (I0 : bx_Inv rxL S) (hinv : rxIRCF_1 S0 ws S se pa n) (l8 : 0 ≤ se) (u8 : se ≤ 1000000) (l9 : 0 ≤ pa) (u9 : pa ≤ 5) (l10 : 0 ≤ n) (u10 : n ≤ 100) : rxPSOP S [1, pa] ∧ ∀ (S_p : Nat → Int → Int) (sp : Int), 0 ≤ sp → sp ≤ 1522 → rxPSSOP S [1, pa] S_p (some sp) → bx_Inv rxL S_p → bx_same rxL (bx_mdl rxCSOP.2.2.1) S S_p → rxIRCF_2 S0 ws S_p se pa n sp ∧ rxmRCF_2 S0 ws S_p se pa n sp < rxmRCF_1 S0 ws S se pa n := by
  have hf : rjdSm S0 S := hinv
  have hpl : rkPl S := rkPl_sm hin (by decide +kernel) hP.1
  refine ⟨trivial, fun S_p sp _ _ hq _ hsm => ⟨?_, by unfold rxmRCF_1 rxmRCF_2; omega⟩⟩
  obtain ⟨hS, k2, hw3, hv2⟩ := hq
  subst hS
  have k1 : pa = k2 := Option.some.inj (congrArg (fun l : List Int => l[1]?) hw3)
  subst k1
  obtain ⟨z4, -⟩ := hpl.2.1.1 pa.toNat (by omega)
  rw [Int.toNat_of_nonneg (show 0 ≤ pa by omega)] at z4
  exact ⟨hf, (Option.some.inj hv2).trans (z4.trans (by omega))⟩
theorem rxsRCF_1 {X : (Nat → Int → Int) → Prop} {S0 : Nat → Int → Int} {ws : List Int} (hP : rxPRCF S0 ws) : rx_obK X S0 rxCRCF.2.2.1 rxCSOP.2.2.1 (rxIRCF S0 ws) (rxmRCF S0 ws) 1 2 rxzRCF_1 rxzRCF_2 [.inr (3, (0, 1)), .inr (0, (9, 0))] (some 11) rxPSOP rxPSSOP := by
  intro S r hinv hXS I0 hin hs_ hf_
  have b_ := bx_bds_sat hs_
  have f_ := bx_fcl_ok hs_.1 hf_
  obtain ⟨⟨l8, u8⟩, ⟨l9, u9⟩, ⟨l10, u10⟩, -⟩ := b_
  have g := rxkRCF_1 hP hin I0 hinv l8 u8 l9 u9 l10 u10
  have ea : List.map (bx_num r) [.inr (3, (0, 1)), .inr (0, (9, 0))] = [1, (r 9)] := by
    simp only [List.map_cons, List.map_nil, bx_xv_ok hs_.1]
    rfl
  rw [ea]
  refine ⟨g.1, fun S_p w r_p hPS hX_p I1 hsm hr hw hs_p => ?_⟩
  have hw := hw _ rfl
  subst hw
  have b_p := hs_p.2.2 11 _ _ rfl
  have g2 := g.2 S_p (r_p 11) b_p.1 b_p.2 hPS I1 hsm
  show rxIRCF_2 S0 ws S_p (r_p 8) (r_p 9) (r_p 10) (r_p 11) ∧ rxmRCF_2 S0 ws S_p (r_p 8) (r_p 9) (r_p 10) (r_p 11) < _
  rw [hr 8 (by decide), hr 9 (by decide), hr 10 (by decide)]
  exact g2
theorem rxkRCF_2 {S0 : Nat → Int → Int} {ws : List Int} {S : Nat → Int → Int} {se pa n sp : Int} (hP : rxPRCF S0 ws) (hin : bx_same rxL (bx_mdl rxCRCF.2.2.1) S0 S) (I0 : bx_Inv rxL S) (hinv : rxIRCF_2 S0 ws S se pa n sp) (l8 : 0 ≤ se) (u8 : se ≤ 1000000) (l9 : 0 ≤ pa) (u9 : pa ≤ 5) (l10 : 0 ≤ n) (u10 : n ≤ 100) (l11 : 0 ≤ sp) (u11 : sp ≤ 1522) : rxPSCZ S [476, sp] ∧ ∀ (S_p : Nat → Int → Int), rxPSSCZ S [476, sp] S_p none → bx_Inv rxL S_p → bx_same rxL (bx_mdl rxCSCZ.2.2.1) S S_p → rxIRCF_3 S0 ws S_p se pa n sp ∧ rxmRCF_3 S0 ws S_p se pa n sp < rxmRCF_2 S0 ws S se pa n sp := by
  obtain ⟨hf, hsp⟩ := hinv
  have hpl : rkPl S := rkPl_sm hin (by decide +kernel) hP.1
  have hdu := rkDu_sm hin (by decide +kernel) hP.2
  rw [hsp]
  refine ⟨rjd_cd (t := 476) hpl (by decide) hdu.2.2 (by decide) (by omega) (by omega), fun S_p hq _ hsm => ⟨?_, by unfold rxmRCF_2 rxmRCF_3; omega⟩⟩
  obtain ⟨-, hfr⟩ := rjd_sd (t := 476) (by omega) hq.2
  exact rjdSm_t hf fun p t a b c => hfr p t (by omega) (by omega)
theorem rxsRCF_2 {X : (Nat → Int → Int) → Prop} {S0 : Nat → Int → Int} {ws : List Int} (hP : rxPRCF S0 ws) : rx_obK X S0 rxCRCF.2.2.1 rxCSCZ.2.2.1 (rxIRCF S0 ws) (rxmRCF S0 ws) 2 3 rxzRCF_2 rxzRCF_3 [.inr (3, (0, 476)), .inr (3, (11, 0))] none rxPSCZ rxPSSCZ := by
  intro S r hinv hXS I0 hin hs_ hf_
  have b_ := bx_bds_sat hs_
  have f_ := bx_fcl_ok hs_.1 hf_
  obtain ⟨⟨l8, u8⟩, ⟨l9, u9⟩, ⟨l10, u10⟩, ⟨l11, u11⟩, -⟩ := b_
  have g := rxkRCF_2 hP hin I0 hinv l8 u8 l9 u9 l10 u10 l11 u11
  have ea : List.map (bx_num r) [.inr (3, (0, 476)), .inr (3, (11, 0))] = [476, (r 11)] := by
    simp only [List.map_cons, List.map_nil, bx_xv_ok hs_.1]
    rfl
  rw [ea]
  refine ⟨g.1, fun S_p w r_p hPS hX_p I1 hsm hr hw hs_p => ?_⟩
  have hw : w = none := hPS.1
  subst hw
  have g2 := g.2 S_p hPS I1 hsm
  show rxIRCF_3 S0 ws S_p (r_p 8) (r_p 9) (r_p 10) (r_p 11) ∧ rxmRCF_3 S0 ws S_p (r_p 8) (r_p 9) (r_p 10) (r_p 11) < _
  rw [hr 8 (by decide), hr 9 (by decide), hr 10 (by decide), hr 11 (by decide)]
  exact g2
theorem rxkRCF_4 {S0 : Nat → Int → Int} {ws : List Int} {S : Nat → Int → Int} {se pa n : Int} (hP : rxPRCF S0 ws) (hin : bx_same rxL (bx_mdl rxCRCF.2.2.1) S0 S) (I0 : bx_Inv rxL S) (hinv : rxIRCF_4 S0 ws S se pa n) (l8 : 0 ≤ se) (u8 : se ≤ 1000000) (l9 : 0 ≤ pa) (u9 : pa ≤ 5) (l10 : 0 ≤ n) (u10 : n ≤ 100) : rxPFLP S [479, 0] ∧ ∀ (S_p : Nat → Int → Int), rxPSFLP S [479, 0] S_p none → bx_Inv rxL S_p → bx_same rxL (bx_mdl rxCFLP.2.2.1) S S_p → rxIRCF_5 S0 ws S_p se pa n ∧ rxmRCF_5 S0 ws S_p se pa n < rxmRCF_4 S0 ws S se pa n := by
  have hf : rjdSm S0 S := hinv
  exact ⟨trivial, fun S_p hq _ hsm => ⟨rjdSm_t hf (fun p t a b c => hq.2 p t (by omega)), by unfold rxmRCF_4 rxmRCF_5; omega⟩⟩
theorem rxsRCF_4 {X : (Nat → Int → Int) → Prop} {S0 : Nat → Int → Int} {ws : List Int} (hP : rxPRCF S0 ws) : rx_obK X S0 rxCRCF.2.2.1 rxCFLP.2.2.1 (rxIRCF S0 ws) (rxmRCF S0 ws) 4 5 rxzRCF_4 rxzRCF_5 [.inr (3, (0, 479)), .inr (0, (0, 0))] none rxPFLP rxPSFLP := by
  intro S r hinv hXS I0 hin hs_ hf_
  have b_ := bx_bds_sat hs_
  have f_ := bx_fcl_ok hs_.1 hf_
  obtain ⟨⟨l8, u8⟩, ⟨l9, u9⟩, ⟨l10, u10⟩, -⟩ := b_
  have g := rxkRCF_4 hP hin I0 hinv l8 u8 l9 u9 l10 u10
  have ea : List.map (bx_num r) [.inr (3, (0, 479)), .inr (0, (0, 0))] = [479, 0] := by
    simp only [List.map_cons, List.map_nil, bx_xv_ok hs_.1]
    rfl
  rw [ea]
  refine ⟨g.1, fun S_p w r_p hPS hX_p I1 hsm hr hw hs_p => ?_⟩
  have hw : w = none := hPS.1
  subst hw
  have g2 := g.2 S_p hPS I1 hsm
  show rxIRCF_5 S0 ws S_p (r_p 8) (r_p 9) (r_p 10) ∧ rxmRCF_5 S0 ws S_p (r_p 8) (r_p 9) (r_p 10) < _
  rw [hr 8 (by decide), hr 9 (by decide), hr 10 (by decide)]
  exact g2
theorem rxkRCF_10 {S0 : Nat → Int → Int} {ws : List Int} {S : Nat → Int → Int} {pa n pe s k sl : Int} (hP : rxPRCF S0 ws) (hin : bx_same rxL (bx_mdl rxCRCF.2.2.1) S0 S) (I0 : bx_Inv rxL S) (hinv : rxIRCF_10 S0 ws S pa n pe s k sl) (l8 : 0 ≤ pa) (u8 : pa ≤ 5) (l9 : 0 ≤ n) (u9 : n ≤ 100) (l10 : 1 ≤ pe) (u10 : pe ≤ 8) (l11 : 0 ≤ s) (u11 : s ≤ 1000002) (l12 : 0 ≤ k) (u12 : k ≤ 99) (l13 : 0 ≤ sl) (u13 : sl ≤ 300) : rxPSBF S [0, s, sl] ∧ ∀ (S_p : Nat → Int → Int) (s2 : Int), 0 ≤ s2 → s2 ≤ 1000002 → rxPSSBF S [0, s, sl] S_p (some s2) → bx_Inv rxL S_p → bx_same rxL (bx_mdl rxCSBF.2.2.1) S S_p → rxIRCF_11 S0 ws S_p pa n pe s k sl s2 ∧ rxmRCF_11 S0 ws S_p pa n pe s k sl s2 < rxmRCF_10 S0 ws S pa n pe s k sl := by
  have hf : rjdSm S0 S := hinv
  exact ⟨rkDu_sm hin (by decide +kernel) hP.2, fun S_p s2 _ _ hq _ hsm => ⟨rjdSm_t hf hq, by unfold rxmRCF_10 rxmRCF_11; omega⟩⟩
theorem rxsRCF_10 {X : (Nat → Int → Int) → Prop} {S0 : Nat → Int → Int} {ws : List Int} (hP : rxPRCF S0 ws) : rx_obK X S0 rxCRCF.2.2.1 rxCSBF.2.2.1 (rxIRCF S0 ws) (rxmRCF S0 ws) 10 11 rxzRCF_10 rxzRCF_11 [.inr (3, (0, 0)), .inr (0, (11, 0)), .inr (0, (13, 0))] (some 14) rxPSBF rxPSSBF := by
  intro S r hinv hXS I0 hin hs_ hf_
  have b_ := bx_bds_sat hs_
  have f_ := bx_fcl_ok hs_.1 hf_
  obtain ⟨⟨l8, u8⟩, ⟨l9, u9⟩, ⟨l10, u10⟩, ⟨l11, u11⟩, ⟨l12, u12⟩, ⟨l13, u13⟩, -⟩ := b_
  have g := rxkRCF_10 hP hin I0 hinv l8 u8 l9 u9 l10 u10 l11 u11 l12 u12 l13 u13
  have ea : List.map (bx_num r) [.inr (3, (0, 0)), .inr (0, (11, 0)), .inr (0, (13, 0))] = [0, (r 11), (r 13)] := by
    simp only [List.map_cons, List.map_nil, bx_xv_ok hs_.1]
    rfl
  rw [ea]
  refine ⟨g.1, fun S_p w r_p hPS hX_p I1 hsm hr hw hs_p => ?_⟩
  have hw := hw _ rfl
  subst hw
  have b_p := hs_p.2.2 14 _ _ rfl
  have g2 := g.2 S_p (r_p 14) b_p.1 b_p.2 hPS I1 hsm
  show rxIRCF_11 S0 ws S_p (r_p 8) (r_p 9) (r_p 10) (r_p 11) (r_p 12) (r_p 13) (r_p 14) ∧ rxmRCF_11 S0 ws S_p (r_p 8) (r_p 9) (r_p 10) (r_p 11) (r_p 12) (r_p 13) (r_p 14) < _
  rw [hr 8 (by decide), hr 9 (by decide), hr 10 (by decide), hr 11 (by decide), hr 12 (by decide), hr 13 (by decide)]
  exact g2
theorem rxcRCF_0_0 {S0 : Nat → Int → Int} {ws : List Int} {S : Nat → Int → Int} {se pa n : Int} (hP : rxPRCF S0 ws) (hin : bx_same rxL (bx_mdl rxCRCF.2.2.1) S0 S) (I0 : bx_Inv rxL S) (hinv : rxIRCF_0 S0 ws S se pa n) (l8 : 0 ≤ se) (u8 : se ≤ 1000000) (l9 : 0 ≤ pa) (u9 : pa ≤ 5) (l10 : 0 ≤ n) (u10 : n ≤ 100) : (True) ∧ (True) ∧ rxIRCF_1 S0 ws (bx_up S 0 16 1) se pa n ∧ rxmRCF_1 S0 ws (bx_up S 0 16 1) se pa n < rxmRCF_0 S0 ws S se pa n := by
  obtain ⟨rfl, hw⟩ := hinv
  exact ⟨trivial, trivial, (fun p t a b c => bx_up_ne (by omega)), by unfold rxmRCF_0 rxmRCF_1; omega⟩
theorem rxgRCF_0_0 {X : (Nat → Int → Int) → Prop} {S0 : Nat → Int → Int} {ws : List Int} (hP : rxPRCF S0 ws) : bx_obC rxL X S0 rxCRCF.2.2.1 (rxIRCF S0 ws) (rxmRCF S0 ws) 0 rxzRCF_0 rxoRCF_0_0 := by
  intro S S_p r r_p hinv hX hin hsm_ hseg
  obtain ⟨I0, I1, h0_, hr_, b_, f_, d_⟩ := bx_cl (evs := [(1, (0, 0), (0, 16), .inr (0, (0, 1)))]) (fvs := []) hseg (by decide +kernel) (by decide +kernel)
  have hinv : rxIRCF_0 S0 ws S (r 8) (r 9) (r 10) := hinv
  rw [← hr_ 8 (by decide), ← hr_ 9 (by decide), ← hr_ 10 (by decide)] at hinv
  obtain ⟨⟨l8, u8⟩, ⟨l9, u9⟩, ⟨l10, u10⟩, -⟩ := b_
  obtain ⟨T0, w_, w0⟩ := d_
  subst w0
  subst w_
  have g := rxcRCF_0_0 hP hin I0 hinv l8 u8 l9 u9 l10 u10
  refine ⟨bx_narP_ok (l := []) g.1, bx_nfP_ok h0_ (fvs := []) (by decide +kernel) g.2.1, ?_, ?_⟩
  · show rxIRCF_1 S0 ws (bx_up T0 0 (16) (1)) (bx_val [(0, 0), (0, 0), (0, 0), (0, 0), (0, 0), (0, 0), (0, 0), (0, 0), (8, 0), (9, 0), (10, 0)] r_p 8) (bx_val [(0, 0), (0, 0), (0, 0), (0, 0), (0, 0), (0, 0), (0, 0), (0, 0), (8, 0), (9, 0), (10, 0)] r_p 9) (bx_val [(0, 0), (0, 0), (0, 0), (0, 0), (0, 0), (0, 0), (0, 0), (0, 0), (8, 0), (9, 0), (10, 0)] r_p 10)
    rw [bx_val_x (n := 8) (e := (8, 0)) h0_ rfl, bx_val_x (n := 9) (e := (9, 0)) h0_ rfl, bx_val_x (n := 10) (e := (10, 0)) h0_ rfl]
    exact g.2.2.1
  · show rxmRCF_1 S0 ws (bx_up T0 0 (16) (1)) (bx_val [(0, 0), (0, 0), (0, 0), (0, 0), (0, 0), (0, 0), (0, 0), (0, 0), (8, 0), (9, 0), (10, 0)] r_p 8) (bx_val [(0, 0), (0, 0), (0, 0), (0, 0), (0, 0), (0, 0), (0, 0), (0, 0), (8, 0), (9, 0), (10, 0)] r_p 9) (bx_val [(0, 0), (0, 0), (0, 0), (0, 0), (0, 0), (0, 0), (0, 0), (0, 0), (8, 0), (9, 0), (10, 0)] r_p 10) < rxmRCF_0 S0 ws T0 (r 8) (r 9) (r 10)
    rw [bx_val_x (n := 8) (e := (8, 0)) h0_ rfl, bx_val_x (n := 9) (e := (9, 0)) h0_ rfl, bx_val_x (n := 10) (e := (10, 0)) h0_ rfl, ← hr_ 8 (by decide), ← hr_ 9 (by decide), ← hr_ 10 (by decide)]
    exact g.2.2.2
theorem rxcRCF_3_0 {S0 : Nat → Int → Int} {ws : List Int} {S : Nat → Int → Int} {se pa n sp : Int} (hP : rxPRCF S0 ws) (hin : bx_same rxL (bx_mdl rxCRCF.2.2.1) S0 S) (I0 : bx_Inv rxL S) (hinv : rxIRCF_3 S0 ws S se pa n sp) (l8 : 0 ≤ se) (u8 : se ≤ 1000000) (l9 : 0 ≤ pa) (u9 : pa ≤ 5) (l10 : 0 ≤ n) (u10 : n ≤ 100) (l11 : 0 ≤ sp) (u11 : sp ≤ 1522) : (True) ∧ (True) ∧ rxIRCF_4 S0 ws S se pa n ∧ rxmRCF_4 S0 ws S se pa n < rxmRCF_3 S0 ws S se pa n sp := by
  have hf : rjdSm S0 S := hinv
  exact ⟨trivial, trivial, rjdSm_t hf rjdSm_r, by unfold rxmRCF_3 rxmRCF_4; omega⟩
theorem rxgRCF_3_0 {X : (Nat → Int → Int) → Prop} {S0 : Nat → Int → Int} {ws : List Int} (hP : rxPRCF S0 ws) : bx_obC rxL X S0 rxCRCF.2.2.1 (rxIRCF S0 ws) (rxmRCF S0 ws) 3 rxzRCF_3 rxoRCF_3_0 := by
  intro S S_p r r_p hinv hX hin hsm_ hseg
  obtain ⟨I0, I1, h0_, hr_, b_, f_, d_⟩ := bx_cl (evs := []) (fvs := []) hseg (by decide +kernel) (by decide +kernel)
  have hinv : rxIRCF_3 S0 ws S (r 8) (r 9) (r 10) (r 11) := hinv
  rw [← hr_ 8 (by decide), ← hr_ 9 (by decide), ← hr_ 10 (by decide), ← hr_ 11 (by decide)] at hinv
  obtain ⟨⟨l8, u8⟩, ⟨l9, u9⟩, ⟨l10, u10⟩, ⟨l11, u11⟩, -⟩ := b_
  have w_ := d_
  subst w_
  have g := rxcRCF_3_0 hP hin I0 hinv l8 u8 l9 u9 l10 u10 l11 u11
  refine ⟨bx_narP_ok (l := []) g.1, bx_nfP_ok h0_ (fvs := []) (by decide +kernel) g.2.1, ?_, ?_⟩
  · show rxIRCF_4 S0 ws S_p (bx_val [(0, 0), (0, 0), (0, 0), (0, 0), (0, 0), (0, 0), (0, 0), (0, 0), (8, 0), (9, 0), (10, 0)] r_p 8) (bx_val [(0, 0), (0, 0), (0, 0), (0, 0), (0, 0), (0, 0), (0, 0), (0, 0), (8, 0), (9, 0), (10, 0)] r_p 9) (bx_val [(0, 0), (0, 0), (0, 0), (0, 0), (0, 0), (0, 0), (0, 0), (0, 0), (8, 0), (9, 0), (10, 0)] r_p 10)
    rw [bx_val_x (n := 8) (e := (8, 0)) h0_ rfl, bx_val_x (n := 9) (e := (9, 0)) h0_ rfl, bx_val_x (n := 10) (e := (10, 0)) h0_ rfl]
    exact g.2.2.1
  · show rxmRCF_4 S0 ws S_p (bx_val [(0, 0), (0, 0), (0, 0), (0, 0), (0, 0), (0, 0), (0, 0), (0, 0), (8, 0), (9, 0), (10, 0)] r_p 8) (bx_val [(0, 0), (0, 0), (0, 0), (0, 0), (0, 0), (0, 0), (0, 0), (0, 0), (8, 0), (9, 0), (10, 0)] r_p 9) (bx_val [(0, 0), (0, 0), (0, 0), (0, 0), (0, 0), (0, 0), (0, 0), (0, 0), (8, 0), (9, 0), (10, 0)] r_p 10) < rxmRCF_3 S0 ws S_p (r 8) (r 9) (r 10) (r 11)
    rw [bx_val_x (n := 8) (e := (8, 0)) h0_ rfl, bx_val_x (n := 9) (e := (9, 0)) h0_ rfl, bx_val_x (n := 10) (e := (10, 0)) h0_ rfl, ← hr_ 8 (by decide), ← hr_ 9 (by decide), ← hr_ 10 (by decide), ← hr_ 11 (by decide)]
    exact g.2.2.2
theorem rxcRCF_5_0 {S0 : Nat → Int → Int} {ws : List Int} {S : Nat → Int → Int} {se pa n x11 : Int} (hP : rxPRCF S0 ws) (hin : bx_same rxL (bx_mdl rxCRCF.2.2.1) S0 S) (I0 : bx_Inv rxL S) (hinv : rxIRCF_5 S0 ws S se pa n) (l8 : 0 ≤ se) (u8 : se ≤ 1000000) (l9 : 0 ≤ pa) (u9 : pa ≤ 5) (l10 : 0 ≤ n) (u10 : n ≤ 100) (l11 : 1 ≤ x11) (u11 : x11 ≤ 8) (e1 : S 5 0 = x11) : (True) ∧ (True) ∧ rxIRCF_6 S0 ws (bx_up S 0 19 x11) pa n x11 se 0 ∧ rxmRCF_6 S0 ws (bx_up S 0 19 x11) pa n x11 se 0 < rxmRCF_5 S0 ws S se pa n := by
  have hf : rjdSm S0 S := hinv
  exact ⟨trivial, trivial, rjdSm_t hf (fun p t a b c => bx_up_ne (by omega)), by unfold rxmRCF_5 rxmRCF_6; omega⟩
theorem rxgRCF_5_0 {X : (Nat → Int → Int) → Prop} {S0 : Nat → Int → Int} {ws : List Int} (hP : rxPRCF S0 ws) : bx_obC rxL X S0 rxCRCF.2.2.1 (rxIRCF S0 ws) (rxmRCF S0 ws) 5 rxzRCF_5 rxoRCF_5_0 := by
  intro S S_p r r_p hinv hX hin hsm_ hseg
  obtain ⟨I0, I1, h0_, hr_, b_, f_, d_⟩ := bx_cl (evs := [(1, (0, 0), (0, 19), .inr (0, (11, 0))), (0, (0, 5), (0, 0), .inr (0, (11, 0)))]) (fvs := []) hseg (by decide +kernel) (by decide +kernel)
  have hinv : rxIRCF_5 S0 ws S (r 8) (r 9) (r 10) := hinv
  rw [← hr_ 8 (by decide), ← hr_ 9 (by decide), ← hr_ 10 (by decide)] at hinv
  obtain ⟨⟨l8, u8⟩, ⟨l9, u9⟩, ⟨l10, u10⟩, ⟨l11, u11⟩, -⟩ := b_
  obtain ⟨T0, ⟨e1, w_⟩, w0⟩ := d_
  subst w0
  subst w_
  have g := rxcRCF_5_0 hP hin I0 hinv l8 u8 l9 u9 l10 u10 l11 u11 e1
  refine ⟨bx_narP_ok (l := []) g.1, bx_nfP_ok h0_ (fvs := []) (by decide +kernel) g.2.1, ?_, ?_⟩
  · show rxIRCF_6 S0 ws (bx_up T0 0 (19) (r_p 11)) (bx_val [(0, 0), (0, 0), (0, 0), (0, 0), (0, 0), (0, 0), (0, 0), (0, 0), (9, 0), (10, 0), (11, 0), (8, 0), (0, 0)] r_p 8) (bx_val [(0, 0), (0, 0), (0, 0), (0, 0), (0, 0), (0, 0), (0, 0), (0, 0), (9, 0), (10, 0), (11, 0), (8, 0), (0, 0)] r_p 9) (bx_val [(0, 0), (0, 0), (0, 0), (0, 0), (0, 0), (0, 0), (0, 0), (0, 0), (9, 0), (10, 0), (11, 0), (8, 0), (0, 0)] r_p 10) (bx_val [(0, 0), (0, 0), (0, 0), (0, 0), (0, 0), (0, 0), (0, 0), (0, 0), (9, 0), (10, 0), (11, 0), (8, 0), (0, 0)] r_p 11) (bx_val [(0, 0), (0, 0), (0, 0), (0, 0), (0, 0), (0, 0), (0, 0), (0, 0), (9, 0), (10, 0), (11, 0), (8, 0), (0, 0)] r_p 12)
    rw [bx_val_x (n := 8) (e := (9, 0)) h0_ rfl, bx_val_x (n := 9) (e := (10, 0)) h0_ rfl, bx_val_x (n := 10) (e := (11, 0)) h0_ rfl, bx_val_x (n := 11) (e := (8, 0)) h0_ rfl, bx_val_x (n := 12) (e := (0, 0)) h0_ rfl]
    exact g.2.2.1
  · show rxmRCF_6 S0 ws (bx_up T0 0 (19) (r_p 11)) (bx_val [(0, 0), (0, 0), (0, 0), (0, 0), (0, 0), (0, 0), (0, 0), (0, 0), (9, 0), (10, 0), (11, 0), (8, 0), (0, 0)] r_p 8) (bx_val [(0, 0), (0, 0), (0, 0), (0, 0), (0, 0), (0, 0), (0, 0), (0, 0), (9, 0), (10, 0), (11, 0), (8, 0), (0, 0)] r_p 9) (bx_val [(0, 0), (0, 0), (0, 0), (0, 0), (0, 0), (0, 0), (0, 0), (0, 0), (9, 0), (10, 0), (11, 0), (8, 0), (0, 0)] r_p 10) (bx_val [(0, 0), (0, 0), (0, 0), (0, 0), (0, 0), (0, 0), (0, 0), (0, 0), (9, 0), (10, 0), (11, 0), (8, 0), (0, 0)] r_p 11) (bx_val [(0, 0), (0, 0), (0, 0), (0, 0), (0, 0), (0, 0), (0, 0), (0, 0), (9, 0), (10, 0), (11, 0), (8, 0), (0, 0)] r_p 12) < rxmRCF_5 S0 ws T0 (r 8) (r 9) (r 10)
    rw [bx_val_x (n := 8) (e := (9, 0)) h0_ rfl, bx_val_x (n := 9) (e := (10, 0)) h0_ rfl, bx_val_x (n := 10) (e := (11, 0)) h0_ rfl, bx_val_x (n := 11) (e := (8, 0)) h0_ rfl, bx_val_x (n := 12) (e := (0, 0)) h0_ rfl, ← hr_ 8 (by decide), ← hr_ 9 (by decide), ← hr_ 10 (by decide)]
    exact g.2.2.2
theorem rxdRCF_5_0 {S0 : Nat → Int → Int} {ws : List Int} {S : Nat → Int → Int} {se pa n x11 : Int} (hP : rxPRCF S0 ws) (hin : bx_same rxL (bx_mdl rxCRCF.2.2.1) S0 S) (hin2 : bx_same rxL (bx_mdl rxCRCF.2.2.1) S (bx_up S 0 19 x11)) (I0 : bx_Inv rxL S) (I1 : bx_Inv rxL (bx_up S 0 19 x11)) (hinv : rxIRCF_5 S0 ws S se pa n) (l8 : 0 ≤ se) (u8 : se ≤ 1000000) (l9 : 0 ≤ pa) (u9 : pa ≤ 5) (l10 : 0 ≤ n) (u10 : n ≤ 100) (l11 : 0 ≤ x11) (u11 : x11 ≤ 0) (e1 : S 5 0 = x11) : (True) ∧ rxPSRCF S0 ws (bx_up S 0 19 x11) none := by
  have hf : rjdSm S0 S := hinv
  exact ⟨trivial, rfl, rjdSm_t hf (fun p t a b c => bx_up_ne (by omega))⟩
theorem rxfRCF_5_0 {X : (Nat → Int → Int) → Prop} {S0 : Nat → Int → Int} {ws : List Int} (hP : rxPRCF S0 ws) : bx_obE rxL X S0 rxCRCF.2.2.1 (rxIRCF S0 ws) (rxPSRCF S0 ws) 5 rxzRCF_5 rxeRCF_5_0 := by
  intro S S_p r r_p hinv hX hin hsm_ hseg
  obtain ⟨I0, I1, h0_, hr_, b_, f_, d_⟩ := bx_cl (evs := [(1, (0, 0), (0, 19), .inr (0, (11, 0))), (0, (0, 5), (0, 0), .inr (0, (11, 0)))]) (fvs := []) hseg (by decide +kernel) (by decide +kernel)
  have hinv : rxIRCF_5 S0 ws S (r 8) (r 9) (r 10) := hinv
  rw [← hr_ 8 (by decide), ← hr_ 9 (by decide), ← hr_ 10 (by decide)] at hinv
  obtain ⟨⟨l8, u8⟩, ⟨l9, u9⟩, ⟨l10, u10⟩, ⟨l11, u11⟩, -⟩ := b_
  obtain ⟨T0, ⟨e1, w_⟩, w0⟩ := d_
  subst w0
  subst w_
  have g := rxdRCF_5_0 hP hin hsm_ I0 I1 hinv l8 u8 l9 u9 l10 u10 l11 u11 e1
  refine ⟨bx_narP_ok (l := []) g.1, ?_⟩
  exact g.2
theorem rxcRCF_6_0 {S0 : Nat → Int → Int} {ws : List Int} {S : Nat → Int → Int} {pa n pe s k x13 x14 : Int} (hP : rxPRCF S0 ws) (hin : bx_same rxL (bx_mdl rxCRCF.2.2.1) S0 S) (I0 : bx_Inv rxL S) (hinv : rxIRCF_6 S0 ws S pa n pe s k) (l8 : 0 ≤ pa) (u8 : pa ≤ 5) (l9 : 1 ≤ n) (u9 : n ≤ 100) (l10 : 1 ≤ pe) (u10 : pe ≤ 8) (l11 : 0 ≤ s) (u11 : s ≤ 1000002) (l12 : 0 ≤ k) (u12 : k ≤ 99) (l13 : 0 ≤ x13) (u13 : x13 ≤ 1103002206) (l14 : 0 ≤ x14) (u14 : x14 ≤ 1000002) (f0 : x13 = 1103 * (s)) (f1 : k < n) : (True) ∧ (True) ∧ rxIRCF_7 S0 ws S pa n pe x14 k ∧ rxmRCF_7 S0 ws S pa n pe x14 k < rxmRCF_6 S0 ws S pa n pe s k := by
  have hf : rjdSm S0 S := hinv
  exact ⟨trivial, trivial, rjdSm_t hf rjdSm_r, by unfold rxmRCF_6 rxmRCF_7; omega⟩
theorem rxgRCF_6_0 {X : (Nat → Int → Int) → Prop} {S0 : Nat → Int → Int} {ws : List Int} (hP : rxPRCF S0 ws) : bx_obC rxL X S0 rxCRCF.2.2.1 (rxIRCF S0 ws) (rxmRCF S0 ws) 6 rxzRCF_6 rxoRCF_6_0 := by
  intro S S_p r r_p hinv hX hin hsm_ hseg
  obtain ⟨I0, I1, h0_, hr_, b_, f_, d_⟩ := bx_cl (evs := []) (fvs := [(4, (13, 0), (11, 0), (0, 1103)), (0, (12, 0), (9, 0), (0, 0))]) hseg (by decide +kernel) (by decide +kernel)
  have hinv : rxIRCF_6 S0 ws S (r 8) (r 9) (r 10) (r 11) (r 12) := hinv
  rw [← hr_ 8 (by decide), ← hr_ 9 (by decide), ← hr_ 10 (by decide), ← hr_ 11 (by decide), ← hr_ 12 (by decide)] at hinv
  obtain ⟨⟨l8, u8⟩, ⟨l9, u9⟩, ⟨l10, u10⟩, ⟨l11, u11⟩, ⟨l12, u12⟩, ⟨l13, u13⟩, ⟨l14, u14⟩, -⟩ := b_
  obtain ⟨f0, f1, -⟩ := f_
  have w_ := d_
  subst w_
  have g := rxcRCF_6_0 hP hin I0 hinv l8 u8 l9 u9 l10 u10 l11 u11 l12 u12 l13 u13 l14 u14 f0 f1
  refine ⟨bx_narP_ok (l := []) g.1, bx_nfP_ok h0_ (fvs := []) (by decide +kernel) g.2.1, ?_, ?_⟩
  · show rxIRCF_7 S0 ws S_p (bx_val [(0, 0), (0, 0), (0, 0), (0, 0), (0, 0), (0, 0), (0, 0), (0, 0), (8, 0), (9, 0), (10, 0), (14, 0), (12, 0)] r_p 8) (bx_val [(0, 0), (0, 0), (0, 0), (0, 0), (0, 0), (0, 0), (0, 0), (0, 0), (8, 0), (9, 0), (10, 0), (14, 0), (12, 0)] r_p 9) (bx_val [(0, 0), (0, 0), (0, 0), (0, 0), (0, 0), (0, 0), (0, 0), (0, 0), (8, 0), (9, 0), (10, 0), (14, 0), (12, 0)] r_p 10) (bx_val [(0, 0), (0, 0), (0, 0), (0, 0), (0, 0), (0, 0), (0, 0), (0, 0), (8, 0), (9, 0), (10, 0), (14, 0), (12, 0)] r_p 11) (bx_val [(0, 0), (0, 0), (0, 0), (0, 0), (0, 0), (0, 0), (0, 0), (0, 0), (8, 0), (9, 0), (10, 0), (14, 0), (12, 0)] r_p 12)
    rw [bx_val_x (n := 8) (e := (8, 0)) h0_ rfl, bx_val_x (n := 9) (e := (9, 0)) h0_ rfl, bx_val_x (n := 10) (e := (10, 0)) h0_ rfl, bx_val_x (n := 11) (e := (14, 0)) h0_ rfl, bx_val_x (n := 12) (e := (12, 0)) h0_ rfl]
    exact g.2.2.1
  · show rxmRCF_7 S0 ws S_p (bx_val [(0, 0), (0, 0), (0, 0), (0, 0), (0, 0), (0, 0), (0, 0), (0, 0), (8, 0), (9, 0), (10, 0), (14, 0), (12, 0)] r_p 8) (bx_val [(0, 0), (0, 0), (0, 0), (0, 0), (0, 0), (0, 0), (0, 0), (0, 0), (8, 0), (9, 0), (10, 0), (14, 0), (12, 0)] r_p 9) (bx_val [(0, 0), (0, 0), (0, 0), (0, 0), (0, 0), (0, 0), (0, 0), (0, 0), (8, 0), (9, 0), (10, 0), (14, 0), (12, 0)] r_p 10) (bx_val [(0, 0), (0, 0), (0, 0), (0, 0), (0, 0), (0, 0), (0, 0), (0, 0), (8, 0), (9, 0), (10, 0), (14, 0), (12, 0)] r_p 11) (bx_val [(0, 0), (0, 0), (0, 0), (0, 0), (0, 0), (0, 0), (0, 0), (0, 0), (8, 0), (9, 0), (10, 0), (14, 0), (12, 0)] r_p 12) < rxmRCF_6 S0 ws S_p (r 8) (r 9) (r 10) (r 11) (r 12)
    rw [bx_val_x (n := 8) (e := (8, 0)) h0_ rfl, bx_val_x (n := 9) (e := (9, 0)) h0_ rfl, bx_val_x (n := 10) (e := (10, 0)) h0_ rfl, bx_val_x (n := 11) (e := (14, 0)) h0_ rfl, bx_val_x (n := 12) (e := (12, 0)) h0_ rfl, ← hr_ 8 (by decide), ← hr_ 9 (by decide), ← hr_ 10 (by decide), ← hr_ 11 (by decide), ← hr_ 12 (by decide)]
    exact g.2.2.2
theorem rxdRCF_6_0 {S0 : Nat → Int → Int} {ws : List Int} {S : Nat → Int → Int} {pa n pe s k : Int} (hP : rxPRCF S0 ws) (hin : bx_same rxL (bx_mdl rxCRCF.2.2.1) S0 S) (hin2 : bx_same rxL (bx_mdl rxCRCF.2.2.1) S S) (I0 : bx_Inv rxL S) (I1 : bx_Inv rxL S) (hinv : rxIRCF_6 S0 ws S pa n pe s k) (l8 : 0 ≤ pa) (u8 : pa ≤ 5) (l9 : 0 ≤ n) (u9 : n ≤ 100) (l10 : 1 ≤ pe) (u10 : pe ≤ 8) (l11 : 0 ≤ s) (u11 : s ≤ 1000002) (l12 : 0 ≤ k) (u12 : k ≤ 100) (f0 : n ≤ k) : (True) ∧ rxPSRCF S0 ws S none := by
  have hf : rjdSm S0 S := hinv
  exact ⟨trivial, rfl, rjdSm_t hf rjdSm_r⟩
theorem rxfRCF_6_0 {X : (Nat → Int → Int) → Prop} {S0 : Nat → Int → Int} {ws : List Int} (hP : rxPRCF S0 ws) : bx_obE rxL X S0 rxCRCF.2.2.1 (rxIRCF S0 ws) (rxPSRCF S0 ws) 6 rxzRCF_6 rxeRCF_6_0 := by
  intro S S_p r r_p hinv hX hin hsm_ hseg
  obtain ⟨I0, I1, h0_, hr_, b_, f_, d_⟩ := bx_cl (evs := []) (fvs := [(1, (9, 0), (12, 0), (0, 0))]) hseg (by decide +kernel) (by decide +kernel)
  have hinv : rxIRCF_6 S0 ws S (r 8) (r 9) (r 10) (r 11) (r 12) := hinv
  rw [← hr_ 8 (by decide), ← hr_ 9 (by decide), ← hr_ 10 (by decide), ← hr_ 11 (by decide), ← hr_ 12 (by decide)] at hinv
  obtain ⟨⟨l8, u8⟩, ⟨l9, u9⟩, ⟨l10, u10⟩, ⟨l11, u11⟩, ⟨l12, u12⟩, -⟩ := b_
  obtain ⟨f0, -⟩ := f_
  have w_ := d_
  subst w_
  have g := rxdRCF_6_0 hP hin hsm_ I0 I1 hinv l8 u8 l9 u9 l10 u10 l11 u11 l12 u12 f0
  refine ⟨bx_narP_ok (l := []) g.1, ?_⟩
  exact g.2
theorem rxcRCF_7_0 {S0 : Nat → Int → Int} {ws : List Int} {S : Nat → Int → Int} {pa n pe s k x13 : Int} (hP : rxPRCF S0 ws) (hin : bx_same rxL (bx_mdl rxCRCF.2.2.1) S0 S) (I0 : bx_Inv rxL S) (hinv : rxIRCF_7 S0 ws S pa n pe s k) (l8 : 0 ≤ pa) (u8 : pa ≤ 5) (l9 : 0 ≤ n) (u9 : n ≤ 100) (l10 : 1 ≤ pe) (u10 : pe ≤ 8) (l11 : 0 ≤ s) (u11 : s ≤ 1000002) (l12 : 0 ≤ k) (u12 : k ≤ 99) (l13 : 0 ≤ x13) (u13 : x13 ≤ 7) : (True) ∧ (True) ∧ rxIRCF_8 S0 ws S pa n pe s k x13 ∧ rxmRCF_8 S0 ws S pa n pe s k x13 < rxmRCF_7 S0 ws S pa n pe s k := by
  have hf : rjdSm S0 S := hinv
  exact ⟨trivial, trivial, rjdSm_t hf rjdSm_r, by unfold rxmRCF_7 rxmRCF_8; omega⟩
theorem rxgRCF_7_0 {X : (Nat → Int → Int) → Prop} {S0 : Nat → Int → Int} {ws : List Int} (hP : rxPRCF S0 ws) : bx_obC rxL X S0 rxCRCF.2.2.1 (rxIRCF S0 ws) (rxmRCF S0 ws) 7 rxzRCF_7 rxoRCF_7_0 := by
  intro S S_p r r_p hinv hX hin hsm_ hseg
  obtain ⟨I0, I1, h0_, hr_, b_, f_, d_⟩ := bx_cl (evs := []) (fvs := []) hseg (by decide +kernel) (by decide +kernel)
  have hinv : rxIRCF_7 S0 ws S (r 8) (r 9) (r 10) (r 11) (r 12) := hinv
  rw [← hr_ 8 (by decide), ← hr_ 9 (by decide), ← hr_ 10 (by decide), ← hr_ 11 (by decide), ← hr_ 12 (by decide)] at hinv
  obtain ⟨⟨l8, u8⟩, ⟨l9, u9⟩, ⟨l10, u10⟩, ⟨l11, u11⟩, ⟨l12, u12⟩, ⟨l13, u13⟩, -⟩ := b_
  have w_ := d_
  subst w_
  have g := rxcRCF_7_0 hP hin I0 hinv l8 u8 l9 u9 l10 u10 l11 u11 l12 u12 l13 u13
  refine ⟨bx_narP_ok (l := []) g.1, bx_nfP_ok h0_ (fvs := []) (by decide +kernel) g.2.1, ?_, ?_⟩
  · show rxIRCF_8 S0 ws S_p (bx_val [(0, 0), (0, 0), (0, 0), (0, 0), (0, 0), (0, 0), (0, 0), (0, 0), (8, 0), (9, 0), (10, 0), (11, 0), (12, 0), (13, 0)] r_p 8) (bx_val [(0, 0), (0, 0), (0, 0), (0, 0), (0, 0), (0, 0), (0, 0), (0, 0), (8, 0), (9, 0), (10, 0), (11, 0), (12, 0), (13, 0)] r_p 9) (bx_val [(0, 0), (0, 0), (0, 0), (0, 0), (0, 0), (0, 0), (0, 0), (0, 0), (8, 0), (9, 0), (10, 0), (11, 0), (12, 0), (13, 0)] r_p 10) (bx_val [(0, 0), (0, 0), (0, 0), (0, 0), (0, 0), (0, 0), (0, 0), (0, 0), (8, 0), (9, 0), (10, 0), (11, 0), (12, 0), (13, 0)] r_p 11) (bx_val [(0, 0), (0, 0), (0, 0), (0, 0), (0, 0), (0, 0), (0, 0), (0, 0), (8, 0), (9, 0), (10, 0), (11, 0), (12, 0), (13, 0)] r_p 12) (bx_val [(0, 0), (0, 0), (0, 0), (0, 0), (0, 0), (0, 0), (0, 0), (0, 0), (8, 0), (9, 0), (10, 0), (11, 0), (12, 0), (13, 0)] r_p 13)
    rw [bx_val_x (n := 8) (e := (8, 0)) h0_ rfl, bx_val_x (n := 9) (e := (9, 0)) h0_ rfl, bx_val_x (n := 10) (e := (10, 0)) h0_ rfl, bx_val_x (n := 11) (e := (11, 0)) h0_ rfl, bx_val_x (n := 12) (e := (12, 0)) h0_ rfl, bx_val_x (n := 13) (e := (13, 0)) h0_ rfl]
    exact g.2.2.1
  · show rxmRCF_8 S0 ws S_p (bx_val [(0, 0), (0, 0), (0, 0), (0, 0), (0, 0), (0, 0), (0, 0), (0, 0), (8, 0), (9, 0), (10, 0), (11, 0), (12, 0), (13, 0)] r_p 8) (bx_val [(0, 0), (0, 0), (0, 0), (0, 0), (0, 0), (0, 0), (0, 0), (0, 0), (8, 0), (9, 0), (10, 0), (11, 0), (12, 0), (13, 0)] r_p 9) (bx_val [(0, 0), (0, 0), (0, 0), (0, 0), (0, 0), (0, 0), (0, 0), (0, 0), (8, 0), (9, 0), (10, 0), (11, 0), (12, 0), (13, 0)] r_p 10) (bx_val [(0, 0), (0, 0), (0, 0), (0, 0), (0, 0), (0, 0), (0, 0), (0, 0), (8, 0), (9, 0), (10, 0), (11, 0), (12, 0), (13, 0)] r_p 11) (bx_val [(0, 0), (0, 0), (0, 0), (0, 0), (0, 0), (0, 0), (0, 0), (0, 0), (8, 0), (9, 0), (10, 0), (11, 0), (12, 0), (13, 0)] r_p 12) (bx_val [(0, 0), (0, 0), (0, 0), (0, 0), (0, 0), (0, 0), (0, 0), (0, 0), (8, 0), (9, 0), (10, 0), (11, 0), (12, 0), (13, 0)] r_p 13) < rxmRCF_7 S0 ws S_p (r 8) (r 9) (r 10) (r 11) (r 12)
    rw [bx_val_x (n := 8) (e := (8, 0)) h0_ rfl, bx_val_x (n := 9) (e := (9, 0)) h0_ rfl, bx_val_x (n := 10) (e := (10, 0)) h0_ rfl, bx_val_x (n := 11) (e := (11, 0)) h0_ rfl, bx_val_x (n := 12) (e := (12, 0)) h0_ rfl, bx_val_x (n := 13) (e := (13, 0)) h0_ rfl, ← hr_ 8 (by decide), ← hr_ 9 (by decide), ← hr_ 10 (by decide), ← hr_ 11 (by decide), ← hr_ 12 (by decide)]
    exact g.2.2.2
theorem rxcRCF_8_0 {S0 : Nat → Int → Int} {ws : List Int} {S T3 T2 T1 T0 : Nat → Int → Int} {pa n pe s k j x14 x15 x16 : Int} (hP : rxPRCF S0 ws) (hin : bx_same rxL (bx_mdl rxCRCF.2.2.1) S0 S) (I0 : bx_Inv rxL S) (hinv : rxIRCF_8 S0 ws S pa n pe s k j) (l8 : 0 ≤ pa) (u8 : pa ≤ 5) (l9 : 0 ≤ n) (u9 : n ≤ 100) (l10 : 1 ≤ pe) (u10 : pe ≤ 8) (l11 : 0 ≤ s) (u11 : s ≤ 1000002) (l12 : 0 ≤ k) (u12 : k ≤ 99) (l13 : 0 ≤ j) (u13 : j ≤ 7) (l14 : (-2147483648) ≤ x14) (u14 : x14 ≤ 2147483647) (l15 : (-2147483648) ≤ x15) (u15 : x15 ≤ 2147483647) (l16 : 0 ≤ x16) (u16 : x16 ≤ 300) (e6 : S 479 j = x14) (e4 : (bx_up S 479 j x15) 19 0 = x16) (v3 : ∀ (p i : Nat), p < rxL.2.1 → i < bx_wd (rxL.1 p) → bx_mc (rxL.1 p) i ≠ (99999, 0) → T3 p (i : Int) = (bx_up S 479 j x15) p (i : Int)) (v2 : ∀ (p i : Nat), p < rxL.2.1 → i < bx_wd (rxL.1 p) → bx_mc (rxL.1 p) i ≠ (1023, 0) → T2 p (i : Int) = T3 p (i : Int)) (v1 : ∀ (p i : Nat), p < rxL.2.1 → i < bx_wd (rxL.1 p) → bx_mc (rxL.1 p) i ≠ (1018, 0) → T1 p (i : Int) = T2 p (i : Int)) (v0 : ∀ (p i : Nat), p < rxL.2.1 → i < bx_wd (rxL.1 p) → bx_mc (rxL.1 p) i ≠ (1017, 0) → T0 p (i : Int) = T1 p (i : Int)) : (True) ∧ (True) ∧ rxIRCF_9 S0 ws T0 pa n pe s k ∧ rxmRCF_9 S0 ws T0 pa n pe s k < rxmRCF_8 S0 ws S pa n pe s k j := by
  have hf : rjdSm S0 S := hinv
  exact ⟨trivial, trivial, rjdSm_t hf (rjdSm_t (rjdSm_t (rjdSm_t (rjdSm_t (fun p t a b c => bx_up_ne (by omega)) (rjdSm_v v3 (by decide) (by decide))) (rjdSm_v v2 (by decide) (by decide))) (rjdSm_v v1 (by decide) (by decide))) (rjdSm_v v0 (by decide) (by decide))), by unfold rxmRCF_8 rxmRCF_9; omega⟩
theorem rxgRCF_8_0 {X : (Nat → Int → Int) → Prop} {S0 : Nat → Int → Int} {ws : List Int} (hP : rxPRCF S0 ws) : bx_obC rxL X S0 rxCRCF.2.2.1 (rxIRCF S0 ws) (rxmRCF S0 ws) 8 rxzRCF_8 rxoRCF_8_0 := by
  intro S S_p r r_p hinv hX hin hsm_ hseg
  obtain ⟨I0, I1, h0_, hr_, b_, f_, d_⟩ := bx_cl (evs := [(2, (1017, 0), (0, 0), .inl none), (2, (1018, 0), (0, 0), .inl none), (2, (1023, 0), (0, 0), .inl none), (2, (99999, 0), (0, 0), .inl none), (0, (0, 19), (0, 0), .inr (0, (16, 0))), (1, (0, 479), (13, 0), .inr (0, (15, 0))), (0, (0, 479), (13, 0), .inr (0, (14, 0)))]) (fvs := []) hseg (by decide +kernel) (by decide +kernel)
  have hinv : rxIRCF_8 S0 ws S (r 8) (r 9) (r 10) (r 11) (r 12) (r 13) := hinv
  rw [← hr_ 8 (by decide), ← hr_ 9 (by decide), ← hr_ 10 (by decide), ← hr_ 11 (by decide), ← hr_ 12 (by decide), ← hr_ 13 (by decide)] at hinv
  obtain ⟨⟨l8, u8⟩, ⟨l9, u9⟩, ⟨l10, u10⟩, ⟨l11, u11⟩, ⟨l12, u12⟩, ⟨l13, u13⟩, ⟨l14, u14⟩, ⟨l15, u15⟩, ⟨l16, u16⟩, -⟩ := b_
  obtain ⟨T0, ⟨T1, ⟨T2, ⟨T3, ⟨e4, ⟨T5, ⟨e6, w_⟩, w5⟩⟩, v3⟩, v2⟩, v1⟩, v0⟩ := d_
  subst w5
  subst w_
  have g := rxcRCF_8_0 hP hin I0 hinv l8 u8 l9 u9 l10 u10 l11 u11 l12 u12 l13 u13 l14 u14 l15 u15 l16 u16 e6 e4 v3 v2 v1 v0
  refine ⟨bx_narP_ok (l := []) g.1, bx_nfP_ok h0_ (fvs := []) (by decide +kernel) g.2.1, ?_, ?_⟩
  · show rxIRCF_9 S0 ws S_p (bx_val [(0, 0), (0, 0), (0, 0), (0, 0), (0, 0), (0, 0), (0, 0), (0, 0), (8, 0), (9, 0), (10, 0), (11, 0), (12, 0)] r_p 8) (bx_val [(0, 0), (0, 0), (0, 0), (0, 0), (0, 0), (0, 0), (0, 0), (0, 0), (8, 0), (9, 0), (10, 0), (11, 0), (12, 0)] r_p 9) (bx_val [(0, 0), (0, 0), (0, 0), (0, 0), (0, 0), (0, 0), (0, 0), (0, 0), (8, 0), (9, 0), (10, 0), (11, 0), (12, 0)] r_p 10) (bx_val [(0, 0), (0, 0), (0, 0), (0, 0), (0, 0), (0, 0), (0, 0), (0, 0), (8, 0), (9, 0), (10, 0), (11, 0), (12, 0)] r_p 11) (bx_val [(0, 0), (0, 0), (0, 0), (0, 0), (0, 0), (0, 0), (0, 0), (0, 0), (8, 0), (9, 0), (10, 0), (11, 0), (12, 0)] r_p 12)
    rw [bx_val_x (n := 8) (e := (8, 0)) h0_ rfl, bx_val_x (n := 9) (e := (9, 0)) h0_ rfl, bx_val_x (n := 10) (e := (10, 0)) h0_ rfl, bx_val_x (n := 11) (e := (11, 0)) h0_ rfl, bx_val_x (n := 12) (e := (12, 0)) h0_ rfl]
    exact g.2.2.1
  · show rxmRCF_9 S0 ws S_p (bx_val [(0, 0), (0, 0), (0, 0), (0, 0), (0, 0), (0, 0), (0, 0), (0, 0), (8, 0), (9, 0), (10, 0), (11, 0), (12, 0)] r_p 8) (bx_val [(0, 0), (0, 0), (0, 0), (0, 0), (0, 0), (0, 0), (0, 0), (0, 0), (8, 0), (9, 0), (10, 0), (11, 0), (12, 0)] r_p 9) (bx_val [(0, 0), (0, 0), (0, 0), (0, 0), (0, 0), (0, 0), (0, 0), (0, 0), (8, 0), (9, 0), (10, 0), (11, 0), (12, 0)] r_p 10) (bx_val [(0, 0), (0, 0), (0, 0), (0, 0), (0, 0), (0, 0), (0, 0), (0, 0), (8, 0), (9, 0), (10, 0), (11, 0), (12, 0)] r_p 11) (bx_val [(0, 0), (0, 0), (0, 0), (0, 0), (0, 0), (0, 0), (0, 0), (0, 0), (8, 0), (9, 0), (10, 0), (11, 0), (12, 0)] r_p 12) < rxmRCF_8 S0 ws T5 (r 8) (r 9) (r 10) (r 11) (r 12) (r 13)
    rw [bx_val_x (n := 8) (e := (8, 0)) h0_ rfl, bx_val_x (n := 9) (e := (9, 0)) h0_ rfl, bx_val_x (n := 10) (e := (10, 0)) h0_ rfl, bx_val_x (n := 11) (e := (11, 0)) h0_ rfl, bx_val_x (n := 12) (e := (12, 0)) h0_ rfl, ← hr_ 8 (by decide), ← hr_ 9 (by decide), ← hr_ 10 (by decide), ← hr_ 11 (by decide), ← hr_ 12 (by decide), ← hr_ 13 (by decide)]
    exact g.2.2.2
theorem rxcRCF_9_0 {S0 : Nat → Int → Int} {ws : List Int} {S : Nat → Int → Int} {pa n pe s k x13 : Int} (hP : rxPRCF S0 ws) (hin : bx_same rxL (bx_mdl rxCRCF.2.2.1) S0 S) (I0 : bx_Inv rxL S) (hinv : rxIRCF_9 S0 ws S pa n pe s k) (l8 : 0 ≤ pa) (u8 : pa ≤ 5) (l9 : 0 ≤ n) (u9 : n ≤ 100) (l10 : 1 ≤ pe) (u10 : pe ≤ 8) (l11 : 0 ≤ s) (u11 : s ≤ 1000002) (l12 : 0 ≤ k) (u12 : k ≤ 99) (l13 : 0 ≤ x13) (u13 : x13 ≤ 300) (e0 : S 21 0 = x13) : (True) ∧ (True) ∧ rxIRCF_10 S0 ws S pa n pe s k x13 ∧ rxmRCF_10 S0 ws S pa n pe s k x13 < rxmRCF_9 S0 ws S pa n pe s k := by
  have hf : rjdSm S0 S := hinv
  exact ⟨trivial, trivial, rjdSm_t hf rjdSm_r, by unfold rxmRCF_9 rxmRCF_10; omega⟩
theorem rxgRCF_9_0 {X : (Nat → Int → Int) → Prop} {S0 : Nat → Int → Int} {ws : List Int} (hP : rxPRCF S0 ws) : bx_obC rxL X S0 rxCRCF.2.2.1 (rxIRCF S0 ws) (rxmRCF S0 ws) 9 rxzRCF_9 rxoRCF_9_0 := by
  intro S S_p r r_p hinv hX hin hsm_ hseg
  obtain ⟨I0, I1, h0_, hr_, b_, f_, d_⟩ := bx_cl (evs := [(0, (0, 21), (0, 0), .inr (0, (13, 0)))]) (fvs := []) hseg (by decide +kernel) (by decide +kernel)
  have hinv : rxIRCF_9 S0 ws S (r 8) (r 9) (r 10) (r 11) (r 12) := hinv
  rw [← hr_ 8 (by decide), ← hr_ 9 (by decide), ← hr_ 10 (by decide), ← hr_ 11 (by decide), ← hr_ 12 (by decide)] at hinv
  obtain ⟨⟨l8, u8⟩, ⟨l9, u9⟩, ⟨l10, u10⟩, ⟨l11, u11⟩, ⟨l12, u12⟩, ⟨l13, u13⟩, -⟩ := b_
  obtain ⟨e0, w_⟩ := d_
  subst w_
  have g := rxcRCF_9_0 hP hin I0 hinv l8 u8 l9 u9 l10 u10 l11 u11 l12 u12 l13 u13 e0
  refine ⟨bx_narP_ok (l := []) g.1, bx_nfP_ok h0_ (fvs := []) (by decide +kernel) g.2.1, ?_, ?_⟩
  · show rxIRCF_10 S0 ws S_p (bx_val [(0, 0), (0, 0), (0, 0), (0, 0), (0, 0), (0, 0), (0, 0), (0, 0), (8, 0), (9, 0), (10, 0), (11, 0), (12, 0), (13, 0)] r_p 8) (bx_val [(0, 0), (0, 0), (0, 0), (0, 0), (0, 0), (0, 0), (0, 0), (0, 0), (8, 0), (9, 0), (10, 0), (11, 0), (12, 0), (13, 0)] r_p 9) (bx_val [(0, 0), (0, 0), (0, 0), (0, 0), (0, 0), (0, 0), (0, 0), (0, 0), (8, 0), (9, 0), (10, 0), (11, 0), (12, 0), (13, 0)] r_p 10) (bx_val [(0, 0), (0, 0), (0, 0), (0, 0), (0, 0), (0, 0), (0, 0), (0, 0), (8, 0), (9, 0), (10, 0), (11, 0), (12, 0), (13, 0)] r_p 11) (bx_val [(0, 0), (0, 0), (0, 0), (0, 0), (0, 0), (0, 0), (0, 0), (0, 0), (8, 0), (9, 0), (10, 0), (11, 0), (12, 0), (13, 0)] r_p 12) (bx_val [(0, 0), (0, 0), (0, 0), (0, 0), (0, 0), (0, 0), (0, 0), (0, 0), (8, 0), (9, 0), (10, 0), (11, 0), (12, 0), (13, 0)] r_p 13)
    rw [bx_val_x (n := 8) (e := (8, 0)) h0_ rfl, bx_val_x (n := 9) (e := (9, 0)) h0_ rfl, bx_val_x (n := 10) (e := (10, 0)) h0_ rfl, bx_val_x (n := 11) (e := (11, 0)) h0_ rfl, bx_val_x (n := 12) (e := (12, 0)) h0_ rfl, bx_val_x (n := 13) (e := (13, 0)) h0_ rfl]
    exact g.2.2.1
  · show rxmRCF_10 S0 ws S_p (bx_val [(0, 0), (0, 0), (0, 0), (0, 0), (0, 0), (0, 0), (0, 0), (0, 0), (8, 0), (9, 0), (10, 0), (11, 0), (12, 0), (13, 0)] r_p 8) (bx_val [(0, 0), (0, 0), (0, 0), (0, 0), (0, 0), (0, 0), (0, 0), (0, 0), (8, 0), (9, 0), (10, 0), (11, 0), (12, 0), (13, 0)] r_p 9) (bx_val [(0, 0), (0, 0), (0, 0), (0, 0), (0, 0), (0, 0), (0, 0), (0, 0), (8, 0), (9, 0), (10, 0), (11, 0), (12, 0), (13, 0)] r_p 10) (bx_val [(0, 0), (0, 0), (0, 0), (0, 0), (0, 0), (0, 0), (0, 0), (0, 0), (8, 0), (9, 0), (10, 0), (11, 0), (12, 0), (13, 0)] r_p 11) (bx_val [(0, 0), (0, 0), (0, 0), (0, 0), (0, 0), (0, 0), (0, 0), (0, 0), (8, 0), (9, 0), (10, 0), (11, 0), (12, 0), (13, 0)] r_p 12) (bx_val [(0, 0), (0, 0), (0, 0), (0, 0), (0, 0), (0, 0), (0, 0), (0, 0), (8, 0), (9, 0), (10, 0), (11, 0), (12, 0), (13, 0)] r_p 13) < rxmRCF_9 S0 ws S_p (r 8) (r 9) (r 10) (r 11) (r 12)
    rw [bx_val_x (n := 8) (e := (8, 0)) h0_ rfl, bx_val_x (n := 9) (e := (9, 0)) h0_ rfl, bx_val_x (n := 10) (e := (10, 0)) h0_ rfl, bx_val_x (n := 11) (e := (11, 0)) h0_ rfl, bx_val_x (n := 12) (e := (12, 0)) h0_ rfl, bx_val_x (n := 13) (e := (13, 0)) h0_ rfl, ← hr_ 8 (by decide), ← hr_ 9 (by decide), ← hr_ 10 (by decide), ← hr_ 11 (by decide), ← hr_ 12 (by decide)]
    exact g.2.2.2
theorem rxcRCF_11_0 {S0 : Nat → Int → Int} {ws : List Int} {S : Nat → Int → Int} {pa n pe s k sl s2 : Int} (hP : rxPRCF S0 ws) (hin : bx_same rxL (bx_mdl rxCRCF.2.2.1) S0 S) (I0 : bx_Inv rxL S) (hinv : rxIRCF_11 S0 ws S pa n pe s k sl s2) (l8 : 0 ≤ pa) (u8 : pa ≤ 5) (l9 : 0 ≤ n) (u9 : n ≤ 100) (l10 : 1 ≤ pe) (u10 : pe ≤ 8) (l11 : 0 ≤ s) (u11 : s ≤ 1000002) (l12 : 0 ≤ k) (u12 : k ≤ 99) (l13 : 0 ≤ sl) (u13 : sl ≤ 300) (l14 : 0 ≤ s2) (u14 : s2 ≤ 1000002) : (True) ∧ (True) ∧ rxIRCF_6 S0 ws S pa n pe s2 (k + 1) ∧ rxmRCF_6 S0 ws S pa n pe s2 (k + 1) < rxmRCF_11 S0 ws S pa n pe s k sl s2 := by
  have hf : rjdSm S0 S := hinv
  exact ⟨trivial, trivial, rjdSm_t hf rjdSm_r, by unfold rxmRCF_11 rxmRCF_6; omega⟩
theorem rxgRCF_11_0 {X : (Nat → Int → Int) → Prop} {S0 : Nat → Int → Int} {ws : List Int} (hP : rxPRCF S0 ws) : bx_obC rxL X S0 rxCRCF.2.2.1 (rxIRCF S0 ws) (rxmRCF S0 ws) 11 rxzRCF_11 rxoRCF_11_0 := by
  intro S S_p r r_p hinv hX hin hsm_ hseg
  obtain ⟨I0, I1, h0_, hr_, b_, f_, d_⟩ := bx_cl (evs := []) (fvs := []) hseg (by decide +kernel) (by decide +kernel)
  have hinv : rxIRCF_11 S0 ws S (r 8) (r 9) (r 10) (r 11) (r 12) (r 13) (r 14) := hinv
  rw [← hr_ 8 (by decide), ← hr_ 9 (by decide), ← hr_ 10 (by decide), ← hr_ 11 (by decide), ← hr_ 12 (by decide), ← hr_ 13 (by decide), ← hr_ 14 (by decide)] at hinv
  obtain ⟨⟨l8, u8⟩, ⟨l9, u9⟩, ⟨l10, u10⟩, ⟨l11, u11⟩, ⟨l12, u12⟩, ⟨l13, u13⟩, ⟨l14, u14⟩, -⟩ := b_
  have w_ := d_
  subst w_
  have g := rxcRCF_11_0 hP hin I0 hinv l8 u8 l9 u9 l10 u10 l11 u11 l12 u12 l13 u13 l14 u14
  refine ⟨bx_narP_ok (l := []) g.1, bx_nfP_ok h0_ (fvs := []) (by decide +kernel) g.2.1, ?_, ?_⟩
  · show rxIRCF_6 S0 ws S_p (bx_val [(0, 0), (0, 0), (0, 0), (0, 0), (0, 0), (0, 0), (0, 0), (0, 0), (8, 0), (9, 0), (10, 0), (14, 0), (12, 1)] r_p 8) (bx_val [(0, 0), (0, 0), (0, 0), (0, 0), (0, 0), (0, 0), (0, 0), (0, 0), (8, 0), (9, 0), (10, 0), (14, 0), (12, 1)] r_p 9) (bx_val [(0, 0), (0, 0), (0, 0), (0, 0), (0, 0), (0, 0), (0, 0), (0, 0), (8, 0), (9, 0), (10, 0), (14, 0), (12, 1)] r_p 10) (bx_val [(0, 0), (0, 0), (0, 0), (0, 0), (0, 0), (0, 0), (0, 0), (0, 0), (8, 0), (9, 0), (10, 0), (14, 0), (12, 1)] r_p 11) (bx_val [(0, 0), (0, 0), (0, 0), (0, 0), (0, 0), (0, 0), (0, 0), (0, 0), (8, 0), (9, 0), (10, 0), (14, 0), (12, 1)] r_p 12)
    rw [bx_val_x (n := 8) (e := (8, 0)) h0_ rfl, bx_val_x (n := 9) (e := (9, 0)) h0_ rfl, bx_val_x (n := 10) (e := (10, 0)) h0_ rfl, bx_val_x (n := 11) (e := (14, 0)) h0_ rfl, bx_val_x (n := 12) (e := (12, 1)) h0_ rfl]
    exact g.2.2.1
  · show rxmRCF_6 S0 ws S_p (bx_val [(0, 0), (0, 0), (0, 0), (0, 0), (0, 0), (0, 0), (0, 0), (0, 0), (8, 0), (9, 0), (10, 0), (14, 0), (12, 1)] r_p 8) (bx_val [(0, 0), (0, 0), (0, 0), (0, 0), (0, 0), (0, 0), (0, 0), (0, 0), (8, 0), (9, 0), (10, 0), (14, 0), (12, 1)] r_p 9) (bx_val [(0, 0), (0, 0), (0, 0), (0, 0), (0, 0), (0, 0), (0, 0), (0, 0), (8, 0), (9, 0), (10, 0), (14, 0), (12, 1)] r_p 10) (bx_val [(0, 0), (0, 0), (0, 0), (0, 0), (0, 0), (0, 0), (0, 0), (0, 0), (8, 0), (9, 0), (10, 0), (14, 0), (12, 1)] r_p 11) (bx_val [(0, 0), (0, 0), (0, 0), (0, 0), (0, 0), (0, 0), (0, 0), (0, 0), (8, 0), (9, 0), (10, 0), (14, 0), (12, 1)] r_p 12) < rxmRCF_11 S0 ws S_p (r 8) (r 9) (r 10) (r 11) (r 12) (r 13) (r 14)
    rw [bx_val_x (n := 8) (e := (8, 0)) h0_ rfl, bx_val_x (n := 9) (e := (9, 0)) h0_ rfl, bx_val_x (n := 10) (e := (10, 0)) h0_ rfl, bx_val_x (n := 11) (e := (14, 0)) h0_ rfl, bx_val_x (n := 12) (e := (12, 1)) h0_ rfl, ← hr_ 8 (by decide), ← hr_ 9 (by decide), ← hr_ 10 (by decide), ← hr_ 11 (by decide), ← hr_ 12 (by decide), ← hr_ 13 (by decide), ← hr_ 14 (by decide)]
    exact g.2.2.2
theorem rxgCRCF {X : (Nat → Int → Int) → Prop} {S0 : Nat → Int → Int} {ws : List Int} (hP : rxPRCF S0 ws) : bx_allI (fun i q => rxURCF q = true ∨ bx_allP (fun o => bx_obC rxL X S0 rxCRCF.2.2.1 (rxIRCF S0 ws) (rxmRCF S0 ws) i q.1 o) q.2.1) 0 rxYRCF := ⟨Or.inr ⟨rxgRCF_0_0 hP, trivial⟩, Or.inl rfl, Or.inl rfl, Or.inr ⟨rxgRCF_3_0 hP, trivial⟩, Or.inl rfl, Or.inr ⟨rxgRCF_5_0 hP, trivial⟩, Or.inr ⟨rxgRCF_6_0 hP, trivial⟩, Or.inr ⟨rxgRCF_7_0 hP, trivial⟩, Or.inr ⟨rxgRCF_8_0 hP, trivial⟩, Or.inr ⟨rxgRCF_9_0 hP, trivial⟩, Or.inl rfl, Or.inr ⟨rxgRCF_11_0 hP, trivial⟩, trivial⟩
theorem rxgERCF {X : (Nat → Int → Int) → Prop} {S0 : Nat → Int → Int} {ws : List Int} (hP : rxPRCF S0 ws) : bx_allI (fun i q => rxURCF q = true ∨ bx_allP (fun E => bx_obE rxL X S0 rxCRCF.2.2.1 (rxIRCF S0 ws) (rxPSRCF S0 ws) i q.1 E) q.2.2) 0 rxYRCF := ⟨Or.inr trivial, Or.inl rfl, Or.inl rfl, Or.inr trivial, Or.inl rfl, Or.inr ⟨rxfRCF_5_0 hP, trivial⟩, Or.inr ⟨rxfRCF_6_0 hP, trivial⟩, Or.inr trivial, Or.inr trivial, Or.inr trivial, Or.inl rfl, Or.inr trivial, trivial⟩
theorem rxuRCF {PX : State → Prop} {Dg : va_G} {A : Nat → Prop} {ad xa : Nat → Nat} {l : Launch} {X : (Nat → Int → Int) → Prop} (hPX : rx_PXOK rxNW A PX) (hX : ∀ S S1 : Nat → Int → Int, X S → bx_same rxL (bx_mdl rxCRCF.2.2.1) S S1 → X S1) (hQSOP : bx_ConP rxG rxNW rxAO PX Dg rxL X vwCl A ad l rxM105 rxCSOP rxPSOP rxPSSOP) (hQSCZ : bx_ConP rxG rxNW rxAO PX Dg rxL X vwCl A ad l rxM42 rxCSCZ rxPSCZ rxPSSCZ) (hQFLP : bx_ConP rxG rxNW rxAO PX Dg rxL X vwCl A ad l rxM0 rxCFLP rxPFLP rxPSFLP) (hQSBF : bx_ConP rxG rxNW rxAO PX Dg rxL X vwCl A ad l rxM156 rxCSBF rxPSBF rxPSSBF) {S0 : Nat → Int → Int} {ws : List Int} (hP : rxPRCF S0 ws) : ∀ (i : Nat) (q : bx_HE), rxYRCF[i]? = some q → rxURCF q = true → ∀ {p : Program} {e : Env} {R : Room} {s : State} {m : MethodId} {args : Array Value} {below : List Frame} {meth : Method} {c : Code} {Q : State → Prop} {H0 : Heap}, rx_Fr rxG rxNW rxAO PX p s m args meth c rxM151 → (∀ q, H0.size ≤ q → A q) → H0 = s.heap → rxM151.2.2.2.2.2.2.1 ≤ R.cells → rxM151.2.2.2.2.2.2.2 ≤ R.slots → rxCRCF.2.2.2.1 ≤ R.frames → rxCRCF.2.2.2.1 * 40 ≤ R.locals → bx_Step p l e R s m args below meth c Q Dg rxL X vwCl A xa H0 ad rxM151 rxYRCF (rxIRCF S0 ws) (rxmRCF S0 ws) S0 rxCRCF.2.2.1 i q := by
  intro i q hq hus p e R s m args below meth c Q H0 hF hA hH0 hmc hms hd hdl
  match i, hq with
  | 0, hq =>
    cases hq
    exact absurd (show false = true from hus) Bool.false_ne_true
  | 1, hq =>
    cases hq
    exact rx_stepC (ins := .invokevirtual 132) (len := 3) (i_p := 2) (M_p := rxM105) (d := rxCRCF.2.2.2.1) (as := [.inr (3, (0, 1)), .inr (0, (9, 0))]) (t := [.inr (3, (0, 476))]) (ct := rxCSOP) hPX hF rfl hA hH0 hmc hms hd hdl (by decide +kernel) rfl rfl (by decide +kernel) (by decide +kernel) hQSOP (by decide +kernel) rfl (Or.inr ⟨_, _, _, 4, rfl, rfl, by omega, rfl, rfl, rfl⟩) (rxsRCF_1 hP)
  | 2, hq =>
    cases hq
    exact rx_stepC (ins := .invokevirtual 260) (len := 3) (i_p := 3) (M_p := rxM42) (d := rxCRCF.2.2.2.1) (as := [.inr (3, (0, 476)), .inr (3, (11, 0))]) (t := []) (ct := rxCSCZ) hPX hF rfl hA hH0 hmc hms hd hdl (by decide +kernel) rfl rfl (by decide +kernel) (by decide +kernel) hQSCZ (by decide +kernel) rfl (Or.inl ⟨rfl, rfl, rfl⟩) (rxsRCF_2 hP)
  | 3, hq =>
    cases hq
    exact absurd (show false = true from hus) Bool.false_ne_true
  | 4, hq =>
    cases hq
    exact rx_stepC (ins := .invokestatic 446) (len := 3) (i_p := 5) (M_p := rxM0) (d := rxCRCF.2.2.2.1) (as := [.inr (3, (0, 479)), .inr (0, (0, 0))]) (t := []) (ct := rxCFLP) hPX hF rfl hA hH0 hmc hms hd hdl (by decide +kernel) rfl rfl (by decide +kernel) (by decide +kernel) hQFLP (by decide +kernel) rfl (Or.inl ⟨rfl, rfl, rfl⟩) (rxsRCF_4 hP)
  | 5, hq =>
    cases hq
    exact absurd (show false = true from hus) Bool.false_ne_true
  | 6, hq =>
    cases hq
    exact absurd (show false = true from hus) Bool.false_ne_true
  | 7, hq =>
    cases hq
    exact absurd (show false = true from hus) Bool.false_ne_true
  | 8, hq =>
    cases hq
    exact absurd (show false = true from hus) Bool.false_ne_true
  | 9, hq =>
    cases hq
    exact absurd (show false = true from hus) Bool.false_ne_true
  | 10, hq =>
    cases hq
    exact rx_stepC (ins := .invokevirtual 455) (len := 3) (i_p := 11) (M_p := rxM156) (d := rxCRCF.2.2.2.1) (as := [.inr (3, (0, 0)), .inr (0, (11, 0)), .inr (0, (13, 0))]) (t := []) (ct := rxCSBF) hPX hF rfl hA hH0 hmc hms hd hdl (by decide +kernel) rfl rfl (by decide +kernel) (by decide +kernel) hQSBF (by decide +kernel) rfl (Or.inr ⟨_, _, _, 1, rfl, rfl, by omega, rfl, rfl, rfl⟩) (rxsRCF_10 hP)
  | 11, hq =>
    cases hq
    exact absurd (show false = true from hus) Bool.false_ne_true
  | n + 12, hq => cases hq
theorem rxQRCF {PX : State → Prop} {Dg : va_G} {A : Nat → Prop} {ad xa : Nat → Nat} {l : Launch} {X : (Nat → Int → Int) → Prop} (hPX : rx_PXOK rxNW A PX) (hsl : ∀ s : State, PX s → ∀ o idx n : Nat, rxSl o idx = some n → ∃ tx : String, vk_R (rxNm o) idx tx (ad n) s)
    (hX : ∀ S S_p : Nat → Int → Int, X S → bx_same rxL (bx_mdl rxCRCF.2.2.1) S S_p → X S_p)
    (ih : ∀ (j2 : Nat) (ct2 : bx_Ct) (M2 : rx_Mt), ct2 ∈ rxCn j2 → ct2.2.2.2.1 + 1 ≤ rxCRCF.2.2.2.1 → rxT.2.2.2.2.2 j2 = some M2 → bx_Con rxG rxNW rxAO PX Dg rxL X vwCl A ad l M2 ct2) (hQSOP : bx_ConP rxG rxNW rxAO PX Dg rxL X vwCl A ad l rxM105 rxCSOP rxPSOP rxPSSOP) (hQSCZ : bx_ConP rxG rxNW rxAO PX Dg rxL X vwCl A ad l rxM42 rxCSCZ rxPSCZ rxPSSCZ) (hQFLP : bx_ConP rxG rxNW rxAO PX Dg rxL X vwCl A ad l rxM0 rxCFLP rxPFLP rxPSFLP) (hQSBF : bx_ConP rxG rxNW rxAO PX Dg rxL X vwCl A ad l rxM156 rxCSBF rxPSBF rxPSSBF) : bx_ConP rxG rxNW rxAO PX Dg rxL X vwCl A ad l rxM151 rxCRCF rxPRCF rxPSRCF :=
  rxQof (xa := xa) (Cn := rxCn) (f := 30000) (j := 151) (tab := rxYRCF) (us := rxURCF) hPX hsl hX ih rfl rxYcRCF rxIRCF rxmRCF
    (fun S0 ws r I0 I ht0 ht as he he1 hX0 hI0 hP hs ha => by
      have e := he.symm.trans (show bx_ent0 rxNP rxCRCF.1 bx_I0 [] = some ([(0, 0), (0, 0), (0, 0), (0, 0), (0, 0), (0, 0), (0, 0), (0, 0), (0, 1000000), (0, 5), (0, 100)], [], [.inr (3, (0, 0)), .inr (0, (8, 0)), .inr (0, (9, 0)), .inr (0, (10, 0))]) from rfl)
      cases e
      subst ha
      have h0 : r 0 = 0 := hs.1
      show rxIRCF_0 S0 _ S0 (r 8) (r 9) (r 10)
      refine ⟨rfl, ?_⟩
      simp only [List.map_cons, List.map_nil, bx_xv_ok h0]
      rfl)
    (fun S0 ws hP => rxuRCF (xa := xa) hPX hX hQSOP hQSCZ hQFLP hQSBF hP) (fun S0 ws hP => rxgCRCF hP) (fun S0 ws hP => rxgERCF hP)
