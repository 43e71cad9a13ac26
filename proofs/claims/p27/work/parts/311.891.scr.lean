noncomputable def rxCFLW : bx_Ct := ([(3, (2, 19, 0)), (0, (0, (-1), (-1)))], none, [(1019, 0)], 0, [])
noncomputable def rxIFLW_0 (S0 : Nat → Int → Int) (ws : List Int) (S : Nat → Int → Int) (ro v : Int) : Prop := S = S0 ∧ ws = [ro, v]
noncomputable def rxmFLW_0 (S0 : Nat → Int → Int) (ws : List Int) (S : Nat → Int → Int) (ro v : Int) : Nat := 1000
noncomputable def rxzFLW_0 : rx_Z := ([(0, 0), (0, 0), (0, 0), (0, 0), (0, 0), (0, 0), (0, 0), (0, 0), (0, 1522), ((-1), (-1))], [], [(((8, 0), 1000019), .inl none)], 0, 0, 0, [(0, .inr (3, (8, 0))), (1, .inr (0, (9, 0)))], [])
noncomputable def rxIFLW_1 (S0 : Nat → Int → Int) (ws : List Int) (S : Nat → Int → Int) (ro v i : Int) : Prop := ws = [ro, -1] ∧ (∀ (p : Nat) (j : Int), p ≠ ro.toNat → S p j = S0 p j) ∧ ∀ j : Int, 0 ≤ j → j < i → S ro.toNat j = -1
noncomputable def rxmFLW_1 (S0 : Nat → Int → Int) (ws : List Int) (S : Nat → Int → Int) (ro v i : Int) : Nat := (100 - i).toNat
noncomputable def rxzFLW_1 : rx_Z := ([(0, 0), (0, 0), (0, 0), (0, 0), (0, 0), (0, 0), (0, 0), (0, 0), (0, 1522), ((-1), (-1)), (0, 36)], [], [(((8, 0), 1000019), .inl none)], 0, 0, 5, [(0, .inr (3, (8, 0))), (1, .inr (0, (9, 0))), (2, .inr (0, (10, 0))), (3, .inr (0, (0, 36)))], [])
noncomputable def rxoFLW_0_0 : bx_HO := (([(0, 0), (0, 0), (0, 0), (0, 0), (0, 0), (0, 0), (0, 0), (0, 0), (0, 1522), ((-1), (-1))], [], [(((8, 0), 1000019), .inl none)], 0, 0, 5, [(3, .inr (0, (0, 36))), (2, .inr (0, (0, 0))), (0, .inr (3, (8, 0))), (1, .inr (0, (9, 0)))], []), [], [], [(0, 0), (0, 0), (0, 0), (0, 0), (0, 0), (0, 0), (0, 0), (0, 0), (8, 0), (9, 0), (0, 0)], 1)
noncomputable def rxoFLW_1_0 : bx_HO := (([(0, 0), (0, 0), (0, 0), (0, 0), (0, 0), (0, 0), (0, 0), (0, 0), (0, 1522), ((-1), (-1)), (0, 35)], [], [(((0, 0), 1851192626986356797424370955790042202572729718740712036692394059000000), .inr (0, (9, 0))), (((8, 0), 1000019), .inl none)], 0, 0, 5, [(2, .inr (0, (10, 1))), (0, .inr (3, (8, 0))), (1, .inr (0, (9, 0))), (3, .inr (0, (0, 36)))], []), [], [], [(0, 0), (0, 0), (0, 0), (0, 0), (0, 0), (0, 0), (0, 0), (0, 0), (8, 0), (9, 0), (10, 1)], 1)
noncomputable def rxeFLW_1_0 : rx_End × List (Nat × Int × Int) := (([(0, 0), (0, 0), (0, 0), (0, 0), (0, 0), (0, 0), (0, 0), (0, 0), (0, 1522), ((-1), (-1)), (36, 36)], [], [(((8, 0), 1000019), .inl none)], none), [])
noncomputable def rxYFLW : List bx_HE := [(rxzFLW_0, [rxoFLW_0_0], []), (rxzFLW_1, [rxoFLW_1_0], [rxeFLW_1_0])]
noncomputable def rxUFLW (q : bx_HE) : Bool := false
noncomputable def rxYBFLW : bx_B := (rxV, rxNP, rxDmf, bx_mdH rxCFLW.2.2.1)
set_option maxRecDepth 100000 in
theorem rxYcFLW : bx_chkH rxYBFLW rxM0 rxCFLW rxYFLW (rxUFLW, fun cut z => rx_ex2 (rxCT rxYBFLW rxCnE) cut 30000 rxCFLW.2.2.2.1 0 z) = true := by decide +kernel
noncomputable def rxIFLW (S0 : Nat → Int → Int) (ws : List Int) (i : Nat) : bx_SP := fun S r => match i with | 0 => rxIFLW_0 S0 ws S (r 8) (r 9) | 1 => rxIFLW_1 S0 ws S (r 8) (r 9) (r 10) | _ => False
noncomputable def rxmFLW (S0 : Nat → Int → Int) (ws : List Int) (i : Nat) (S : Nat → Int → Int) (r : Nat → Int) : Nat := match i with | 0 => rxmFLW_0 S0 ws S (r 8) (r 9) | 1 => rxmFLW_1 S0 ws S (r 8) (r 9) (r 10) | _ => 0
noncomputable def rxPFLW (S0 : Nat → Int → Int) (ws : List Int) : Prop := True
noncomputable def rxPSFLW (S0 : Nat → Int → Int) (ws : List Int) (S : Nat → Int → Int) (w : Option Int) : Prop := w = none ∧ ∃ ro : Int, ws = [ro, -1] ∧ (∀ (p : Nat) (j : Int), p ≠ ro.toNat → S p j = S0 p j) ∧ ∀ j : Int, 0 ≤ j → j < 36 → S ro.toNat j = -1
theorem rxcFLW_0_0 {S0 : Nat → Int → Int} {ws : List Int} {S : Nat → Int → Int} {ro v : Int} (hP : rxPFLW S0 ws) (hin : bx_same rxL (bx_mdl rxCFLW.2.2.1) S0 S) (I0 : bx_Inv rxL S) (hinv : rxIFLW_0 S0 ws S ro v) (l8 : 0 ≤ ro) (u8 : ro ≤ 1522) (l9 : (-1) ≤ v) (u9 : v ≤ (-1)) : (True) ∧ (True) ∧ rxIFLW_1 S0 ws S ro v 0 ∧ rxmFLW_1 S0 ws S ro v 0 < rxmFLW_0 S0 ws S ro v := by
  obtain ⟨rfl, hw⟩ := hinv
  have ev : v = -1 := by omega
  subst ev
  exact ⟨trivial, trivial, ⟨hw, fun _ _ _ => rfl, fun j a b => absurd a (by omega)⟩, by unfold rxmFLW_0 rxmFLW_1; omega⟩
theorem rxgFLW_0_0 {X : (Nat → Int → Int) → Prop} {S0 : Nat → Int → Int} {ws : List Int} (hP : rxPFLW S0 ws) : bx_obC rxL X S0 rxCFLW.2.2.1 (rxIFLW S0 ws) (rxmFLW S0 ws) 0 rxzFLW_0 rxoFLW_0_0 := by
  intro S S_p r r_p hinv hX hin hsm_ hseg
  obtain ⟨I0, I1, h0_, hr_, b_, f_, d_⟩ := bx_cl (evs := []) (fvs := []) hseg (by decide +kernel) (by decide +kernel)
  have hinv : rxIFLW_0 S0 ws S (r 8) (r 9) := hinv
  rw [← hr_ 8 (by decide), ← hr_ 9 (by decide)] at hinv
  obtain ⟨⟨l8, u8⟩, ⟨l9, u9⟩, -⟩ := b_
  have w_ := d_
  subst w_
  have g := rxcFLW_0_0 hP hin I0 hinv l8 u8 l9 u9
  refine ⟨bx_narP_ok (l := []) g.1, bx_nfP_ok h0_ (fvs := []) (by decide +kernel) g.2.1, ?_, ?_⟩
  · show rxIFLW_1 S0 ws S_p (bx_val [(0, 0), (0, 0), (0, 0), (0, 0), (0, 0), (0, 0), (0, 0), (0, 0), (8, 0), (9, 0), (0, 0)] r_p 8) (bx_val [(0, 0), (0, 0), (0, 0), (0, 0), (0, 0), (0, 0), (0, 0), (0, 0), (8, 0), (9, 0), (0, 0)] r_p 9) (bx_val [(0, 0), (0, 0), (0, 0), (0, 0), (0, 0), (0, 0), (0, 0), (0, 0), (8, 0), (9, 0), (0, 0)] r_p 10)
    rw [bx_val_x (n := 8) (e := (8, 0)) h0_ rfl, bx_val_x (n := 9) (e := (9, 0)) h0_ rfl, bx_val_x (n := 10) (e := (0, 0)) h0_ rfl]
    exact g.2.2.1
  · show rxmFLW_1 S0 ws S_p (bx_val [(0, 0), (0, 0), (0, 0), (0, 0), (0, 0), (0, 0), (0, 0), (0, 0), (8, 0), (9, 0), (0, 0)] r_p 8) (bx_val [(0, 0), (0, 0), (0, 0), (0, 0), (0, 0), (0, 0), (0, 0), (0, 0), (8, 0), (9, 0), (0, 0)] r_p 9) (bx_val [(0, 0), (0, 0), (0, 0), (0, 0), (0, 0), (0, 0), (0, 0), (0, 0), (8, 0), (9, 0), (0, 0)] r_p 10) < rxmFLW_0 S0 ws S_p (r 8) (r 9)
    rw [bx_val_x (n := 8) (e := (8, 0)) h0_ rfl, bx_val_x (n := 9) (e := (9, 0)) h0_ rfl, bx_val_x (n := 10) (e := (0, 0)) h0_ rfl, ← hr_ 8 (by decide), ← hr_ 9 (by decide)]
    exact g.2.2.2
theorem rxcFLW_1_0 {S0 : Nat → Int → Int} {ws : List Int} {S : Nat → Int → Int} {ro v i : Int} (hP : rxPFLW S0 ws) (hin : bx_same rxL (bx_mdl rxCFLW.2.2.1) S0 S) (I0 : bx_Inv rxL S) (hinv : rxIFLW_1 S0 ws S ro v i) (l8 : 0 ≤ ro) (u8 : ro ≤ 1522) (l9 : (-1) ≤ v) (u9 : v ≤ (-1)) (l10 : 0 ≤ i) (u10 : i ≤ 35) : (True) ∧ (True) ∧ rxIFLW_1 S0 ws (bx_up S (ro).toNat i v) ro v (i + 1) ∧ rxmFLW_1 S0 ws (bx_up S (ro).toNat i v) ro v (i + 1) < rxmFLW_1 S0 ws S ro v i := by
  obtain ⟨hw, hf, hr⟩ := hinv
  refine ⟨trivial, trivial, ⟨hw, fun p j hp => (bx_up_ne (by omega)).trans (hf p j hp), fun j a b => ?_⟩, by unfold rxmFLW_1; omega⟩
  by_cases c : j = i
  · rw [c]
    exact bx_up_at.trans (by omega)
  · exact (bx_up_ne (by omega)).trans (hr j a (by omega))
theorem rxgFLW_1_0 {X : (Nat → Int → Int) → Prop} {S0 : Nat → Int → Int} {ws : List Int} (hP : rxPFLW S0 ws) : bx_obC rxL X S0 rxCFLW.2.2.1 (rxIFLW S0 ws) (rxmFLW S0 ws) 1 rxzFLW_1 rxoFLW_1_0 := by
  intro S S_p r r_p hinv hX hin hsm_ hseg
  obtain ⟨I0, I1, h0_, hr_, b_, f_, d_⟩ := bx_cl (evs := [(1, (8, 0), (10, 0), .inr (0, (9, 0)))]) (fvs := []) hseg (by decide +kernel) (by decide +kernel)
  have hinv : rxIFLW_1 S0 ws S (r 8) (r 9) (r 10) := hinv
  rw [← hr_ 8 (by decide), ← hr_ 9 (by decide), ← hr_ 10 (by decide)] at hinv
  obtain ⟨⟨l8, u8⟩, ⟨l9, u9⟩, ⟨l10, u10⟩, -⟩ := b_
  obtain ⟨T0, w_, w0⟩ := d_
  subst w0
  subst w_
  have g := rxcFLW_1_0 hP hin I0 hinv l8 u8 l9 u9 l10 u10
  refine ⟨bx_narP_ok (l := []) g.1, bx_nfP_ok h0_ (fvs := []) (by decide +kernel) g.2.1, ?_, ?_⟩
  · show rxIFLW_1 S0 ws (bx_up T0 (r_p 8).toNat (r_p 10) (r_p 9)) (bx_val [(0, 0), (0, 0), (0, 0), (0, 0), (0, 0), (0, 0), (0, 0), (0, 0), (8, 0), (9, 0), (10, 1)] r_p 8) (bx_val [(0, 0), (0, 0), (0, 0), (0, 0), (0, 0), (0, 0), (0, 0), (0, 0), (8, 0), (9, 0), (10, 1)] r_p 9) (bx_val [(0, 0), (0, 0), (0, 0), (0, 0), (0, 0), (0, 0), (0, 0), (0, 0), (8, 0), (9, 0), (10, 1)] r_p 10)
    rw [bx_val_x (n := 8) (e := (8, 0)) h0_ rfl, bx_val_x (n := 9) (e := (9, 0)) h0_ rfl, bx_val_x (n := 10) (e := (10, 1)) h0_ rfl]
    exact g.2.2.1
  · show rxmFLW_1 S0 ws (bx_up T0 (r_p 8).toNat (r_p 10) (r_p 9)) (bx_val [(0, 0), (0, 0), (0, 0), (0, 0), (0, 0), (0, 0), (0, 0), (0, 0), (8, 0), (9, 0), (10, 1)] r_p 8) (bx_val [(0, 0), (0, 0), (0, 0), (0, 0), (0, 0), (0, 0), (0, 0), (0, 0), (8, 0), (9, 0), (10, 1)] r_p 9) (bx_val [(0, 0), (0, 0), (0, 0), (0, 0), (0, 0), (0, 0), (0, 0), (0, 0), (8, 0), (9, 0), (10, 1)] r_p 10) < rxmFLW_1 S0 ws T0 (r 8) (r 9) (r 10)
    rw [bx_val_x (n := 8) (e := (8, 0)) h0_ rfl, bx_val_x (n := 9) (e := (9, 0)) h0_ rfl, bx_val_x (n := 10) (e := (10, 1)) h0_ rfl, ← hr_ 8 (by decide), ← hr_ 9 (by decide), ← hr_ 10 (by decide)]
    exact g.2.2.2
theorem rxdFLW_1_0 {S0 : Nat → Int → Int} {ws : List Int} {S : Nat → Int → Int} {ro v i : Int} (hP : rxPFLW S0 ws) (hin : bx_same rxL (bx_mdl rxCFLW.2.2.1) S0 S) (hin2 : bx_same rxL (bx_mdl rxCFLW.2.2.1) S S) (I0 : bx_Inv rxL S) (I1 : bx_Inv rxL S) (hinv : rxIFLW_1 S0 ws S ro v i) (l8 : 0 ≤ ro) (u8 : ro ≤ 1522) (l9 : (-1) ≤ v) (u9 : v ≤ (-1)) (l10 : 36 ≤ i) (u10 : i ≤ 36) : (True) ∧ rxPSFLW S0 ws S none := by
  obtain ⟨hw, hf, hr⟩ := hinv
  exact ⟨trivial, rfl, ro, hw, hf, fun j a b => hr j a (by omega)⟩
theorem rxfFLW_1_0 {X : (Nat → Int → Int) → Prop} {S0 : Nat → Int → Int} {ws : List Int} (hP : rxPFLW S0 ws) : bx_obE rxL X S0 rxCFLW.2.2.1 (rxIFLW S0 ws) (rxPSFLW S0 ws) 1 rxzFLW_1 rxeFLW_1_0 := by
  intro S S_p r r_p hinv hX hin hsm_ hseg
  obtain ⟨I0, I1, h0_, hr_, b_, f_, d_⟩ := bx_cl (evs := []) (fvs := []) hseg (by decide +kernel) (by decide +kernel)
  have hinv : rxIFLW_1 S0 ws S (r 8) (r 9) (r 10) := hinv
  rw [← hr_ 8 (by decide), ← hr_ 9 (by decide), ← hr_ 10 (by decide)] at hinv
  obtain ⟨⟨l8, u8⟩, ⟨l9, u9⟩, ⟨l10, u10⟩, -⟩ := b_
  have w_ := d_
  subst w_
  have g := rxdFLW_1_0 hP hin hsm_ I0 I1 hinv l8 u8 l9 u9 l10 u10
  refine ⟨bx_narP_ok (l := []) g.1, ?_⟩
  exact g.2
theorem rxgCFLW {X : (Nat → Int → Int) → Prop} {S0 : Nat → Int → Int} {ws : List Int} (hP : rxPFLW S0 ws) : bx_allI (fun i q => rxUFLW q = true ∨ bx_allP (fun o => bx_obC rxL X S0 rxCFLW.2.2.1 (rxIFLW S0 ws) (rxmFLW S0 ws) i q.1 o) q.2.1) 0 rxYFLW := ⟨Or.inr ⟨rxgFLW_0_0 hP, trivial⟩, Or.inr ⟨rxgFLW_1_0 hP, trivial⟩, trivial⟩
theorem rxgEFLW {X : (Nat → Int → Int) → Prop} {S0 : Nat → Int → Int} {ws : List Int} (hP : rxPFLW S0 ws) : bx_allI (fun i q => rxUFLW q = true ∨ bx_allP (fun E => bx_obE rxL X S0 rxCFLW.2.2.1 (rxIFLW S0 ws) (rxPSFLW S0 ws) i q.1 E) q.2.2) 0 rxYFLW := ⟨Or.inr trivial, Or.inr ⟨rxfFLW_1_0 hP, trivial⟩, trivial⟩
theorem rxQFLW {PX : State → Prop} {Dg : va_G} {A : Nat → Prop} {ad xa : Nat → Nat} {l : Launch} {X : (Nat → Int → Int) → Prop} (hPX : rx_PXOK rxNW A PX) (hsl : ∀ s : State, PX s → ∀ o idx n : Nat, rxSl o idx = some n → ∃ tx : String, vk_R (rxNm o) idx tx (ad n) s)
    (hX : ∀ S S_p : Nat → Int → Int, X S → bx_same rxL (bx_mdl rxCFLW.2.2.1) S S_p → X S_p)
    (ih : ∀ (j2 : Nat) (ct2 : bx_Ct) (M2 : rx_Mt), ct2 ∈ rxCnE j2 → ct2.2.2.2.1 + 1 ≤ rxCFLW.2.2.2.1 → rxT.2.2.2.2.2 j2 = some M2 → bx_Con rxG rxNW rxAO PX Dg rxL X vwCl A ad l M2 ct2) : bx_ConP rxG rxNW rxAO PX Dg rxL X vwCl A ad l rxM0 rxCFLW rxPFLW rxPSFLW :=
  rxQof (xa := xa) (Cn := rxCnE) (f := 30000) (j := 0) (tab := rxYFLW) (us := rxUFLW) hPX hsl hX ih rfl rxYcFLW rxIFLW rxmFLW
    (fun S0 ws r I0 I ht0 ht as he he1 hX0 hI0 hP hs ha => by
      have e := he.symm.trans (show bx_ent0 rxNP rxCFLW.1 bx_I0 [] = some ([(0, 0), (0, 0), (0, 0), (0, 0), (0, 0), (0, 0), (0, 0), (0, 0), (0, 1522), ((-1), (-1))], [(((8, 0), 1000019), .inl none)], [.inr (3, (8, 0)), .inr (0, (9, 0))]) from rfl)
      cases e
      subst ha
      have h0 : r 0 = 0 := hs.1
      show rxIFLW_0 S0 _ S0 (r 8) (r 9)
      refine ⟨rfl, ?_⟩
      simp only [List.map_cons, List.map_nil, bx_xv_ok h0]
      rfl)
    (fun S0 ws hP => fun i q hq hus => absurd (show false = true from hus) Bool.false_ne_true) (fun S0 ws hP => rxgCFLW hP) (fun S0 ws hP => rxgEFLW hP)
noncomputable def rxCFLN : bx_Ct := ([(3, (2, 18, 0)), (0, (0, (-1), (-1)))], none, [(1020, 0)], 0, [])
noncomputable def rxIFLN_0 (S0 : Nat → Int → Int) (ws : List Int) (S : Nat → Int → Int) (ro v : Int) : Prop := S = S0 ∧ ws = [ro, v]
noncomputable def rxmFLN_0 (S0 : Nat → Int → Int) (ws : List Int) (S : Nat → Int → Int) (ro v : Int) : Nat := 1000
noncomputable def rxzFLN_0 : rx_Z := ([(0, 0), (0, 0), (0, 0), (0, 0), (0, 0), (0, 0), (0, 0), (0, 0), (0, 1522), ((-1), (-1))], [], [(((8, 0), 1000018), .inl none)], 0, 0, 0, [(0, .inr (3, (8, 0))), (1, .inr (0, (9, 0)))], [])
noncomputable def rxIFLN_1 (S0 : Nat → Int → Int) (ws : List Int) (S : Nat → Int → Int) (ro v i : Int) : Prop := ws = [ro, -1] ∧ (∀ (p : Nat) (j : Int), p ≠ ro.toNat → S p j = S0 p j) ∧ ∀ j : Int, 0 ≤ j → j < i → S ro.toNat j = -1
noncomputable def rxmFLN_1 (S0 : Nat → Int → Int) (ws : List Int) (S : Nat → Int → Int) (ro v i : Int) : Nat := (100 - i).toNat
noncomputable def rxzFLN_1 : rx_Z := ([(0, 0), (0, 0), (0, 0), (0, 0), (0, 0), (0, 0), (0, 0), (0, 0), (0, 1522), ((-1), (-1)), (0, 36)], [], [(((8, 0), 1000018), .inl none)], 0, 0, 5, [(0, .inr (3, (8, 0))), (1, .inr (0, (9, 0))), (2, .inr (0, (10, 0))), (3, .inr (0, (0, 36)))], [])
noncomputable def rxoFLN_0_0 : bx_HO := (([(0, 0), (0, 0), (0, 0), (0, 0), (0, 0), (0, 0), (0, 0), (0, 0), (0, 1522), ((-1), (-1))], [], [(((8, 0), 1000018), .inl none)], 0, 0, 5, [(3, .inr (0, (0, 36))), (2, .inr (0, (0, 0))), (0, .inr (3, (8, 0))), (1, .inr (0, (9, 0)))], []), [], [], [(0, 0), (0, 0), (0, 0), (0, 0), (0, 0), (0, 0), (0, 0), (0, 0), (8, 0), (9, 0), (0, 0)], 1)
noncomputable def rxoFLN_1_0 : bx_HO := (([(0, 0), (0, 0), (0, 0), (0, 0), (0, 0), (0, 0), (0, 0), (0, 0), (0, 1522), ((-1), (-1)), (0, 35)], [], [(((0, 0), 1851192626986356797424370955790042202572729718740712036692394059000000), .inr (0, (9, 0))), (((8, 0), 1000018), .inl none)], 0, 0, 5, [(2, .inr (0, (10, 1))), (0, .inr (3, (8, 0))), (1, .inr (0, (9, 0))), (3, .inr (0, (0, 36)))], []), [], [], [(0, 0), (0, 0), (0, 0), (0, 0), (0, 0), (0, 0), (0, 0), (0, 0), (8, 0), (9, 0), (10, 1)], 1)
noncomputable def rxeFLN_1_0 : rx_End × List (Nat × Int × Int) := (([(0, 0), (0, 0), (0, 0), (0, 0), (0, 0), (0, 0), (0, 0), (0, 0), (0, 1522), ((-1), (-1)), (36, 36)], [], [(((8, 0), 1000018), .inl none)], none), [])
noncomputable def rxYFLN : List bx_HE := [(rxzFLN_0, [rxoFLN_0_0], []), (rxzFLN_1, [rxoFLN_1_0], [rxeFLN_1_0])]
noncomputable def rxUFLN (q : bx_HE) : Bool := false
noncomputable def rxYBFLN : bx_B := (rxV, rxNP, rxDmf, bx_mdH rxCFLN.2.2.1)
set_option maxRecDepth 100000 in
theorem rxYcFLN : bx_chkH rxYBFLN rxM0 rxCFLN rxYFLN (rxUFLN, fun cut z => rx_ex2 (rxCT rxYBFLN rxCnE) cut 30000 rxCFLN.2.2.2.1 0 z) = true := by decide +kernel
noncomputable def rxIFLN (S0 : Nat → Int → Int) (ws : List Int) (i : Nat) : bx_SP := fun S r => match i with | 0 => rxIFLN_0 S0 ws S (r 8) (r 9) | 1 => rxIFLN_1 S0 ws S (r 8) (r 9) (r 10) | _ => False
noncomputable def rxmFLN (S0 : Nat → Int → Int) (ws : List Int) (i : Nat) (S : Nat → Int → Int) (r : Nat → Int) : Nat := match i with | 0 => rxmFLN_0 S0 ws S (r 8) (r 9) | 1 => rxmFLN_1 S0 ws S (r 8) (r 9) (r 10) | _ => 0
noncomputable def rxPFLN (S0 : Nat → Int → Int) (ws : List Int) : Prop := True
noncomputable def rxPSFLN (S0 : Nat → Int → Int) (ws : List Int) (S : Nat → Int → Int) (w : Option Int) : Prop := w = none ∧ ∃ ro : Int, ws = [ro, -1] ∧ (∀ (p : Nat) (j : Int), p ≠ ro.toNat → S p j = S0 p j) ∧ ∀ j : Int, 0 ≤ j → j < 36 → S ro.toNat j = -1
theorem rxcFLN_0_0 {S0 : Nat → Int → Int} {ws : List Int} {S : Nat → Int → Int} {ro v : Int} (hP : rxPFLN S0 ws) (hin : bx_same rxL (bx_mdl rxCFLN.2.2.1) S0 S) (I0 : bx_Inv rxL S) (hinv : rxIFLN_0 S0 ws S ro v) (l8 : 0 ≤ ro) (u8 : ro ≤ 1522) (l9 : (-1) ≤ v) (u9 : v ≤ (-1)) : (True) ∧ (True) ∧ rxIFLN_1 S0 ws S ro v 0 ∧ rxmFLN_1 S0 ws S ro v 0 < rxmFLN_0 S0 ws S ro v := by
  obtain ⟨rfl, hw⟩ := hinv
  have ev : v = -1 := by omega
  subst ev
  exact ⟨trivial, trivial, ⟨hw, fun _ _ _ => rfl, fun j a b => absurd a (by omega)⟩, by unfold rxmFLN_0 rxmFLN_1; omega⟩
theorem rxgFLN_0_0 {X : (Nat → Int → Int) → Prop} {S0 : Nat → Int → Int} {ws : List Int} (hP : rxPFLN S0 ws) : bx_obC rxL X S0 rxCFLN.2.2.1 (rxIFLN S0 ws) (rxmFLN S0 ws) 0 rxzFLN_0 rxoFLN_0_0 := by
  intro S S_p r r_p hinv hX hin hsm_ hseg
  obtain ⟨I0, I1, h0_, hr_, b_, f_, d_⟩ := bx_cl (evs := []) (fvs := []) hseg (by decide +kernel) (by decide +kernel)
  have hinv : rxIFLN_0 S0 ws S (r 8) (r 9) := hinv
  rw [← hr_ 8 (by decide), ← hr_ 9 (by decide)] at hinv
  obtain ⟨⟨l8, u8⟩, ⟨l9, u9⟩, -⟩ := b_
  have w_ := d_
  subst w_
  have g := rxcFLN_0_0 hP hin I0 hinv l8 u8 l9 u9
  refine ⟨bx_narP_ok (l := []) g.1, bx_nfP_ok h0_ (fvs := []) (by decide +kernel) g.2.1, ?_, ?_⟩
  · show rxIFLN_1 S0 ws S_p (bx_val [(0, 0), (0, 0), (0, 0), (0, 0), (0, 0), (0, 0), (0, 0), (0, 0), (8, 0), (9, 0), (0, 0)] r_p 8) (bx_val [(0, 0), (0, 0), (0, 0), (0, 0), (0, 0), (0, 0), (0, 0), (0, 0), (8, 0), (9, 0), (0, 0)] r_p 9) (bx_val [(0, 0), (0, 0), (0, 0), (0, 0), (0, 0), (0, 0), (0, 0), (0, 0), (8, 0), (9, 0), (0, 0)] r_p 10)
    rw [bx_val_x (n := 8) (e := (8, 0)) h0_ rfl, bx_val_x (n := 9) (e := (9, 0)) h0_ rfl, bx_val_x (n := 10) (e := (0, 0)) h0_ rfl]
    exact g.2.2.1
  · show rxmFLN_1 S0 ws S_p (bx_val [(0, 0), (0, 0), (0, 0), (0, 0), (0, 0), (0, 0), (0, 0), (0, 0), (8, 0), (9, 0), (0, 0)] r_p 8) (bx_val [(0, 0), (0, 0), (0, 0), (0, 0), (0, 0), (0, 0), (0, 0), (0, 0), (8, 0), (9, 0), (0, 0)] r_p 9) (bx_val [(0, 0), (0, 0), (0, 0), (0, 0), (0, 0), (0, 0), (0, 0), (0, 0), (8, 0), (9, 0), (0, 0)] r_p 10) < rxmFLN_0 S0 ws S_p (r 8) (r 9)
    rw [bx_val_x (n := 8) (e := (8, 0)) h0_ rfl, bx_val_x (n := 9) (e := (9, 0)) h0_ rfl, bx_val_x (n := 10) (e := (0, 0)) h0_ rfl, ← hr_ 8 (by decide), ← hr_ 9 (by decide)]
    exact g.2.2.2
theorem rxcFLN_1_0 {S0 : Nat → Int → Int} {ws : List Int} {S : Nat → Int → Int} {ro v i : Int} (hP : rxPFLN S0 ws) (hin : bx_same rxL (bx_mdl rxCFLN.2.2.1) S0 S) (I0 : bx_Inv rxL S) (hinv : rxIFLN_1 S0 ws S ro v i) (l8 : 0 ≤ ro) (u8 : ro ≤ 1522) (l9 : (-1) ≤ v) (u9 : v ≤ (-1)) (l10 : 0 ≤ i) (u10 : i ≤ 35) : (True) ∧ (True) ∧ rxIFLN_1 S0 ws (bx_up S (ro).toNat i v) ro v (i + 1) ∧ rxmFLN_1 S0 ws (bx_up S (ro).toNat i v) ro v (i + 1) < rxmFLN_1 S0 ws S ro v i := by
  obtain ⟨hw, hf, hr⟩ := hinv
  refine ⟨trivial, trivial, ⟨hw, fun p j hp => (bx_up_ne (by omega)).trans (hf p j hp), fun j a b => ?_⟩, by unfold rxmFLN_1; omega⟩
  by_cases c : j = i
  · rw [c]
    exact bx_up_at.trans (by omega)
  · exact (bx_up_ne (by omega)).trans (hr j a (by omega))
theorem rxgFLN_1_0 {X : (Nat → Int → Int) → Prop} {S0 : Nat → Int → Int} {ws : List Int} (hP : rxPFLN S0 ws) : bx_obC rxL X S0 rxCFLN.2.2.1 (rxIFLN S0 ws) (rxmFLN S0 ws) 1 rxzFLN_1 rxoFLN_1_0 := by
  intro S S_p r r_p hinv hX hin hsm_ hseg
  obtain ⟨I0, I1, h0_, hr_, b_, f_, d_⟩ := bx_cl (evs := [(1, (8, 0), (10, 0), .inr (0, (9, 0)))]) (fvs := []) hseg (by decide +kernel) (by decide +kernel)
  have hinv : rxIFLN_1 S0 ws S (r 8) (r 9) (r 10) := hinv
  rw [← hr_ 8 (by decide), ← hr_ 9 (by decide), ← hr_ 10 (by decide)] at hinv
  obtain ⟨⟨l8, u8⟩, ⟨l9, u9⟩, ⟨l10, u10⟩, -⟩ := b_
  obtain ⟨T0, w_, w0⟩ := d_
  subst w0
  subst w_
  have g := rxcFLN_1_0 hP hin I0 hinv l8 u8 l9 u9 l10 u10
  refine ⟨bx_narP_ok (l := []) g.1, bx_nfP_ok h0_ (fvs := []) (by decide +kernel) g.2.1, ?_, ?_⟩
  · show rxIFLN_1 S0 ws (bx_up T0 (r_p 8).toNat (r_p 10) (r_p 9)) (bx_val [(0, 0), (0, 0), (0, 0), (0, 0), (0, 0), (0, 0), (0, 0), (0, 0), (8, 0), (9, 0), (10, 1)] r_p 8) (bx_val [(0, 0), (0, 0), (0, 0), (0, 0), (0, 0), (0, 0), (0, 0), (0, 0), (8, 0), (9, 0), (10, 1)] r_p 9) (bx_val [(0, 0), (0, 0), (0, 0), (0, 0), (0, 0), (0, 0), (0, 0), (0, 0), (8, 0), (9, 0), (10, 1)] r_p 10)
    rw [bx_val_x (n := 8) (e := (8, 0)) h0_ rfl, bx_val_x (n := 9) (e := (9, 0)) h0_ rfl, bx_val_x (n := 10) (e := (10, 1)) h0_ rfl]
    exact g.2.2.1
  · show rxmFLN_1 S0 ws (bx_up T0 (r_p 8).toNat (r_p 10) (r_p 9)) (bx_val [(0, 0), (0, 0), (0, 0), (0, 0), (0, 0), (0, 0), (0, 0), (0, 0), (8, 0), (9, 0), (10, 1)] r_p 8) (bx_val [(0, 0), (0, 0), (0, 0), (0, 0), (0, 0), (0, 0), (0, 0), (0, 0), (8, 0), (9, 0), (10, 1)] r_p 9) (bx_val [(0, 0), (0, 0), (0, 0), (0, 0), (0, 0), (0, 0), (0, 0), (0, 0), (8, 0), (9, 0), (10, 1)] r_p 10) < rxmFLN_1 S0 ws T0 (r 8) (r 9) (r 10)
    rw [bx_val_x (n := 8) (e := (8, 0)) h0_ rfl, bx_val_x (n := 9) (e := (9, 0)) h0_ rfl, bx_val_x (n := 10) (e := (10, 1)) h0_ rfl, ← hr_ 8 (by decide), ← hr_ 9 (by decide), ← hr_ 10 (by decide)]
    exact g.2.2.2
theorem rxdFLN_1_0 {S0 : Nat → Int → Int} {ws : List Int} {S : Nat → Int → Int} {ro v i : Int} (hP : rxPFLN S0 ws) (hin : bx_same rxL (bx_mdl rxCFLN.2.2.1) S0 S) (hin2 : bx_same rxL (bx_mdl rxCFLN.2.2.1) S S) (I0 : bx_Inv rxL S) (I1 : bx_Inv rxL S) (hinv : rxIFLN_1 S0 ws S ro v i) (l8 : 0 ≤ ro) (u8 : ro ≤ 1522) (l9 : (-1) ≤ v) (u9 : v ≤ (-1)) (l10 : 36 ≤ i) (u10 : i ≤ 36) : (True) ∧ rxPSFLN S0 ws S none := by
  obtain ⟨hw, hf, hr⟩ := hinv
  exact ⟨trivial, rfl, ro, hw, hf, fun j a b => hr j a (by omega)⟩
theorem rxfFLN_1_0 {X : (Nat → Int → Int) → Prop} {S0 : Nat → Int → Int} {ws : List Int} (hP : rxPFLN S0 ws) : bx_obE rxL X S0 rxCFLN.2.2.1 (rxIFLN S0 ws) (rxPSFLN S0 ws) 1 rxzFLN_1 rxeFLN_1_0 := by
  intro S S_p r r_p hinv hX hin hsm_ hseg
  obtain ⟨I0, I1, h0_, hr_, b_, f_, d_⟩ := bx_cl (evs := []) (fvs := []) hseg (by decide +kernel) (by decide +kernel)
  have hinv : rxIFLN_1 S0 ws S (r 8) (r 9) (r 10) := hinv
  rw [← hr_ 8 (by decide), ← hr_ 9 (by decide), ← hr_ 10 (by decide)] at hinv
  obtain ⟨⟨l8, u8⟩, ⟨l9, u9⟩, ⟨l10, u10⟩, -⟩ := b_
  have w_ := d_
  subst w_
  have g := rxdFLN_1_0 hP hin hsm_ I0 I1 hinv l8 u8 l9 u9 l10 u10
  refine ⟨bx_narP_ok (l := []) g.1, ?_⟩
  exact g.2
theorem rxgCFLN {X : (Nat → Int → Int) → Prop} {S0 : Nat → Int → Int} {ws : List Int} (hP : rxPFLN S0 ws) : bx_allI (fun i q => rxUFLN q = true ∨ bx_allP (fun o => bx_obC rxL X S0 rxCFLN.2.2.1 (rxIFLN S0 ws) (rxmFLN S0 ws) i q.1 o) q.2.1) 0 rxYFLN := ⟨Or.inr ⟨rxgFLN_0_0 hP, trivial⟩, Or.inr ⟨rxgFLN_1_0 hP, trivial⟩, trivial⟩
theorem rxgEFLN {X : (Nat → Int → Int) → Prop} {S0 : Nat → Int → Int} {ws : List Int} (hP : rxPFLN S0 ws) : bx_allI (fun i q => rxUFLN q = true ∨ bx_allP (fun E => bx_obE rxL X S0 rxCFLN.2.2.1 (rxIFLN S0 ws) (rxPSFLN S0 ws) i q.1 E) q.2.2) 0 rxYFLN := ⟨Or.inr trivial, Or.inr ⟨rxfFLN_1_0 hP, trivial⟩, trivial⟩
theorem rxQFLN {PX : State → Prop} {Dg : va_G} {A : Nat → Prop} {ad xa : Nat → Nat} {l : Launch} {X : (Nat → Int → Int) → Prop} (hPX : rx_PXOK rxNW A PX) (hsl : ∀ s : State, PX s → ∀ o idx n : Nat, rxSl o idx = some n → ∃ tx : String, vk_R (rxNm o) idx tx (ad n) s)
    (hX : ∀ S S_p : Nat → Int → Int, X S → bx_same rxL (bx_mdl rxCFLN.2.2.1) S S_p → X S_p)
    (ih : ∀ (j2 : Nat) (ct2 : bx_Ct) (M2 : rx_Mt), ct2 ∈ rxCnE j2 → ct2.2.2.2.1 + 1 ≤ rxCFLN.2.2.2.1 → rxT.2.2.2.2.2 j2 = some M2 → bx_Con rxG rxNW rxAO PX Dg rxL X vwCl A ad l M2 ct2) : bx_ConP rxG rxNW rxAO PX Dg rxL X vwCl A ad l rxM0 rxCFLN rxPFLN rxPSFLN :=
  rxQof (xa := xa) (Cn := rxCnE) (f := 30000) (j := 0) (tab := rxYFLN) (us := rxUFLN) hPX hsl hX ih rfl rxYcFLN rxIFLN rxmFLN
    (fun S0 ws r I0 I ht0 ht as he he1 hX0 hI0 hP hs ha => by
      have e := he.symm.trans (show bx_ent0 rxNP rxCFLN.1 bx_I0 [] = some ([(0, 0), (0, 0), (0, 0), (0, 0), (0, 0), (0, 0), (0, 0), (0, 0), (0, 1522), ((-1), (-1))], [(((8, 0), 1000018), .inl none)], [.inr (3, (8, 0)), .inr (0, (9, 0))]) from rfl)
      cases e
      subst ha
      have h0 : r 0 = 0 := hs.1
      show rxIFLN_0 S0 _ S0 (r 8) (r 9)
      refine ⟨rfl, ?_⟩
      simp only [List.map_cons, List.map_nil, bx_xv_ok h0]
      rfl)
    (fun S0 ws hP => fun i q hq hus => absurd (show false = true from hus) Bool.false_ne_true) (fun S0 ws hP => rxgCFLN hP) (fun S0 ws hP => rxgEFLN hP)
noncomputable def rxCCLR : bx_Ct := ([(3, (2, 10, 0))], none, [(1019, 0), (1020, 0)], 1, [])
noncomputable def rxICLR_0 (S0 : Nat → Int → Int) (ws : List Int) (S : Nat → Int → Int) (sc : Int) : Prop := S = S0 ∧ ws = [sc]
noncomputable def rxmCLR_0 (S0 : Nat → Int → Int) (ws : List Int) (S : Nat → Int → Int) (sc : Int) : Nat := 100
noncomputable def rxzCLR_0 : rx_Z := ([(0, 0), (0, 0), (0, 0), (0, 0), (0, 0), (0, 0), (0, 0), (0, 0), (0, 1522)], [], [(((8, 0), 1000010), .inl none)], 0, 0, 0, [(0, .inr (3, (8, 0)))], [])
noncomputable def rxICLR_1 (S0 : Nat → Int → Int) (ws : List Int) (S : Nat → Int → Int) (sc wr : Int) : Prop := S = S0 ∧ ws = [sc] ∧ wr = sc + 1
noncomputable def rxmCLR_1 (S0 : Nat → Int → Int) (ws : List Int) (S : Nat → Int → Int) (sc wr : Int) : Nat := 90
noncomputable def rxzCLR_1 : rx_Z := ([(0, 0), (0, 0), (0, 0), (0, 0), (0, 0), (0, 0), (0, 0), (0, 0), (0, 1522), (0, 1522)], [], [(((8, 0), 1000010), .inl none), (((9, 0), 1000019), .inl none)], 0, 0, 5, [(0, .inr (3, (8, 0)))], [.inr (0, (0, (-1))), .inr (3, (9, 0))])
noncomputable def rxICLR_2 (S0 : Nat → Int → Int) (ws : List Int) (S : Nat → Int → Int) (sc wr : Int) : Prop := ws = [sc] ∧ (∀ (p : Nat) (j : Int), p ≠ (sc + 1).toNat → S p j = S0 p j) ∧ (∀ j : Int, 0 ≤ j → j < 36 → S (sc + 1).toNat j = -1)
noncomputable def rxmCLR_2 (S0 : Nat → Int → Int) (ws : List Int) (S : Nat → Int → Int) (sc wr : Int) : Nat := 80
noncomputable def rxzCLR_2 : rx_Z := ([(0, 0), (0, 0), (0, 0), (0, 0), (0, 0), (0, 0), (0, 0), (0, 0), (0, 1522), (0, 1522)], [], [(((8, 0), 1000010), .inl none), (((9, 0), 1000019), .inl none)], 0, 0, 8, [(0, .inr (3, (8, 0)))], [])
noncomputable def rxICLR_3 (S0 : Nat → Int → Int) (ws : List Int) (S : Nat → Int → Int) (sc nr : Int) : Prop := ws = [sc] ∧ (∀ (p : Nat) (j : Int), p ≠ (sc + 1).toNat → S p j = S0 p j) ∧ (∀ j : Int, 0 ≤ j → j < 36 → S (sc + 1).toNat j = -1) ∧ nr = sc + 2
noncomputable def rxmCLR_3 (S0 : Nat → Int → Int) (ws : List Int) (S : Nat → Int → Int) (sc nr : Int) : Nat := 70
noncomputable def rxzCLR_3 : rx_Z := ([(0, 0), (0, 0), (0, 0), (0, 0), (0, 0), (0, 0), (0, 0), (0, 0), (0, 1522), (0, 1522)], [], [(((8, 0), 1000010), .inl none), (((9, 0), 1000018), .inl none)], 0, 0, 13, [(0, .inr (3, (8, 0)))], [.inr (0, (0, (-1))), .inr (3, (9, 0))])
noncomputable def rxICLR_4 (S0 : Nat → Int → Int) (ws : List Int) (S : Nat → Int → Int) (sc nr : Int) : Prop := ws = [sc] ∧ (∀ (p : Nat) (j : Int), p ≠ (sc + 1).toNat → p ≠ (sc + 2).toNat → S p j = S0 p j) ∧ ∀ j : Int, 0 ≤ j → j < 36 → S (sc + 1).toNat j = -1 ∧ S (sc + 2).toNat j = -1
noncomputable def rxmCLR_4 (S0 : Nat → Int → Int) (ws : List Int) (S : Nat → Int → Int) (sc nr : Int) : Nat := 60
noncomputable def rxzCLR_4 : rx_Z := ([(0, 0), (0, 0), (0, 0), (0, 0), (0, 0), (0, 0), (0, 0), (0, 0), (0, 1522), (0, 1522)], [], [(((8, 0), 1000010), .inl none), (((9, 0), 1000018), .inl none)], 0, 0, 16, [(0, .inr (3, (8, 0)))], [])
noncomputable def rxoCLR_0_0 : bx_HO := (([(0, 0), (0, 0), (0, 0), (0, 0), (0, 0), (0, 0), (0, 0), (0, 0), (0, 1522), (0, 1522)], [], [(((0, 0), 1851192626986356797424340330377019318111018015026043177553363016000000), .inr (3, (9, 0))), (((8, 0), 0), .inr (3, (9, 0))), (((9, 0), 1000019), .inl none), (((8, 0), 1000010), .inl none)], 0, 0, 5, [(0, .inr (3, (8, 0)))], [.inr (0, (0, (-1))), .inr (3, (9, 0))]), [], [], [(0, 0), (0, 0), (0, 0), (0, 0), (0, 0), (0, 0), (0, 0), (0, 0), (8, 0), (9, 0)], 1)
noncomputable def rxoCLR_2_0 : bx_HO := (([(0, 0), (0, 0), (0, 0), (0, 0), (0, 0), (0, 0), (0, 0), (0, 0), (0, 1522), (0, 1522), (0, 1522)], [], [(((0, 0), 1851192626986356797625047037163794926384839479479878431107186760000000), .inr (3, (10, 0))), (((8, 0), 1), .inr (3, (10, 0))), (((10, 0), 1000018), .inl none), (((8, 0), 1000010), .inl none), (((9, 0), 1000019), .inl none)], 0, 0, 13, [(0, .inr (3, (8, 0)))], [.inr (0, (0, (-1))), .inr (3, (10, 0))]), [], [], [(0, 0), (0, 0), (0, 0), (0, 0), (0, 0), (0, 0), (0, 0), (0, 0), (8, 0), (10, 0)], 3)
noncomputable def rxeCLR_4_0 : rx_End × List (Nat × Int × Int) := (([(0, 0), (0, 0), (0, 0), (0, 0), (0, 0), (0, 0), (0, 0), (0, 0), (0, 1522), (0, 1522)], [], [(((8, 0), 1000010), .inl none), (((9, 0), 1000018), .inl none)], none), [])
noncomputable def rxYCLR : List bx_HE := [(rxzCLR_0, [rxoCLR_0_0], []), (rxzCLR_1, [], []), (rxzCLR_2, [rxoCLR_2_0], []), (rxzCLR_3, [], []), (rxzCLR_4, [], [rxeCLR_4_0])]
noncomputable def rxUCLR (q : bx_HE) : Bool := Nat.beq (rx_zpc q.1) 5 || Nat.beq (rx_zpc q.1) 13
noncomputable def rxYBCLR : bx_B := (rxV, rxNP, rxDmf, bx_mdH rxCCLR.2.2.1)
set_option maxRecDepth 100000 in
theorem rxYcCLR : bx_chkH rxYBCLR rxM94 rxCCLR rxYCLR (rxUCLR, fun cut z => rx_ex2 (rxCT rxYBCLR rxCnE) cut 30000 rxCCLR.2.2.2.1 94 z) = true := by decide +kernel
noncomputable def rxICLR (S0 : Nat → Int → Int) (ws : List Int) (i : Nat) : bx_SP := fun S r => match i with | 0 => rxICLR_0 S0 ws S (r 8) | 1 => rxICLR_1 S0 ws S (r 8) (r 9) | 2 => rxICLR_2 S0 ws S (r 8) (r 9) | 3 => rxICLR_3 S0 ws S (r 8) (r 9) | 4 => rxICLR_4 S0 ws S (r 8) (r 9) | _ => False
noncomputable def rxmCLR (S0 : Nat → Int → Int) (ws : List Int) (i : Nat) (S : Nat → Int → Int) (r : Nat → Int) : Nat := match i with | 0 => rxmCLR_0 S0 ws S (r 8) | 1 => rxmCLR_1 S0 ws S (r 8) (r 9) | 2 => rxmCLR_2 S0 ws S (r 8) (r 9) | 3 => rxmCLR_3 S0 ws S (r 8) (r 9) | 4 => rxmCLR_4 S0 ws S (r 8) (r 9) | _ => 0
noncomputable def rxPCLR (S0 : Nat → Int → Int) (ws : List Int) : Prop := ∃ sc : Int, ws = [sc] ∧ 0 ≤ sc ∧ S0 sc.toNat 0 = sc + 1 ∧ S0 sc.toNat 1 = sc + 2
noncomputable def rxPSCLR (S0 : Nat → Int → Int) (ws : List Int) (S : Nat → Int → Int) (w : Option Int) : Prop := w = none ∧ ∃ sc : Int, ws = [sc] ∧ (∀ (p : Nat) (j : Int), p ≠ (sc + 1).toNat → p ≠ (sc + 2).toNat → S p j = S0 p j) ∧ ∀ j : Int, 0 ≤ j → j < 36 → S (sc + 1).toNat j = -1 ∧ S (sc + 2).toNat j = -1
theorem rxkCLR_1 {S0 : Nat → Int → Int} {ws : List Int} {S : Nat → Int → Int} {sc wr : Int} (hP : rxPCLR S0 ws) (hin : bx_same rxL (bx_mdl rxCCLR.2.2.1) S0 S) (I0 : bx_Inv rxL S) (hinv : rxICLR_1 S0 ws S sc wr) (l8 : 0 ≤ sc) (u8 : sc ≤ 1522) (l9 : 0 ≤ wr) (u9 : wr ≤ 1522) : rxPFLW S [wr, (-1)] ∧ ∀ (S_p : Nat → Int → Int), rxPSFLW S [wr, (-1)] S_p none → bx_Inv rxL S_p → bx_same rxL (bx_mdl rxCFLW.2.2.1) S S_p → rxICLR_2 S0 ws S_p sc wr ∧ rxmCLR_2 S0 ws S_p sc wr < rxmCLR_1 S0 ws S sc wr := by
  obtain ⟨rfl, hw, hwr⟩ := hinv
  refine ⟨trivial, fun S_p hq _ hsm => ⟨?_, by unfold rxmCLR_1 rxmCLR_2; omega⟩⟩
  obtain ⟨-, ro, hw3, hf, hr⟩ := hq
  have k1 : wr = ro := Option.some.inj (congrArg (fun l : List Int => l[0]?) hw3)
  subst k1
  subst hwr
  exact ⟨hw, hf, hr⟩
theorem rxsCLR_1 {X : (Nat → Int → Int) → Prop} {S0 : Nat → Int → Int} {ws : List Int} (hP : rxPCLR S0 ws) : rx_obK X S0 rxCCLR.2.2.1 rxCFLW.2.2.1 (rxICLR S0 ws) (rxmCLR S0 ws) 1 2 rxzCLR_1 rxzCLR_2 [.inr (3, (9, 0)), .inr (0, (0, (-1)))] none rxPFLW rxPSFLW := by
  intro S r hinv hXS I0 hin hs_ hf_
  have b_ := bx_bds_sat hs_
  have f_ := bx_fcl_ok hs_.1 hf_
  obtain ⟨⟨l8, u8⟩, ⟨l9, u9⟩, -⟩ := b_
  have g := rxkCLR_1 hP hin I0 hinv l8 u8 l9 u9
  have ea : List.map (bx_num r) [.inr (3, (9, 0)), .inr (0, (0, (-1)))] = [(r 9), -1] := by
    simp only [List.map_cons, List.map_nil, bx_xv_ok hs_.1]
    rfl
  rw [ea]
  refine ⟨g.1, fun S_p w r_p hPS hX_p I1 hsm hr hw hs_p => ?_⟩
  have hw : w = none := hPS.1
  subst hw
  have g2 := g.2 S_p hPS I1 hsm
  show rxICLR_2 S0 ws S_p (r_p 8) (r_p 9) ∧ rxmCLR_2 S0 ws S_p (r_p 8) (r_p 9) < _
  rw [hr 8 (by decide), hr 9 (by decide)]
  exact g2
theorem rxkCLR_3 {S0 : Nat → Int → Int} {ws : List Int} {S : Nat → Int → Int} {sc nr : Int} (hP : rxPCLR S0 ws) (hin : bx_same rxL (bx_mdl rxCCLR.2.2.1) S0 S) (I0 : bx_Inv rxL S) (hinv : rxICLR_3 S0 ws S sc nr) (l8 : 0 ≤ sc) (u8 : sc ≤ 1522) (l9 : 0 ≤ nr) (u9 : nr ≤ 1522) : rxPFLN S [nr, (-1)] ∧ ∀ (S_p : Nat → Int → Int), rxPSFLN S [nr, (-1)] S_p none → bx_Inv rxL S_p → bx_same rxL (bx_mdl rxCFLN.2.2.1) S S_p → rxICLR_4 S0 ws S_p sc nr ∧ rxmCLR_4 S0 ws S_p sc nr < rxmCLR_3 S0 ws S sc nr := by
  obtain ⟨hw, hf0, hr0, hnr⟩ := hinv
  refine ⟨trivial, fun S_p hq _ hsm => ⟨?_, by unfold rxmCLR_3 rxmCLR_4; omega⟩⟩
  obtain ⟨-, ro, hw3, hf, hr⟩ := hq
  have k1 : nr = ro := Option.some.inj (congrArg (fun l : List Int => l[0]?) hw3)
  subst k1
  subst hnr
  exact ⟨hw, fun p j a b => (hf p j b).trans (hf0 p j a), fun j a b => ⟨(hf _ j (by omega)).trans (hr0 j a b), hr j a b⟩⟩
theorem rxsCLR_3 {X : (Nat → Int → Int) → Prop} {S0 : Nat → Int → Int} {ws : List Int} (hP : rxPCLR S0 ws) : rx_obK X S0 rxCCLR.2.2.1 rxCFLN.2.2.1 (rxICLR S0 ws) (rxmCLR S0 ws) 3 4 rxzCLR_3 rxzCLR_4 [.inr (3, (9, 0)), .inr (0, (0, (-1)))] none rxPFLN rxPSFLN := by
  intro S r hinv hXS I0 hin hs_ hf_
  have b_ := bx_bds_sat hs_
  have f_ := bx_fcl_ok hs_.1 hf_
  obtain ⟨⟨l8, u8⟩, ⟨l9, u9⟩, -⟩ := b_
  have g := rxkCLR_3 hP hin I0 hinv l8 u8 l9 u9
  have ea : List.map (bx_num r) [.inr (3, (9, 0)), .inr (0, (0, (-1)))] = [(r 9), -1] := by
    simp only [List.map_cons, List.map_nil, bx_xv_ok hs_.1]
    rfl
  rw [ea]
  refine ⟨g.1, fun S_p w r_p hPS hX_p I1 hsm hr hw hs_p => ?_⟩
  have hw : w = none := hPS.1
  subst hw
  have g2 := g.2 S_p hPS I1 hsm
  show rxICLR_4 S0 ws S_p (r_p 8) (r_p 9) ∧ rxmCLR_4 S0 ws S_p (r_p 8) (r_p 9) < _
  rw [hr 8 (by decide), hr 9 (by decide)]
  exact g2
theorem rxcCLR_0_0 {S0 : Nat → Int → Int} {ws : List Int} {S : Nat → Int → Int} {sc x9 : Int} (hP : rxPCLR S0 ws) (hin : bx_same rxL (bx_mdl rxCCLR.2.2.1) S0 S) (I0 : bx_Inv rxL S) (hinv : rxICLR_0 S0 ws S sc) (l8 : 0 ≤ sc) (u8 : sc ≤ 1522) (l9 : 0 ≤ x9) (u9 : x9 ≤ 1522) (e0 : S (sc).toNat 0 = x9) : (True) ∧ (True) ∧ rxICLR_1 S0 ws S sc x9 ∧ rxmCLR_1 S0 ws S sc x9 < rxmCLR_0 S0 ws S sc := by
  obtain ⟨rfl, hw⟩ := hinv
  obtain ⟨sc_, hw2, hs0, hp0, hp1⟩ := hP
  have w1 : sc = sc_ := Option.some.inj (congrArg (fun l : List Int => l[0]?) (hw.symm.trans hw2))
  subst w1
  exact ⟨trivial, trivial, ⟨rfl, hw2, e0.symm.trans hp0⟩, by unfold rxmCLR_0 rxmCLR_1; omega⟩
theorem rxgCLR_0_0 {X : (Nat → Int → Int) → Prop} {S0 : Nat → Int → Int} {ws : List Int} (hP : rxPCLR S0 ws) : bx_obC rxL X S0 rxCCLR.2.2.1 (rxICLR S0 ws) (rxmCLR S0 ws) 0 rxzCLR_0 rxoCLR_0_0 := by
  intro S S_p r r_p hinv hX hin hsm_ hseg
  obtain ⟨I0, I1, h0_, hr_, b_, f_, d_⟩ := bx_cl (evs := [(0, (8, 0), (0, 0), .inr (3, (9, 0)))]) (fvs := []) hseg (by decide +kernel) (by decide +kernel)
  have hinv : rxICLR_0 S0 ws S (r 8) := hinv
  rw [← hr_ 8 (by decide)] at hinv
  obtain ⟨⟨l8, u8⟩, ⟨l9, u9⟩, -⟩ := b_
  obtain ⟨e0, w_⟩ := d_
  subst w_
  have g := rxcCLR_0_0 hP hin I0 hinv l8 u8 l9 u9 e0
  refine ⟨bx_narP_ok (l := []) g.1, bx_nfP_ok h0_ (fvs := []) (by decide +kernel) g.2.1, ?_, ?_⟩
  · show rxICLR_1 S0 ws S_p (bx_val [(0, 0), (0, 0), (0, 0), (0, 0), (0, 0), (0, 0), (0, 0), (0, 0), (8, 0), (9, 0)] r_p 8) (bx_val [(0, 0), (0, 0), (0, 0), (0, 0), (0, 0), (0, 0), (0, 0), (0, 0), (8, 0), (9, 0)] r_p 9)
    rw [bx_val_x (n := 8) (e := (8, 0)) h0_ rfl, bx_val_x (n := 9) (e := (9, 0)) h0_ rfl]
    exact g.2.2.1
  · show rxmCLR_1 S0 ws S_p (bx_val [(0, 0), (0, 0), (0, 0), (0, 0), (0, 0), (0, 0), (0, 0), (0, 0), (8, 0), (9, 0)] r_p 8) (bx_val [(0, 0), (0, 0), (0, 0), (0, 0), (0, 0), (0, 0), (0, 0), (0, 0), (8, 0), (9, 0)] r_p 9) < rxmCLR_0 S0 ws S_p (r 8)
    rw [bx_val_x (n := 8) (e := (8, 0)) h0_ rfl, bx_val_x (n := 9) (e := (9, 0)) h0_ rfl, ← hr_ 8 (by decide)]
    exact g.2.2.2
theorem rxcCLR_2_0 {S0 : Nat → Int → Int} {ws : List Int} {S : Nat → Int → Int} {sc wr x10 : Int} (hP : rxPCLR S0 ws) (hin : bx_same rxL (bx_mdl rxCCLR.2.2.1) S0 S) (I0 : bx_Inv rxL S) (hinv : rxICLR_2 S0 ws S sc wr) (l8 : 0 ≤ sc) (u8 : sc ≤ 1522) (l9 : 0 ≤ wr) (u9 : wr ≤ 1522) (l10 : 0 ≤ x10) (u10 : x10 ≤ 1522) (e0 : S (sc).toNat 1 = x10) : (True) ∧ (True) ∧ rxICLR_3 S0 ws S sc x10 ∧ rxmCLR_3 S0 ws S sc x10 < rxmCLR_2 S0 ws S sc wr := by
  obtain ⟨hw, hf, hr⟩ := hinv
  obtain ⟨sc_, hw2, hs0, hp0, hp1⟩ := hP
  have w1 : sc = sc_ := Option.some.inj (congrArg (fun l : List Int => l[0]?) (hw.symm.trans hw2))
  subst w1
  exact ⟨trivial, trivial, ⟨hw2, hf, hr, e0.symm.trans ((hf _ _ (by omega)).trans hp1)⟩, by unfold rxmCLR_2 rxmCLR_3; omega⟩
theorem rxgCLR_2_0 {X : (Nat → Int → Int) → Prop} {S0 : Nat → Int → Int} {ws : List Int} (hP : rxPCLR S0 ws) : bx_obC rxL X S0 rxCCLR.2.2.1 (rxICLR S0 ws) (rxmCLR S0 ws) 2 rxzCLR_2 rxoCLR_2_0 := by
  intro S S_p r r_p hinv hX hin hsm_ hseg
  obtain ⟨I0, I1, h0_, hr_, b_, f_, d_⟩ := bx_cl (evs := [(0, (8, 0), (0, 1), .inr (3, (10, 0)))]) (fvs := []) hseg (by decide +kernel) (by decide +kernel)
  have hinv : rxICLR_2 S0 ws S (r 8) (r 9) := hinv
  rw [← hr_ 8 (by decide), ← hr_ 9 (by decide)] at hinv
  obtain ⟨⟨l8, u8⟩, ⟨l9, u9⟩, ⟨l10, u10⟩, -⟩ := b_
  obtain ⟨e0, w_⟩ := d_
  subst w_
  have g := rxcCLR_2_0 hP hin I0 hinv l8 u8 l9 u9 l10 u10 e0
  refine ⟨bx_narP_ok (l := []) g.1, bx_nfP_ok h0_ (fvs := []) (by decide +kernel) g.2.1, ?_, ?_⟩
  · show rxICLR_3 S0 ws S_p (bx_val [(0, 0), (0, 0), (0, 0), (0, 0), (0, 0), (0, 0), (0, 0), (0, 0), (8, 0), (10, 0)] r_p 8) (bx_val [(0, 0), (0, 0), (0, 0), (0, 0), (0, 0), (0, 0), (0, 0), (0, 0), (8, 0), (10, 0)] r_p 9)
    rw [bx_val_x (n := 8) (e := (8, 0)) h0_ rfl, bx_val_x (n := 9) (e := (10, 0)) h0_ rfl]
    exact g.2.2.1
  · show rxmCLR_3 S0 ws S_p (bx_val [(0, 0), (0, 0), (0, 0), (0, 0), (0, 0), (0, 0), (0, 0), (0, 0), (8, 0), (10, 0)] r_p 8) (bx_val [(0, 0), (0, 0), (0, 0), (0, 0), (0, 0), (0, 0), (0, 0), (0, 0), (8, 0), (10, 0)] r_p 9) < rxmCLR_2 S0 ws S_p (r 8) (r 9)
    rw [bx_val_x (n := 8) (e := (8, 0)) h0_ rfl, bx_val_x (n := 9) (e := (10, 0)) h0_ rfl, ← hr_ 8 (by decide), ← hr_ 9 (by decide)]
    exact g.2.2.2
theorem rxdCLR_4_0 {S0 : Nat → Int → Int} {ws : List Int} {S : Nat → Int → Int} {sc nr : Int} (hP : rxPCLR S0 ws) (hin : bx_same rxL (bx_mdl rxCCLR.2.2.1) S0 S) (hin2 : bx_same rxL (bx_mdl rxCCLR.2.2.1) S S) (I0 : bx_Inv rxL S) (I1 : bx_Inv rxL S) (hinv : rxICLR_4 S0 ws S sc nr) (l8 : 0 ≤ sc) (u8 : sc ≤ 1522) (l9 : 0 ≤ nr) (u9 : nr ≤ 1522) : (True) ∧ rxPSCLR S0 ws S none := by
  obtain ⟨hw, hf, hr⟩ := hinv
  exact ⟨trivial, rfl, sc, hw, hf, hr⟩
theorem rxfCLR_4_0 {X : (Nat → Int → Int) → Prop} {S0 : Nat → Int → Int} {ws : List Int} (hP : rxPCLR S0 ws) : bx_obE rxL X S0 rxCCLR.2.2.1 (rxICLR S0 ws) (rxPSCLR S0 ws) 4 rxzCLR_4 rxeCLR_4_0 := by
  intro S S_p r r_p hinv hX hin hsm_ hseg
  obtain ⟨I0, I1, h0_, hr_, b_, f_, d_⟩ := bx_cl (evs := []) (fvs := []) hseg (by decide +kernel) (by decide +kernel)
  have hinv : rxICLR_4 S0 ws S (r 8) (r 9) := hinv
  rw [← hr_ 8 (by decide), ← hr_ 9 (by decide)] at hinv
  obtain ⟨⟨l8, u8⟩, ⟨l9, u9⟩, -⟩ := b_
  have w_ := d_
  subst w_
  have g := rxdCLR_4_0 hP hin hsm_ I0 I1 hinv l8 u8 l9 u9
  refine ⟨bx_narP_ok (l := []) g.1, ?_⟩
  exact g.2
theorem rxgCCLR {X : (Nat → Int → Int) → Prop} {S0 : Nat → Int → Int} {ws : List Int} (hP : rxPCLR S0 ws) : bx_allI (fun i q => rxUCLR q = true ∨ bx_allP (fun o => bx_obC rxL X S0 rxCCLR.2.2.1 (rxICLR S0 ws) (rxmCLR S0 ws) i q.1 o) q.2.1) 0 rxYCLR := ⟨Or.inr ⟨rxgCLR_0_0 hP, trivial⟩, Or.inl rfl, Or.inr ⟨rxgCLR_2_0 hP, trivial⟩, Or.inl rfl, Or.inr trivial, trivial⟩
theorem rxgECLR {X : (Nat → Int → Int) → Prop} {S0 : Nat → Int → Int} {ws : List Int} (hP : rxPCLR S0 ws) : bx_allI (fun i q => rxUCLR q = true ∨ bx_allP (fun E => bx_obE rxL X S0 rxCCLR.2.2.1 (rxICLR S0 ws) (rxPSCLR S0 ws) i q.1 E) q.2.2) 0 rxYCLR := ⟨Or.inr trivial, Or.inl rfl, Or.inr trivial, Or.inl rfl, Or.inr ⟨rxfCLR_4_0 hP, trivial⟩, trivial⟩
theorem rxuCLR {PX : State → Prop} {Dg : va_G} {A : Nat → Prop} {ad xa : Nat → Nat} {l : Launch} {X : (Nat → Int → Int) → Prop} (hPX : rx_PXOK rxNW A PX) (hX : ∀ S S1 : Nat → Int → Int, X S → bx_same rxL (bx_mdl rxCCLR.2.2.1) S S1 → X S1) (hQFLW : bx_ConP rxG rxNW rxAO PX Dg rxL X vwCl A ad l rxM0 rxCFLW rxPFLW rxPSFLW) (hQFLN : bx_ConP rxG rxNW rxAO PX Dg rxL X vwCl A ad l rxM0 rxCFLN rxPFLN rxPSFLN) {S0 : Nat → Int → Int} {ws : List Int} (hP : rxPCLR S0 ws) : ∀ (i : Nat) (q : bx_HE), rxYCLR[i]? = some q → rxUCLR q = true → ∀ {p : Program} {e : Env} {R : Room} {s : State} {m : MethodId} {args : Array Value} {below : List Frame} {meth : Method} {c : Code} {Q : State → Prop} {H0 : Heap}, rx_Fr rxG rxNW rxAO PX p s m args meth c rxM94 → (∀ q, H0.size ≤ q → A q) → H0 = s.heap → rxM94.2.2.2.2.2.2.1 ≤ R.cells → rxM94.2.2.2.2.2.2.2 ≤ R.slots → rxCCLR.2.2.2.1 ≤ R.frames → rxCCLR.2.2.2.1 * 40 ≤ R.locals → bx_Step p l e R s m args below meth c Q Dg rxL X vwCl A xa H0 ad rxM94 rxYCLR (rxICLR S0 ws) (rxmCLR S0 ws) S0 rxCCLR.2.2.1 i q := by
  intro i q hq hus p e R s m args below meth c Q H0 hF hA hH0 hmc hms hd hdl
  match i, hq with
  | 0, hq =>
    cases hq
    exact absurd (show false = true from hus) Bool.false_ne_true
  | 1, hq =>
    cases hq
    exact rx_stepC (ins := .invokestatic 21) (len := 3) (i_p := 2) (M_p := rxM0) (d := rxCCLR.2.2.2.1) (as := [.inr (3, (9, 0)), .inr (0, (0, (-1)))]) (t := []) (ct := rxCFLW) hPX hF rfl hA hH0 hmc hms hd hdl (by decide +kernel) rfl rfl (by decide +kernel) (by decide +kernel) hQFLW (by decide +kernel) rfl (Or.inl ⟨rfl, rfl, rfl⟩) (rxsCLR_1 hP)
  | 2, hq =>
    cases hq
    exact absurd (show false = true from hus) Bool.false_ne_true
  | 3, hq =>
    cases hq
    exact rx_stepC (ins := .invokestatic 21) (len := 3) (i_p := 4) (M_p := rxM0) (d := rxCCLR.2.2.2.1) (as := [.inr (3, (9, 0)), .inr (0, (0, (-1)))]) (t := []) (ct := rxCFLN) hPX hF rfl hA hH0 hmc hms hd hdl (by decide +kernel) rfl rfl (by decide +kernel) (by decide +kernel) hQFLN (by decide +kernel) rfl (Or.inl ⟨rfl, rfl, rfl⟩) (rxsCLR_3 hP)
  | 4, hq =>
    cases hq
    exact absurd (show false = true from hus) Bool.false_ne_true
  | n + 5, hq => cases hq
theorem rxQCLR {PX : State → Prop} {Dg : va_G} {A : Nat → Prop} {ad xa : Nat → Nat} {l : Launch} {X : (Nat → Int → Int) → Prop} (hPX : rx_PXOK rxNW A PX) (hsl : ∀ s : State, PX s → ∀ o idx n : Nat, rxSl o idx = some n → ∃ tx : String, vk_R (rxNm o) idx tx (ad n) s)
    (hX : ∀ S S_p : Nat → Int → Int, X S → bx_same rxL (bx_mdl rxCCLR.2.2.1) S S_p → X S_p)
    (ih : ∀ (j2 : Nat) (ct2 : bx_Ct) (M2 : rx_Mt), ct2 ∈ rxCnE j2 → ct2.2.2.2.1 + 1 ≤ rxCCLR.2.2.2.1 → rxT.2.2.2.2.2 j2 = some M2 → bx_Con rxG rxNW rxAO PX Dg rxL X vwCl A ad l M2 ct2) (hQFLW : bx_ConP rxG rxNW rxAO PX Dg rxL X vwCl A ad l rxM0 rxCFLW rxPFLW rxPSFLW) (hQFLN : bx_ConP rxG rxNW rxAO PX Dg rxL X vwCl A ad l rxM0 rxCFLN rxPFLN rxPSFLN) : bx_ConP rxG rxNW rxAO PX Dg rxL X vwCl A ad l rxM94 rxCCLR rxPCLR rxPSCLR :=
  rxQof (xa := xa) (Cn := rxCnE) (f := 30000) (j := 94) (tab := rxYCLR) (us := rxUCLR) hPX hsl hX ih rfl rxYcCLR rxICLR rxmCLR
    (fun S0 ws r I0 I ht0 ht as he he1 hX0 hI0 hP hs ha => by
      have e := he.symm.trans (show bx_ent0 rxNP rxCCLR.1 bx_I0 [] = some ([(0, 0), (0, 0), (0, 0), (0, 0), (0, 0), (0, 0), (0, 0), (0, 0), (0, 1522)], [(((8, 0), 1000010), .inl none)], [.inr (3, (8, 0))]) from rfl)
      cases e
      subst ha
      have h0 : r 0 = 0 := hs.1
      show rxICLR_0 S0 _ S0 (r 8)
      refine ⟨rfl, ?_⟩
      simp only [List.map_cons, List.map_nil, bx_xv_ok h0]
      rfl)
    (fun S0 ws hP => rxuCLR (xa := xa) hPX hX hQFLW hQFLN hP) (fun S0 ws hP => rxgCCLR hP) (fun S0 ws hP => rxgECLR hP)
noncomputable def rxCAPD : bx_Ct := ([(3, (1, 1, 0)), (0, (0, 0, 23)), (0, (0, 1, 24))], some (0, (0, (-1), 5)), [(10, 0), (1000, 0), (1001, 0), (1019, 0), (1020, 0)], 2, [])
noncomputable def rxIAPD_0 (S0 : Nat → Int → Int) (ws : List Int) (S : Nat → Int → Int) (fa tb : Int) : Prop := S = S0 ∧ ws = [1, fa, tb]
noncomputable def rxmAPD_0 (S0 : Nat → Int → Int) (ws : List Int) (S : Nat → Int → Int) (fa tb : Int) : Nat := 100
noncomputable def rxzAPD_0 : rx_Z := ([(0, 0), (0, 0), (0, 0), (0, 0), (0, 0), (0, 0), (0, 0), (0, 0), (0, 23), (1, 24)], [], [], 0, 0, 0, [(0, .inr (3, (0, 1))), (1, .inr (0, (8, 0))), (2, .inr (0, (9, 0)))], [])
noncomputable def rxIAPD_1 (S0 : Nat → Int → Int) (ws : List Int) (S : Nat → Int → Int) (fa tb sc np : Int) : Prop := ws = [1, fa, tb] ∧ (0 ≤ S0 1 0 ∧ S0 1 0 < 6) ∧ sc = 23 + 3 * S0 1 0 ∧ (S 2 (S0 1 0) = fa ∧ S 3 (S0 1 0) = tb) ∧ (∀ (p : Nat) (j : Int), ¬ (p = 2 ∧ j = S0 1 0) → ¬ (p = 3 ∧ j = S0 1 0) → S p j = S0 p j) ∧ np = S0 1 0
noncomputable def rxmAPD_1 (S0 : Nat → Int → Int) (ws : List Int) (S : Nat → Int → Int) (fa tb sc np : Int) : Nat := 90
noncomputable def rxzAPD_1 : rx_Z := ([(0, 0), (0, 0), (0, 0), (0, 0), (0, 0), (0, 0), (0, 0), (0, 0), (0, 23), (1, 24), (0, 1522), (0, 5)], [], [(((10, 0), 1000010), .inl none), (((0, 1), 0), .inr (0, (11, 0)))], 0, 0, 40, [(0, .inr (3, (0, 1))), (1, .inr (0, (8, 0))), (2, .inr (0, (9, 0)))], [.inr (3, (10, 0))])
noncomputable def rxIAPD_2 (S0 : Nat → Int → Int) (ws : List Int) (S : Nat → Int → Int) (fa tb sc np : Int) : Prop := ws = [1, fa, tb] ∧ (0 ≤ S0 1 0 ∧ S0 1 0 < 6) ∧ (S 2 (S0 1 0) = fa ∧ S 3 (S0 1 0) = tb) ∧ (∀ t : Int, 0 ≤ t → t < 36 → S (24 + 3 * S0 1 0).toNat t = -1 ∧ S (25 + 3 * S0 1 0).toNat t = -1) ∧ (∀ (p : Nat) (j : Int), p ≠ (24 + 3 * S0 1 0).toNat → p ≠ (25 + 3 * S0 1 0).toNat → ¬ (p = 2 ∧ j = S0 1 0) → ¬ (p = 3 ∧ j = S0 1 0) → S p j = S0 p j) ∧ np = S0 1 0
noncomputable def rxmAPD_2 (S0 : Nat → Int → Int) (ws : List Int) (S : Nat → Int → Int) (fa tb sc np : Int) : Nat := 80
noncomputable def rxzAPD_2 : rx_Z := ([(0, 0), (0, 0), (0, 0), (0, 0), (0, 0), (0, 0), (0, 0), (0, 0), (0, 23), (1, 24), (0, 1522), (0, 5)], [], [(((10, 0), 1000010), .inl none), (((0, 1), 0), .inr (0, (11, 0)))], 0, 0, 43, [(0, .inr (3, (0, 1))), (1, .inr (0, (8, 0))), (2, .inr (0, (9, 0)))], [])
noncomputable def rxoAPD_0_0 : bx_HO := (([(0, 0), (0, 0), (0, 0), (0, 0), (0, 0), (0, 0), (0, 0), (0, 0), (0, 23), (1, 24), (0, 5), (0, 1522)], [], [(((0, 0), 1851192626986356797424370955790042202572729718740712036694753280000000), .inr (3, (11, 0))), (((11, 0), 1000010), .inl none), (((0, 1), 3), .inr (3, (0, 4))), (((0, 0), 1851192626986356797424370955790042202572729718740712036694163459000000), .inr (0, (9, 0))), (((0, 1), 2), .inr (3, (0, 3))), (((0, 0), 1851192626986356797424370955790042202572729718740712036693573635000000), .inr (0, (8, 0))), (((0, 1), 1), .inr (3, (0, 2))), (((0, 0), 1851192626986356797424340330377019318111018015026043177553952768000000), .inr (0, (10, 0))), (((0, 1), 0), .inr (0, (10, 0)))], 0, 0, 40, [(0, .inr (3, (0, 1))), (1, .inr (0, (8, 0))), (2, .inr (0, (9, 0)))], [.inr (3, (11, 0))]), [], [], [(0, 0), (0, 0), (0, 0), (0, 0), (0, 0), (0, 0), (0, 0), (0, 0), (8, 0), (9, 0), (11, 0), (10, 0)], 1)
noncomputable def rxeAPD_0_0 : rx_End × List (Nat × Int × Int) := (([(0, 0), (0, 0), (0, 0), (0, 0), (0, 0), (0, 0), (0, 0), (0, 0), (0, 23), (1, 24), (6, 6)], [], [(((0, 0), 1851192626986356797424340330377019318111018015026043177553952768000000), .inr (0, (10, 0))), (((0, 1), 0), .inr (0, (10, 0)))], some (.inr (0, (0, (-1))))), [])
noncomputable def rxeAPD_2_0 : rx_End × List (Nat × Int × Int) := (([(0, 0), (0, 0), (0, 0), (0, 0), (0, 0), (0, 0), (0, 0), (0, 0), (0, 23), (1, 24), (0, 1522), (0, 5)], [], [(((0, 0), 1851192626986356797424340330377019318111018015026043177553952771000000), .inr (0, (11, 1))), (((0, 1), 0), .inr (0, (11, 1))), (((10, 0), 1000010), .inl none)], some (.inr (0, (11, 0)))), [])
noncomputable def rxYAPD : List bx_HE := [(rxzAPD_0, [rxoAPD_0_0], [rxeAPD_0_0]), (rxzAPD_1, [], []), (rxzAPD_2, [], [rxeAPD_2_0])]
noncomputable def rxUAPD (q : bx_HE) : Bool := Nat.beq (rx_zpc q.1) 40
noncomputable def rxYBAPD : bx_B := (rxV, rxNP, rxDmf, bx_mdH rxCAPD.2.2.1)
set_option maxRecDepth 100000 in
theorem rxYcAPD : bx_chkH rxYBAPD rxM111 rxCAPD rxYAPD (rxUAPD, fun cut z => rx_ex2 (rxCT rxYBAPD rxCnE) cut 30000 rxCAPD.2.2.2.1 111 z) = true := by decide +kernel
noncomputable def rxIAPD (S0 : Nat → Int → Int) (ws : List Int) (i : Nat) : bx_SP := fun S r => match i with | 0 => rxIAPD_0 S0 ws S (r 8) (r 9) | 1 => rxIAPD_1 S0 ws S (r 8) (r 9) (r 10) (r 11) | 2 => rxIAPD_2 S0 ws S (r 8) (r 9) (r 10) (r 11) | _ => False
noncomputable def rxmAPD (S0 : Nat → Int → Int) (ws : List Int) (i : Nat) (S : Nat → Int → Int) (r : Nat → Int) : Nat := match i with | 0 => rxmAPD_0 S0 ws S (r 8) (r 9) | 1 => rxmAPD_1 S0 ws S (r 8) (r 9) (r 10) (r 11) | 2 => rxmAPD_2 S0 ws S (r 8) (r 9) (r 10) (r 11) | _ => 0
noncomputable def rxPAPD (S0 : Nat → Int → Int) (ws : List Int) : Prop := rkPl S0
noncomputable def rxPSAPD (S0 : Nat → Int → Int) (ws : List Int) (S : Nat → Int → Int) (w : Option Int) : Prop := ∃ fa tb : Int, ws = [1, fa, tb] ∧ ((6 ≤ S0 1 0 ∧ w = some (-1) ∧ S = S0) ∨ (S0 1 0 < 6 ∧ w = some (S0 1 0) ∧ S 1 0 = S0 1 0 + 1 ∧ (∀ t : Int, 0 ≤ t → t < 36 → S (24 + 3 * S0 1 0).toNat t = -1 ∧ S (25 + 3 * S0 1 0).toNat t = -1) ∧ (S 2 (S0 1 0) = fa ∧ S 3 (S0 1 0) = tb) ∧ (∀ (p : Nat) (j : Int), p ≠ (24 + 3 * S0 1 0).toNat → p ≠ (25 + 3 * S0 1 0).toNat → ¬ (p = 2 ∧ j = S0 1 0) → ¬ (p = 3 ∧ j = S0 1 0) → ¬ (p = 1 ∧ j = 0) → S p j = S0 p j)))
theorem rxkAPD_1 {S0 : Nat → Int → Int} {ws : List Int} {S : Nat → Int → Int} {fa tb sc np : Int} (hP : rxPAPD S0 ws) (hin : bx_same rxL (bx_mdl rxCAPD.2.2.1) S0 S) (I0 : bx_Inv rxL S) (hinv : rxIAPD_1 S0 ws S fa tb sc np) (l8 : 0 ≤ fa) (u8 : fa ≤ 23) (l9 : 1 ≤ tb) (u9 : tb ≤ 24) (l10 : 0 ≤ sc) (u10 : sc ≤ 1522) (l11 : 0 ≤ np) (u11 : np ≤ 5) : rxPCLR S [sc] ∧ ∀ (S_p : Nat → Int → Int), rxPSCLR S [sc] S_p none → bx_Inv rxL S_p → bx_same rxL (bx_mdl rxCCLR.2.2.1) S S_p → rxIAPD_2 S0 ws S_p fa tb sc np ∧ rxmAPD_2 S0 ws S_p fa tb sc np < rxmAPD_1 S0 ws S fa tb sc np := by
  obtain ⟨hw, ⟨n0, n6⟩, hsc, ⟨h2, h3⟩, hf, hnp⟩ := hinv
  have hpl : rkPl S0 := hP
  obtain ⟨-, y0, y1⟩ := rjd_pl hpl (pa := S0 1 0) (by omega) (by omega)
  subst hsc
  refine ⟨⟨_, rfl, by omega, (hf _ _ (by omega) (by omega)).trans (y0.trans (by omega)), (hf _ _ (by omega) (by omega)).trans (y1.trans (by omega))⟩, fun S_p hq _ hsm => ⟨?_, by unfold rxmAPD_1 rxmAPD_2; omega⟩⟩
  obtain ⟨-, c2, hw3, g1, g2⟩ := hq
  have k1 : 23 + 3 * S0 1 0 = c2 := Option.some.inj (congrArg (fun l : List Int => l[0]?) hw3)
  subst k1
  have a1 : 23 + 3 * S0 1 0 + 1 = 24 + 3 * S0 1 0 := by omega
  have a2 : 23 + 3 * S0 1 0 + 2 = 25 + 3 * S0 1 0 := by omega
  rw [a1, a2] at g1 g2
  exact ⟨hw, ⟨n0, n6⟩, ⟨(g1 2 _ (by omega) (by omega)).trans h2, (g1 3 _ (by omega) (by omega)).trans h3⟩, g2, fun p j a b c d => (g1 p j a b).trans (hf p j c d), hnp⟩
theorem rxsAPD_1 {X : (Nat → Int → Int) → Prop} {S0 : Nat → Int → Int} {ws : List Int} (hP : rxPAPD S0 ws) : rx_obK X S0 rxCAPD.2.2.1 rxCCLR.2.2.1 (rxIAPD S0 ws) (rxmAPD S0 ws) 1 2 rxzAPD_1 rxzAPD_2 [.inr (3, (10, 0))] none rxPCLR rxPSCLR := by
  intro S r hinv hXS I0 hin hs_ hf_
  have b_ := bx_bds_sat hs_
  have f_ := bx_fcl_ok hs_.1 hf_
  obtain ⟨⟨l8, u8⟩, ⟨l9, u9⟩, ⟨l10, u10⟩, ⟨l11, u11⟩, -⟩ := b_
  have g := rxkAPD_1 hP hin I0 hinv l8 u8 l9 u9 l10 u10 l11 u11
  have ea : List.map (bx_num r) [.inr (3, (10, 0))] = [(r 10)] := by
    simp only [List.map_cons, List.map_nil, bx_xv_ok hs_.1]
    rfl
  rw [ea]
  refine ⟨g.1, fun S_p w r_p hPS hX_p I1 hsm hr hw hs_p => ?_⟩
  have hw : w = none := hPS.1
  subst hw
  have g2 := g.2 S_p hPS I1 hsm
  show rxIAPD_2 S0 ws S_p (r_p 8) (r_p 9) (r_p 10) (r_p 11) ∧ rxmAPD_2 S0 ws S_p (r_p 8) (r_p 9) (r_p 10) (r_p 11) < _
  rw [hr 8 (by decide), hr 9 (by decide), hr 10 (by decide), hr 11 (by decide)]
  exact g2
theorem rxcAPD_0_0 {S0 : Nat → Int → Int} {ws : List Int} {S : Nat → Int → Int} {fa tb x10 x11 : Int} (hP : rxPAPD S0 ws) (hin : bx_same rxL (bx_mdl rxCAPD.2.2.1) S0 S) (I0 : bx_Inv rxL S) (hinv : rxIAPD_0 S0 ws S fa tb) (l8 : 0 ≤ fa) (u8 : fa ≤ 23) (l9 : 1 ≤ tb) (u9 : tb ≤ 24) (l10 : 0 ≤ x10) (u10 : x10 ≤ 5) (l11 : 0 ≤ x11) (u11 : x11 ≤ 1522) (e3 : S 1 0 = x10) (e0 : (bx_up (bx_up S 2 x10 fa) 3 x10 tb) 4 x10 = x11) : (True) ∧ (True) ∧ rxIAPD_1 S0 ws (bx_up (bx_up S 2 x10 fa) 3 x10 tb) fa tb x11 x10 ∧ rxmAPD_1 S0 ws (bx_up (bx_up S 2 x10 fa) 3 x10 tb) fa tb x11 x10 < rxmAPD_0 S0 ws S fa tb := by
  obtain ⟨rfl, hw⟩ := hinv
  have hpl : rkPl S := hP
  have qe3 : S 1 0 = x10 := e3
  have q4 : S 4 x10 = x11 := ((bx_up_ne (by omega)).trans ((bx_up_ne (by omega)))).symm.trans e0
  obtain ⟨z4, -, -⟩ := rjd_pl hpl (pa := S 1 0) (by omega) (by omega)
  have x4 : x10 = S 1 0 := by omega
  rw [x4] at q4
  have y2 : S 1 0 = x10 := by omega
  have y3 : S 1 0 = x10 := by omega
  refine ⟨trivial, trivial, ⟨hw, ⟨by omega, by omega⟩, q4.symm.trans z4, ⟨?_, ?_⟩, fun p j a b => ?_, by omega⟩, by unfold rxmAPD_0 rxmAPD_1; omega⟩
  · rw [y2]
    exact ((bx_up_ne (by omega))).trans bx_up_at
  · rw [y3]
    exact bx_up_at
  · exact (bx_up_ne (by omega)).trans (bx_up_ne (by omega))
theorem rxgAPD_0_0 {X : (Nat → Int → Int) → Prop} {S0 : Nat → Int → Int} {ws : List Int} (hP : rxPAPD S0 ws) : bx_obC rxL X S0 rxCAPD.2.2.1 (rxIAPD S0 ws) (rxmAPD S0 ws) 0 rxzAPD_0 rxoAPD_0_0 := by
  intro S S_p r r_p hinv hX hin hsm_ hseg
  obtain ⟨I0, I1, h0_, hr_, b_, f_, d_⟩ := bx_cl (evs := [(0, (0, 4), (10, 0), .inr (3, (11, 0))), (1, (0, 3), (10, 0), .inr (0, (9, 0))), (1, (0, 2), (10, 0), .inr (0, (8, 0))), (0, (0, 1), (0, 0), .inr (0, (10, 0)))]) (fvs := []) hseg (by decide +kernel) (by decide +kernel)
  have hinv : rxIAPD_0 S0 ws S (r 8) (r 9) := hinv
  rw [← hr_ 8 (by decide), ← hr_ 9 (by decide)] at hinv
  obtain ⟨⟨l8, u8⟩, ⟨l9, u9⟩, ⟨l10, u10⟩, ⟨l11, u11⟩, -⟩ := b_
  obtain ⟨e0, ⟨T1, ⟨T2, ⟨e3, w_⟩, w2⟩, w1⟩⟩ := d_
  subst w1
  subst w2
  subst w_
  have g := rxcAPD_0_0 hP hin I0 hinv l8 u8 l9 u9 l10 u10 l11 u11 e3 e0
  refine ⟨bx_narP_ok (l := []) g.1, bx_nfP_ok h0_ (fvs := []) (by decide +kernel) g.2.1, ?_, ?_⟩
  · show rxIAPD_1 S0 ws (bx_up (bx_up T2 2 (r_p 10) (r_p 8)) 3 (r_p 10) (r_p 9)) (bx_val [(0, 0), (0, 0), (0, 0), (0, 0), (0, 0), (0, 0), (0, 0), (0, 0), (8, 0), (9, 0), (11, 0), (10, 0)] r_p 8) (bx_val [(0, 0), (0, 0), (0, 0), (0, 0), (0, 0), (0, 0), (0, 0), (0, 0), (8, 0), (9, 0), (11, 0), (10, 0)] r_p 9) (bx_val [(0, 0), (0, 0), (0, 0), (0, 0), (0, 0), (0, 0), (0, 0), (0, 0), (8, 0), (9, 0), (11, 0), (10, 0)] r_p 10) (bx_val [(0, 0), (0, 0), (0, 0), (0, 0), (0, 0), (0, 0), (0, 0), (0, 0), (8, 0), (9, 0), (11, 0), (10, 0)] r_p 11)
    rw [bx_val_x (n := 8) (e := (8, 0)) h0_ rfl, bx_val_x (n := 9) (e := (9, 0)) h0_ rfl, bx_val_x (n := 10) (e := (11, 0)) h0_ rfl, bx_val_x (n := 11) (e := (10, 0)) h0_ rfl]
    exact g.2.2.1
  · show rxmAPD_1 S0 ws (bx_up (bx_up T2 2 (r_p 10) (r_p 8)) 3 (r_p 10) (r_p 9)) (bx_val [(0, 0), (0, 0), (0, 0), (0, 0), (0, 0), (0, 0), (0, 0), (0, 0), (8, 0), (9, 0), (11, 0), (10, 0)] r_p 8) (bx_val [(0, 0), (0, 0), (0, 0), (0, 0), (0, 0), (0, 0), (0, 0), (0, 0), (8, 0), (9, 0), (11, 0), (10, 0)] r_p 9) (bx_val [(0, 0), (0, 0), (0, 0), (0, 0), (0, 0), (0, 0), (0, 0), (0, 0), (8, 0), (9, 0), (11, 0), (10, 0)] r_p 10) (bx_val [(0, 0), (0, 0), (0, 0), (0, 0), (0, 0), (0, 0), (0, 0), (0, 0), (8, 0), (9, 0), (11, 0), (10, 0)] r_p 11) < rxmAPD_0 S0 ws T2 (r 8) (r 9)
    rw [bx_val_x (n := 8) (e := (8, 0)) h0_ rfl, bx_val_x (n := 9) (e := (9, 0)) h0_ rfl, bx_val_x (n := 10) (e := (11, 0)) h0_ rfl, bx_val_x (n := 11) (e := (10, 0)) h0_ rfl, ← hr_ 8 (by decide), ← hr_ 9 (by decide)]
    exact g.2.2.2
theorem rxdAPD_0_0 {S0 : Nat → Int → Int} {ws : List Int} {S : Nat → Int → Int} {fa tb x10 : Int} (hP : rxPAPD S0 ws) (hin : bx_same rxL (bx_mdl rxCAPD.2.2.1) S0 S) (hin2 : bx_same rxL (bx_mdl rxCAPD.2.2.1) S S) (I0 : bx_Inv rxL S) (I1 : bx_Inv rxL S) (hinv : rxIAPD_0 S0 ws S fa tb) (l8 : 0 ≤ fa) (u8 : fa ≤ 23) (l9 : 1 ≤ tb) (u9 : tb ≤ 24) (l10 : 6 ≤ x10) (u10 : x10 ≤ 6) (e0 : S 1 0 = x10) : (True) ∧ rxPSAPD S0 ws S (some ((-1))) := by
  obtain ⟨rfl, hw⟩ := hinv
  exact ⟨trivial, fa, tb, hw, Or.inl ⟨by omega, rfl, rfl⟩⟩
theorem rxfAPD_0_0 {X : (Nat → Int → Int) → Prop} {S0 : Nat → Int → Int} {ws : List Int} (hP : rxPAPD S0 ws) : bx_obE rxL X S0 rxCAPD.2.2.1 (rxIAPD S0 ws) (rxPSAPD S0 ws) 0 rxzAPD_0 rxeAPD_0_0 := by
  intro S S_p r r_p hinv hX hin hsm_ hseg
  obtain ⟨I0, I1, h0_, hr_, b_, f_, d_⟩ := bx_cl (evs := [(0, (0, 1), (0, 0), .inr (0, (10, 0)))]) (fvs := []) hseg (by decide +kernel) (by decide +kernel)
  have hinv : rxIAPD_0 S0 ws S (r 8) (r 9) := hinv
  rw [← hr_ 8 (by decide), ← hr_ 9 (by decide)] at hinv
  obtain ⟨⟨l8, u8⟩, ⟨l9, u9⟩, ⟨l10, u10⟩, -⟩ := b_
  obtain ⟨e0, w_⟩ := d_
  subst w_
  have g := rxdAPD_0_0 hP hin hsm_ I0 I1 hinv l8 u8 l9 u9 l10 u10 e0
  refine ⟨bx_narP_ok (l := []) g.1, ?_⟩
  show rxPSAPD S0 ws S_p (some (bx_num r_p (.inr (0, (0, (-1))))))
  rw [bx_xv_ok h0_]
  exact g.2
theorem rxdAPD_2_0 {S0 : Nat → Int → Int} {ws : List Int} {S : Nat → Int → Int} {fa tb sc np : Int} (hP : rxPAPD S0 ws) (hin : bx_same rxL (bx_mdl rxCAPD.2.2.1) S0 S) (hin2 : bx_same rxL (bx_mdl rxCAPD.2.2.1) S (bx_up S 1 0 (np + 1))) (I0 : bx_Inv rxL S) (I1 : bx_Inv rxL (bx_up S 1 0 (np + 1))) (hinv : rxIAPD_2 S0 ws S fa tb sc np) (l8 : 0 ≤ fa) (u8 : fa ≤ 23) (l9 : 1 ≤ tb) (u9 : tb ≤ 24) (l10 : 0 ≤ sc) (u10 : sc ≤ 1522) (l11 : 0 ≤ np) (u11 : np ≤ 5) : (True) ∧ rxPSAPD S0 ws (bx_up S 1 0 (np + 1)) (some np) := by
  obtain ⟨hw, ⟨n0, n6⟩, ⟨h2, h3⟩, hc, hf, hnp⟩ := hinv
  have z0 : S 1 0 = S0 1 0 := hf 1 0 (by omega) (by omega) (by omega) (by omega)
  refine ⟨trivial, fa, tb, hw, Or.inr ⟨by omega, congrArg some (by omega), bx_up_at.trans (by omega), fun t a b => ⟨(bx_up_ne (by omega)).trans (hc t a b).1, (bx_up_ne (by omega)).trans (hc t a b).2⟩, ⟨(bx_up_ne (by omega)).trans h2, (bx_up_ne (by omega)).trans h3⟩, fun p j a b c d e => (bx_up_ne e).trans (hf p j a b c d)⟩⟩
theorem rxfAPD_2_0 {X : (Nat → Int → Int) → Prop} {S0 : Nat → Int → Int} {ws : List Int} (hP : rxPAPD S0 ws) : bx_obE rxL X S0 rxCAPD.2.2.1 (rxIAPD S0 ws) (rxPSAPD S0 ws) 2 rxzAPD_2 rxeAPD_2_0 := by
  intro S S_p r r_p hinv hX hin hsm_ hseg
  obtain ⟨I0, I1, h0_, hr_, b_, f_, d_⟩ := bx_cl (evs := [(1, (0, 1), (0, 0), .inr (0, (11, 1)))]) (fvs := []) hseg (by decide +kernel) (by decide +kernel)
  have hinv : rxIAPD_2 S0 ws S (r 8) (r 9) (r 10) (r 11) := hinv
  rw [← hr_ 8 (by decide), ← hr_ 9 (by decide), ← hr_ 10 (by decide), ← hr_ 11 (by decide)] at hinv
  obtain ⟨⟨l8, u8⟩, ⟨l9, u9⟩, ⟨l10, u10⟩, ⟨l11, u11⟩, -⟩ := b_
  obtain ⟨T0, w_, w0⟩ := d_
  subst w0
  subst w_
  have g := rxdAPD_2_0 hP hin hsm_ I0 I1 hinv l8 u8 l9 u9 l10 u10 l11 u11
  refine ⟨bx_narP_ok (l := []) g.1, ?_⟩
  show rxPSAPD S0 ws (bx_up T0 1 (0) (r_p 11 + 1)) (some (bx_num r_p (.inr (0, (11, 0)))))
  rw [bx_xv_ok h0_]
  exact g.2
theorem rxgCAPD {X : (Nat → Int → Int) → Prop} {S0 : Nat → Int → Int} {ws : List Int} (hP : rxPAPD S0 ws) : bx_allI (fun i q => rxUAPD q = true ∨ bx_allP (fun o => bx_obC rxL X S0 rxCAPD.2.2.1 (rxIAPD S0 ws) (rxmAPD S0 ws) i q.1 o) q.2.1) 0 rxYAPD := ⟨Or.inr ⟨rxgAPD_0_0 hP, trivial⟩, Or.inl rfl, Or.inr trivial, trivial⟩
theorem rxgEAPD {X : (Nat → Int → Int) → Prop} {S0 : Nat → Int → Int} {ws : List Int} (hP : rxPAPD S0 ws) : bx_allI (fun i q => rxUAPD q = true ∨ bx_allP (fun E => bx_obE rxL X S0 rxCAPD.2.2.1 (rxIAPD S0 ws) (rxPSAPD S0 ws) i q.1 E) q.2.2) 0 rxYAPD := ⟨Or.inr ⟨rxfAPD_0_0 hP, trivial⟩, Or.inl rfl, Or.inr ⟨rxfAPD_2_0 hP, trivial⟩, trivial⟩
theorem rxuAPD {PX : State → Prop} {Dg : va_G} {A : Nat → Prop} {ad xa : Nat → Nat} {l : Launch} {X : (Nat → Int → Int) → Prop} (hPX : rx_PXOK rxNW A PX) (hX : ∀ S S1 : Nat → Int → Int, X S → bx_same rxL (bx_mdl rxCAPD.2.2.1) S S1 → X S1) (hQCLR : bx_ConP rxG rxNW rxAO PX Dg rxL X vwCl A ad l rxM94 rxCCLR rxPCLR rxPSCLR) {S0 : Nat → Int → Int} {ws : List Int} (hP : rxPAPD S0 ws) : ∀ (i : Nat) (q : bx_HE), rxYAPD[i]? = some q → rxUAPD q = true → ∀ {p : Program} {e : Env} {R : Room} {s : State} {m : MethodId} {args : Array Value} {below : List Frame} {meth : Method} {c : Code} {Q : State → Prop} {H0 : Heap}, rx_Fr rxG rxNW rxAO PX p s m args meth c rxM111 → (∀ q, H0.size ≤ q → A q) → H0 = s.heap → rxM111.2.2.2.2.2.2.1 ≤ R.cells → rxM111.2.2.2.2.2.2.2 ≤ R.slots → rxCAPD.2.2.2.1 ≤ R.frames → rxCAPD.2.2.2.1 * 40 ≤ R.locals → bx_Step p l e R s m args below meth c Q Dg rxL X vwCl A xa H0 ad rxM111 rxYAPD (rxIAPD S0 ws) (rxmAPD S0 ws) S0 rxCAPD.2.2.1 i q := by
  intro i q hq hus p e R s m args below meth c Q H0 hF hA hH0 hmc hms hd hdl
  match i, hq with
  | 0, hq =>
    cases hq
    exact absurd (show false = true from hus) Bool.false_ne_true
  | 1, hq =>
    cases hq
    exact rx_stepC (ins := .invokevirtual 105) (len := 3) (i_p := 2) (M_p := rxM94) (d := rxCAPD.2.2.2.1) (as := [.inr (3, (10, 0))]) (t := []) (ct := rxCCLR) hPX hF rfl hA hH0 hmc hms hd hdl (by decide +kernel) rfl rfl (by decide +kernel) (by decide +kernel) hQCLR (by decide +kernel) rfl (Or.inl ⟨rfl, rfl, rfl⟩) (rxsAPD_1 hP)
  | 2, hq =>
    cases hq
    exact absurd (show false = true from hus) Bool.false_ne_true
  | n + 3, hq => cases hq
theorem rxQAPD {PX : State → Prop} {Dg : va_G} {A : Nat → Prop} {ad xa : Nat → Nat} {l : Launch} {X : (Nat → Int → Int) → Prop} (hPX : rx_PXOK rxNW A PX) (hsl : ∀ s : State, PX s → ∀ o idx n : Nat, rxSl o idx = some n → ∃ tx : String, vk_R (rxNm o) idx tx (ad n) s)
    (hX : ∀ S S_p : Nat → Int → Int, X S → bx_same rxL (bx_mdl rxCAPD.2.2.1) S S_p → X S_p)
    (ih : ∀ (j2 : Nat) (ct2 : bx_Ct) (M2 : rx_Mt), ct2 ∈ rxCnE j2 → ct2.2.2.2.1 + 1 ≤ rxCAPD.2.2.2.1 → rxT.2.2.2.2.2 j2 = some M2 → bx_Con rxG rxNW rxAO PX Dg rxL X vwCl A ad l M2 ct2) (hQCLR : bx_ConP rxG rxNW rxAO PX Dg rxL X vwCl A ad l rxM94 rxCCLR rxPCLR rxPSCLR) : bx_ConP rxG rxNW rxAO PX Dg rxL X vwCl A ad l rxM111 rxCAPD rxPAPD rxPSAPD :=
  rxQof (xa := xa) (Cn := rxCnE) (f := 30000) (j := 111) (tab := rxYAPD) (us := rxUAPD) hPX hsl hX ih rfl rxYcAPD rxIAPD rxmAPD
    (fun S0 ws r I0 I ht0 ht as he he1 hX0 hI0 hP hs ha => by
      have e := he.symm.trans (show bx_ent0 rxNP rxCAPD.1 bx_I0 [] = some ([(0, 0), (0, 0), (0, 0), (0, 0), (0, 0), (0, 0), (0, 0), (0, 0), (0, 23), (1, 24)], [], [.inr (3, (0, 1)), .inr (0, (8, 0)), .inr (0, (9, 0))]) from rfl)
      cases e
      subst ha
      have h0 : r 0 = 0 := hs.1
      show rxIAPD_0 S0 _ S0 (r 8) (r 9)
      refine ⟨rfl, ?_⟩
      simp only [List.map_cons, List.map_nil, bx_xv_ok h0]
      rfl)
    (fun S0 ws hP => rxuAPD (xa := xa) hPX hX hQCLR hP) (fun S0 ws hP => rxgCAPD hP) (fun S0 ws hP => rxgEAPD hP)
noncomputable def rxCADX : bx_Ct := ([(3, (1, 1, 0)), (0, (0, 0, 5)), (0, (0, 0, 7)), (0, (0, (-1), 10))], some (0, (0, (-1), 11)), [(10, 5), (1006, 0), (1007, 0), (1008, 0), (1019, 0), (1020, 0)], 2, [])
noncomputable def rxIADX_0 (S0 : Nat → Int → Int) (ws : List Int) (S : Nat → Int → Int) (pa ps te : Int) : Prop := S = S0 ∧ ws = [1, pa, ps, te]
noncomputable def rxmADX_0 (S0 : Nat → Int → Int) (ws : List Int) (S : Nat → Int → Int) (pa ps te : Int) : Nat := 100
noncomputable def rxzADX_0 : rx_Z := ([(0, 0), (0, 0), (0, 0), (0, 0), (0, 0), (0, 0), (0, 0), (0, 0), (0, 5), (0, 7), ((-1), 10)], [], [], 0, 0, 0, [(0, .inr (3, (0, 1))), (1, .inr (0, (8, 0))), (2, .inr (0, (9, 0))), (3, .inr (0, (10, 0)))], [])
noncomputable def rxIADX_1 (S0 : Nat → Int → Int) (ws : List Int) (S : Nat → Int → Int) (pa ps te sc nv : Int) : Prop := ws = [1, pa, ps, te] ∧ (0 ≤ S0 1 5 ∧ S0 1 5 < 12) ∧ sc = 41 + 3 * S0 1 5 ∧ (S 9 (S0 1 5) = pa ∧ S 10 (S0 1 5) = ps ∧ S 11 (S0 1 5) = te) ∧ (∀ (p : Nat) (j : Int), ¬ (p = 9 ∧ j = S0 1 5) → ¬ (p = 10 ∧ j = S0 1 5) → ¬ (p = 11 ∧ j = S0 1 5) → S p j = S0 p j) ∧ nv = S0 1 5
noncomputable def rxmADX_1 (S0 : Nat → Int → Int) (ws : List Int) (S : Nat → Int → Int) (pa ps te sc nv : Int) : Nat := 90
noncomputable def rxzADX_1 : rx_Z := ([(0, 0), (0, 0), (0, 0), (0, 0), (0, 0), (0, 0), (0, 0), (0, 0), (0, 5), (0, 7), ((-1), 10), (0, 1522), (0, 11)], [], [(((11, 0), 1000010), .inl none), (((0, 1), 5), .inr (0, (12, 0)))], 0, 0, 50, [(0, .inr (3, (0, 1))), (1, .inr (0, (8, 0))), (2, .inr (0, (9, 0))), (3, .inr (0, (10, 0)))], [.inr (3, (11, 0))])
noncomputable def rxIADX_2 (S0 : Nat → Int → Int) (ws : List Int) (S : Nat → Int → Int) (pa ps te sc nv : Int) : Prop := ws = [1, pa, ps, te] ∧ (0 ≤ S0 1 5 ∧ S0 1 5 < 12) ∧ (S 9 (S0 1 5) = pa ∧ S 10 (S0 1 5) = ps ∧ S 11 (S0 1 5) = te) ∧ (∀ t : Int, 0 ≤ t → t < 36 → S (42 + 3 * S0 1 5).toNat t = -1 ∧ S (43 + 3 * S0 1 5).toNat t = -1) ∧ (∀ (p : Nat) (j : Int), p ≠ (42 + 3 * S0 1 5).toNat → p ≠ (43 + 3 * S0 1 5).toNat → ¬ (p = 9 ∧ j = S0 1 5) → ¬ (p = 10 ∧ j = S0 1 5) → ¬ (p = 11 ∧ j = S0 1 5) → S p j = S0 p j) ∧ nv = S0 1 5
noncomputable def rxmADX_2 (S0 : Nat → Int → Int) (ws : List Int) (S : Nat → Int → Int) (pa ps te sc nv : Int) : Nat := 80
noncomputable def rxzADX_2 : rx_Z := ([(0, 0), (0, 0), (0, 0), (0, 0), (0, 0), (0, 0), (0, 0), (0, 0), (0, 5), (0, 7), ((-1), 10), (0, 1522), (0, 11)], [], [(((11, 0), 1000010), .inl none), (((0, 1), 5), .inr (0, (12, 0)))], 0, 0, 53, [(0, .inr (3, (0, 1))), (1, .inr (0, (8, 0))), (2, .inr (0, (9, 0))), (3, .inr (0, (10, 0)))], [])
noncomputable def rxoADX_0_0 : bx_HO := (([(0, 0), (0, 0), (0, 0), (0, 0), (0, 0), (0, 0), (0, 0), (0, 0), (0, 5), (0, 7), ((-1), 10), (0, 11), (0, 1522)], [], [(((0, 0), 1851192626986356797424374018331344491018900889112178922613374976000000), .inr (3, (12, 0))), (((12, 0), 1000010), .inl none), (((0, 1), 9), .inr (3, (0, 12))), (((0, 0), 1851192626986356797424374018331344491018900889112178922612785155000000), .inr (0, (10, 0))), (((0, 1), 8), .inr (3, (0, 11))), (((0, 0), 1851192626986356797424374018331344491018900889112178922612195331000000), .inr (0, (9, 0))), (((0, 1), 7), .inr (3, (0, 10))), (((0, 0), 1851192626986356797424374018331344491018900889112178922611605507000000), .inr (0, (8, 0))), (((0, 1), 6), .inr (3, (0, 9))), (((0, 0), 1851192626986356798427873864310897359480125337295219445323071488000000), .inr (0, (11, 0))), (((0, 1), 5), .inr (0, (11, 0)))], 0, 0, 50, [(0, .inr (3, (0, 1))), (1, .inr (0, (8, 0))), (2, .inr (0, (9, 0))), (3, .inr (0, (10, 0)))], [.inr (3, (12, 0))]), [], [], [(0, 0), (0, 0), (0, 0), (0, 0), (0, 0), (0, 0), (0, 0), (0, 0), (8, 0), (9, 0), (10, 0), (12, 0), (11, 0)], 1)
noncomputable def rxeADX_0_0 : rx_End × List (Nat × Int × Int) := (([(0, 0), (0, 0), (0, 0), (0, 0), (0, 0), (0, 0), (0, 0), (0, 0), (0, 5), (0, 7), ((-1), 10), (12, 12)], [], [(((0, 0), 1851192626986356798427873864310897359480125337295219445323071488000000), .inr (0, (11, 0))), (((0, 1), 5), .inr (0, (11, 0)))], some (.inr (0, (0, (-1))))), [])
noncomputable def rxeADX_2_0 : rx_End × List (Nat × Int × Int) := (([(0, 0), (0, 0), (0, 0), (0, 0), (0, 0), (0, 0), (0, 0), (0, 0), (0, 5), (0, 7), ((-1), 10), (0, 1522), (0, 11)], [], [(((0, 0), 1851192626986356798427873864310897359480125337295219445323071491000000), .inr (0, (12, 1))), (((0, 1), 5), .inr (0, (12, 1))), (((11, 0), 1000010), .inl none)], some (.inr (0, (12, 0)))), [])
noncomputable def rxYADX : List bx_HE := [(rxzADX_0, [rxoADX_0_0], [rxeADX_0_0]), (rxzADX_1, [], []), (rxzADX_2, [], [rxeADX_2_0])]
noncomputable def rxUADX (q : bx_HE) : Bool := Nat.beq (rx_zpc q.1) 50
noncomputable def rxYBADX : bx_B := (rxV, rxNP, rxDmf, bx_mdH rxCADX.2.2.1)
set_option maxRecDepth 100000 in
theorem rxYcADX : bx_chkH rxYBADX rxM123 rxCADX rxYADX (rxUADX, fun cut z => rx_ex2 (rxCT rxYBADX rxCnE) cut 30000 rxCADX.2.2.2.1 123 z) = true := by decide +kernel
noncomputable def rxIADX (S0 : Nat → Int → Int) (ws : List Int) (i : Nat) : bx_SP := fun S r => match i with | 0 => rxIADX_0 S0 ws S (r 8) (r 9) (r 10) | 1 => rxIADX_1 S0 ws S (r 8) (r 9) (r 10) (r 11) (r 12) | 2 => rxIADX_2 S0 ws S (r 8) (r 9) (r 10) (r 11) (r 12) | _ => False
noncomputable def rxmADX (S0 : Nat → Int → Int) (ws : List Int) (i : Nat) (S : Nat → Int → Int) (r : Nat → Int) : Nat := match i with | 0 => rxmADX_0 S0 ws S (r 8) (r 9) (r 10) | 1 => rxmADX_1 S0 ws S (r 8) (r 9) (r 10) (r 11) (r 12) | 2 => rxmADX_2 S0 ws S (r 8) (r 9) (r 10) (r 11) (r 12) | _ => 0
noncomputable def rxPADX (S0 : Nat → Int → Int) (ws : List Int) : Prop := rkPl S0
noncomputable def rxPSADX (S0 : Nat → Int → Int) (ws : List Int) (S : Nat → Int → Int) (w : Option Int) : Prop := ∃ pa ps te : Int, ws = [1, pa, ps, te] ∧ ((12 ≤ S0 1 5 ∧ w = some (-1) ∧ S = S0) ∨ (S0 1 5 < 12 ∧ w = some (S0 1 5) ∧ S 1 5 = S0 1 5 + 1 ∧ (∀ t : Int, 0 ≤ t → t < 36 → S (42 + 3 * S0 1 5).toNat t = -1 ∧ S (43 + 3 * S0 1 5).toNat t = -1) ∧ (S 9 (S0 1 5) = pa ∧ S 10 (S0 1 5) = ps ∧ S 11 (S0 1 5) = te) ∧ (∀ (p : Nat) (j : Int), p ≠ (42 + 3 * S0 1 5).toNat → p ≠ (43 + 3 * S0 1 5).toNat → ¬ (p = 9 ∧ j = S0 1 5) → ¬ (p = 10 ∧ j = S0 1 5) → ¬ (p = 11 ∧ j = S0 1 5) → ¬ (p = 1 ∧ j = 5) → S p j = S0 p j)))
theorem rxkADX_1 {S0 : Nat → Int → Int} {ws : List Int} {S : Nat → Int → Int} {pa ps te sc nv : Int} (hP : rxPADX S0 ws) (hin : bx_same rxL (bx_mdl rxCADX.2.2.1) S0 S) (I0 : bx_Inv rxL S) (hinv : rxIADX_1 S0 ws S pa ps te sc nv) (l8 : 0 ≤ pa) (u8 : pa ≤ 5) (l9 : 0 ≤ ps) (u9 : ps ≤ 7) (l10 : (-1) ≤ te) (u10 : te ≤ 10) (l11 : 0 ≤ sc) (u11 : sc ≤ 1522) (l12 : 0 ≤ nv) (u12 : nv ≤ 11) : rxPCLR S [sc] ∧ ∀ (S_p : Nat → Int → Int), rxPSCLR S [sc] S_p none → bx_Inv rxL S_p → bx_same rxL (bx_mdl rxCCLR.2.2.1) S S_p → rxIADX_2 S0 ws S_p pa ps te sc nv ∧ rxmADX_2 S0 ws S_p pa ps te sc nv < rxmADX_1 S0 ws S pa ps te sc nv := by
  obtain ⟨hw, ⟨n0, n12⟩, hsc, ⟨h9, h10, h11⟩, hf, hnv⟩ := hinv
  have hpl : rkPl S0 := hP
  obtain ⟨y0, y1⟩ := rjd_px hpl (a := 6 + S0 1 5) (by omega) (by omega)
  subst hsc
  rw [show 23 + 3 * (6 + S0 1 5) = 41 + 3 * S0 1 5 by omega] at y0 y1
  refine ⟨⟨_, rfl, by omega, (hf _ _ (by omega) (by omega) (by omega)).trans (y0.trans (by omega)), (hf _ _ (by omega) (by omega) (by omega)).trans (y1.trans (by omega))⟩, fun S_p hq _ hsm => ⟨?_, by unfold rxmADX_1 rxmADX_2; omega⟩⟩
  obtain ⟨-, c2, hw3, g1, g2⟩ := hq
  have k1 : 41 + 3 * S0 1 5 = c2 := Option.some.inj (congrArg (fun l : List Int => l[0]?) hw3)
  subst k1
  have a1 : 41 + 3 * S0 1 5 + 1 = 42 + 3 * S0 1 5 := by omega
  have a2 : 41 + 3 * S0 1 5 + 2 = 43 + 3 * S0 1 5 := by omega
  rw [a1, a2] at g1 g2
  exact ⟨hw, ⟨n0, n12⟩, ⟨(g1 9 _ (by omega) (by omega)).trans h9, (g1 10 _ (by omega) (by omega)).trans h10, (g1 11 _ (by omega) (by omega)).trans h11⟩, g2, fun p j a b c d e => (g1 p j a b).trans (hf p j c d e), hnv⟩
theorem rxsADX_1 {X : (Nat → Int → Int) → Prop} {S0 : Nat → Int → Int} {ws : List Int} (hP : rxPADX S0 ws) : rx_obK X S0 rxCADX.2.2.1 rxCCLR.2.2.1 (rxIADX S0 ws) (rxmADX S0 ws) 1 2 rxzADX_1 rxzADX_2 [.inr (3, (11, 0))] none rxPCLR rxPSCLR := by
  intro S r hinv hXS I0 hin hs_ hf_
  have b_ := bx_bds_sat hs_
  have f_ := bx_fcl_ok hs_.1 hf_
  obtain ⟨⟨l8, u8⟩, ⟨l9, u9⟩, ⟨l10, u10⟩, ⟨l11, u11⟩, ⟨l12, u12⟩, -⟩ := b_
  have g := rxkADX_1 hP hin I0 hinv l8 u8 l9 u9 l10 u10 l11 u11 l12 u12
  have ea : List.map (bx_num r) [.inr (3, (11, 0))] = [(r 11)] := by
    simp only [List.map_cons, List.map_nil, bx_xv_ok hs_.1]
    rfl
  rw [ea]
  refine ⟨g.1, fun S_p w r_p hPS hX_p I1 hsm hr hw hs_p => ?_⟩
  have hw : w = none := hPS.1
  subst hw
  have g2 := g.2 S_p hPS I1 hsm
  show rxIADX_2 S0 ws S_p (r_p 8) (r_p 9) (r_p 10) (r_p 11) (r_p 12) ∧ rxmADX_2 S0 ws S_p (r_p 8) (r_p 9) (r_p 10) (r_p 11) (r_p 12) < _
  rw [hr 8 (by decide), hr 9 (by decide), hr 10 (by decide), hr 11 (by decide), hr 12 (by decide)]
  exact g2
theorem rxcADX_0_0 {S0 : Nat → Int → Int} {ws : List Int} {S : Nat → Int → Int} {pa ps te x11 x12 : Int} (hP : rxPADX S0 ws) (hin : bx_same rxL (bx_mdl rxCADX.2.2.1) S0 S) (I0 : bx_Inv rxL S) (hinv : rxIADX_0 S0 ws S pa ps te) (l8 : 0 ≤ pa) (u8 : pa ≤ 5) (l9 : 0 ≤ ps) (u9 : ps ≤ 7) (l10 : (-1) ≤ te) (u10 : te ≤ 10) (l11 : 0 ≤ x11) (u11 : x11 ≤ 11) (l12 : 0 ≤ x12) (u12 : x12 ≤ 1522) (e4 : S 1 5 = x11) (e0 : (bx_up (bx_up (bx_up S 9 x11 pa) 10 x11 ps) 11 x11 te) 12 x11 = x12) : (True) ∧ (True) ∧ rxIADX_1 S0 ws (bx_up (bx_up (bx_up S 9 x11 pa) 10 x11 ps) 11 x11 te) pa ps te x12 x11 ∧ rxmADX_1 S0 ws (bx_up (bx_up (bx_up S 9 x11 pa) 10 x11 ps) 11 x11 te) pa ps te x12 x11 < rxmADX_0 S0 ws S pa ps te := by
  obtain ⟨rfl, hw⟩ := hinv
  have hpl : rkPl S := hP
  have qe4 : S 1 5 = x11 := e4
  have q12 : S 12 x11 = x12 := ((bx_up_ne (by omega)).trans ((bx_up_ne (by omega)).trans ((bx_up_ne (by omega))))).symm.trans e0
  obtain ⟨z12, -⟩ := hpl.2.1.2 (S 1 5).toNat (by omega)
  rw [Int.toNat_of_nonneg (show 0 ≤ S 1 5 by omega)] at z12
  have x12_ : x11 = S 1 5 := by omega
  rw [x12_] at q12
  refine ⟨trivial, trivial, ⟨hw, ⟨by omega, by omega⟩, by omega, ⟨?_, ?_, ?_⟩, fun p j a b c => ?_, by omega⟩, by unfold rxmADX_0 rxmADX_1; omega⟩
  · rw [show S 1 5 = x11 by omega]
    exact ((bx_up_ne (by omega)).trans ((bx_up_ne (by omega)))).trans bx_up_at
  · rw [show S 1 5 = x11 by omega]
    exact ((bx_up_ne (by omega))).trans bx_up_at
  · rw [show S 1 5 = x11 by omega]
    exact bx_up_at
  · exact (bx_up_ne (by omega)).trans ((bx_up_ne (by omega)).trans (bx_up_ne (by omega)))
theorem rxgADX_0_0 {X : (Nat → Int → Int) → Prop} {S0 : Nat → Int → Int} {ws : List Int} (hP : rxPADX S0 ws) : bx_obC rxL X S0 rxCADX.2.2.1 (rxIADX S0 ws) (rxmADX S0 ws) 0 rxzADX_0 rxoADX_0_0 := by
  intro S S_p r r_p hinv hX hin hsm_ hseg
  obtain ⟨I0, I1, h0_, hr_, b_, f_, d_⟩ := bx_cl (evs := [(0, (0, 12), (11, 0), .inr (3, (12, 0))), (1, (0, 11), (11, 0), .inr (0, (10, 0))), (1, (0, 10), (11, 0), .inr (0, (9, 0))), (1, (0, 9), (11, 0), .inr (0, (8, 0))), (0, (0, 1), (0, 5), .inr (0, (11, 0)))]) (fvs := []) hseg (by decide +kernel) (by decide +kernel)
  have hinv : rxIADX_0 S0 ws S (r 8) (r 9) (r 10) := hinv
  rw [← hr_ 8 (by decide), ← hr_ 9 (by decide), ← hr_ 10 (by decide)] at hinv
  obtain ⟨⟨l8, u8⟩, ⟨l9, u9⟩, ⟨l10, u10⟩, ⟨l11, u11⟩, ⟨l12, u12⟩, -⟩ := b_
  obtain ⟨e0, ⟨T1, ⟨T2, ⟨T3, ⟨e4, w_⟩, w3⟩, w2⟩, w1⟩⟩ := d_
  subst w1
  subst w2
  subst w3
  subst w_
  have g := rxcADX_0_0 hP hin I0 hinv l8 u8 l9 u9 l10 u10 l11 u11 l12 u12 e4 e0
  refine ⟨bx_narP_ok (l := []) g.1, bx_nfP_ok h0_ (fvs := []) (by decide +kernel) g.2.1, ?_, ?_⟩
  · show rxIADX_1 S0 ws (bx_up (bx_up (bx_up T3 9 (r_p 11) (r_p 8)) 10 (r_p 11) (r_p 9)) 11 (r_p 11) (r_p 10)) (bx_val [(0, 0), (0, 0), (0, 0), (0, 0), (0, 0), (0, 0), (0, 0), (0, 0), (8, 0), (9, 0), (10, 0), (12, 0), (11, 0)] r_p 8) (bx_val [(0, 0), (0, 0), (0, 0), (0, 0), (0, 0), (0, 0), (0, 0), (0, 0), (8, 0), (9, 0), (10, 0), (12, 0), (11, 0)] r_p 9) (bx_val [(0, 0), (0, 0), (0, 0), (0, 0), (0, 0), (0, 0), (0, 0), (0, 0), (8, 0), (9, 0), (10, 0), (12, 0), (11, 0)] r_p 10) (bx_val [(0, 0), (0, 0), (0, 0), (0, 0), (0, 0), (0, 0), (0, 0), (0, 0), (8, 0), (9, 0), (10, 0), (12, 0), (11, 0)] r_p 11) (bx_val [(0, 0), (0, 0), (0, 0), (0, 0), (0, 0), (0, 0), (0, 0), (0, 0), (8, 0), (9, 0), (10, 0), (12, 0), (11, 0)] r_p 12)
    rw [bx_val_x (n := 8) (e := (8, 0)) h0_ rfl, bx_val_x (n := 9) (e := (9, 0)) h0_ rfl, bx_val_x (n := 10) (e := (10, 0)) h0_ rfl, bx_val_x (n := 11) (e := (12, 0)) h0_ rfl, bx_val_x (n := 12) (e := (11, 0)) h0_ rfl]
    exact g.2.2.1
  · show rxmADX_1 S0 ws (bx_up (bx_up (bx_up T3 9 (r_p 11) (r_p 8)) 10 (r_p 11) (r_p 9)) 11 (r_p 11) (r_p 10)) (bx_val [(0, 0), (0, 0), (0, 0), (0, 0), (0, 0), (0, 0), (0, 0), (0, 0), (8, 0), (9, 0), (10, 0), (12, 0), (11, 0)] r_p 8) (bx_val [(0, 0), (0, 0), (0, 0), (0, 0), (0, 0), (0, 0), (0, 0), (0, 0), (8, 0), (9, 0), (10, 0), (12, 0), (11, 0)] r_p 9) (bx_val [(0, 0), (0, 0), (0, 0), (0, 0), (0, 0), (0, 0), (0, 0), (0, 0), (8, 0), (9, 0), (10, 0), (12, 0), (11, 0)] r_p 10) (bx_val [(0, 0), (0, 0), (0, 0), (0, 0), (0, 0), (0, 0), (0, 0), (0, 0), (8, 0), (9, 0), (10, 0), (12, 0), (11, 0)] r_p 11) (bx_val [(0, 0), (0, 0), (0, 0), (0, 0), (0, 0), (0, 0), (0, 0), (0, 0), (8, 0), (9, 0), (10, 0), (12, 0), (11, 0)] r_p 12) < rxmADX_0 S0 ws T3 (r 8) (r 9) (r 10)
    rw [bx_val_x (n := 8) (e := (8, 0)) h0_ rfl, bx_val_x (n := 9) (e := (9, 0)) h0_ rfl, bx_val_x (n := 10) (e := (10, 0)) h0_ rfl, bx_val_x (n := 11) (e := (12, 0)) h0_ rfl, bx_val_x (n := 12) (e := (11, 0)) h0_ rfl, ← hr_ 8 (by decide), ← hr_ 9 (by decide), ← hr_ 10 (by decide)]
    exact g.2.2.2
theorem rxdADX_0_0 {S0 : Nat → Int → Int} {ws : List Int} {S : Nat → Int → Int} {pa ps te x11 : Int} (hP : rxPADX S0 ws) (hin : bx_same rxL (bx_mdl rxCADX.2.2.1) S0 S) (hin2 : bx_same rxL (bx_mdl rxCADX.2.2.1) S S) (I0 : bx_Inv rxL S) (I1 : bx_Inv rxL S) (hinv : rxIADX_0 S0 ws S pa ps te) (l8 : 0 ≤ pa) (u8 : pa ≤ 5) (l9 : 0 ≤ ps) (u9 : ps ≤ 7) (l10 : (-1) ≤ te) (u10 : te ≤ 10) (l11 : 12 ≤ x11) (u11 : x11 ≤ 12) (e0 : S 1 5 = x11) : (True) ∧ rxPSADX S0 ws S (some ((-1))) := by
  obtain ⟨rfl, hw⟩ := hinv
  exact ⟨trivial, pa, ps, te, hw, Or.inl ⟨by omega, rfl, rfl⟩⟩
theorem rxfADX_0_0 {X : (Nat → Int → Int) → Prop} {S0 : Nat → Int → Int} {ws : List Int} (hP : rxPADX S0 ws) : bx_obE rxL X S0 rxCADX.2.2.1 (rxIADX S0 ws) (rxPSADX S0 ws) 0 rxzADX_0 rxeADX_0_0 := by
  intro S S_p r r_p hinv hX hin hsm_ hseg
  obtain ⟨I0, I1, h0_, hr_, b_, f_, d_⟩ := bx_cl (evs := [(0, (0, 1), (0, 5), .inr (0, (11, 0)))]) (fvs := []) hseg (by decide +kernel) (by decide +kernel)
  have hinv : rxIADX_0 S0 ws S (r 8) (r 9) (r 10) := hinv
  rw [← hr_ 8 (by decide), ← hr_ 9 (by decide), ← hr_ 10 (by decide)] at hinv
  obtain ⟨⟨l8, u8⟩, ⟨l9, u9⟩, ⟨l10, u10⟩, ⟨l11, u11⟩, -⟩ := b_
  obtain ⟨e0, w_⟩ := d_
  subst w_
  have g := rxdADX_0_0 hP hin hsm_ I0 I1 hinv l8 u8 l9 u9 l10 u10 l11 u11 e0
  refine ⟨bx_narP_ok (l := []) g.1, ?_⟩
  show rxPSADX S0 ws S_p (some (bx_num r_p (.inr (0, (0, (-1))))))
  rw [bx_xv_ok h0_]
  exact g.2
theorem rxdADX_2_0 {S0 : Nat → Int → Int} {ws : List Int} {S : Nat → Int → Int} {pa ps te sc nv : Int} (hP : rxPADX S0 ws) (hin : bx_same rxL (bx_mdl rxCADX.2.2.1) S0 S) (hin2 : bx_same rxL (bx_mdl rxCADX.2.2.1) S (bx_up S 1 5 (nv + 1))) (I0 : bx_Inv rxL S) (I1 : bx_Inv rxL (bx_up S 1 5 (nv + 1))) (hinv : rxIADX_2 S0 ws S pa ps te sc nv) (l8 : 0 ≤ pa) (u8 : pa ≤ 5) (l9 : 0 ≤ ps) (u9 : ps ≤ 7) (l10 : (-1) ≤ te) (u10 : te ≤ 10) (l11 : 0 ≤ sc) (u11 : sc ≤ 1522) (l12 : 0 ≤ nv) (u12 : nv ≤ 11) : (True) ∧ rxPSADX S0 ws (bx_up S 1 5 (nv + 1)) (some nv) := by
  obtain ⟨hw, ⟨n0, n12⟩, ⟨h9, h10, h11⟩, hc, hf, hnv⟩ := hinv
  exact ⟨trivial, pa, ps, te, hw, Or.inr ⟨by omega, congrArg some (by omega), bx_up_at.trans (by omega), fun t a b => ⟨(bx_up_ne (by omega)).trans (hc t a b).1, (bx_up_ne (by omega)).trans (hc t a b).2⟩, ⟨(bx_up_ne (by omega)).trans h9, (bx_up_ne (by omega)).trans h10, (bx_up_ne (by omega)).trans h11⟩, fun p j a b c d e f => (bx_up_ne f).trans (hf p j a b c d e)⟩⟩
theorem rxfADX_2_0 {X : (Nat → Int → Int) → Prop} {S0 : Nat → Int → Int} {ws : List Int} (hP : rxPADX S0 ws) : bx_obE rxL X S0 rxCADX.2.2.1 (rxIADX S0 ws) (rxPSADX S0 ws) 2 rxzADX_2 rxeADX_2_0 := by
  intro S S_p r r_p hinv hX hin hsm_ hseg
  obtain ⟨I0, I1, h0_, hr_, b_, f_, d_⟩ := bx_cl (evs := [(1, (0, 1), (0, 5), .inr (0, (12, 1)))]) (fvs := []) hseg (by decide +kernel) (by decide +kernel)
  have hinv : rxIADX_2 S0 ws S (r 8) (r 9) (r 10) (r 11) (r 12) := hinv
  rw [← hr_ 8 (by decide), ← hr_ 9 (by decide), ← hr_ 10 (by decide), ← hr_ 11 (by decide), ← hr_ 12 (by decide)] at hinv
  obtain ⟨⟨l8, u8⟩, ⟨l9, u9⟩, ⟨l10, u10⟩, ⟨l11, u11⟩, ⟨l12, u12⟩, -⟩ := b_
  obtain ⟨T0, w_, w0⟩ := d_
  subst w0
  subst w_
  have g := rxdADX_2_0 hP hin hsm_ I0 I1 hinv l8 u8 l9 u9 l10 u10 l11 u11 l12 u12
  refine ⟨bx_narP_ok (l := []) g.1, ?_⟩
  show rxPSADX S0 ws (bx_up T0 1 (5) (r_p 12 + 1)) (some (bx_num r_p (.inr (0, (12, 0)))))
  rw [bx_xv_ok h0_]
  exact g.2
theorem rxgCADX {X : (Nat → Int → Int) → Prop} {S0 : Nat → Int → Int} {ws : List Int} (hP : rxPADX S0 ws) : bx_allI (fun i q => rxUADX q = true ∨ bx_allP (fun o => bx_obC rxL X S0 rxCADX.2.2.1 (rxIADX S0 ws) (rxmADX S0 ws) i q.1 o) q.2.1) 0 rxYADX := ⟨Or.inr ⟨rxgADX_0_0 hP, trivial⟩, Or.inl rfl, Or.inr trivial, trivial⟩
theorem rxgEADX {X : (Nat → Int → Int) → Prop} {S0 : Nat → Int → Int} {ws : List Int} (hP : rxPADX S0 ws) : bx_allI (fun i q => rxUADX q = true ∨ bx_allP (fun E => bx_obE rxL X S0 rxCADX.2.2.1 (rxIADX S0 ws) (rxPSADX S0 ws) i q.1 E) q.2.2) 0 rxYADX := ⟨Or.inr ⟨rxfADX_0_0 hP, trivial⟩, Or.inl rfl, Or.inr ⟨rxfADX_2_0 hP, trivial⟩, trivial⟩
theorem rxuADX {PX : State → Prop} {Dg : va_G} {A : Nat → Prop} {ad xa : Nat → Nat} {l : Launch} {X : (Nat → Int → Int) → Prop} (hPX : rx_PXOK rxNW A PX) (hX : ∀ S S1 : Nat → Int → Int, X S → bx_same rxL (bx_mdl rxCADX.2.2.1) S S1 → X S1) (hQCLR : bx_ConP rxG rxNW rxAO PX Dg rxL X vwCl A ad l rxM94 rxCCLR rxPCLR rxPSCLR) {S0 : Nat → Int → Int} {ws : List Int} (hP : rxPADX S0 ws) : ∀ (i : Nat) (q : bx_HE), rxYADX[i]? = some q → rxUADX q = true → ∀ {p : Program} {e : Env} {R : Room} {s : State} {m : MethodId} {args : Array Value} {below : List Frame} {meth : Method} {c : Code} {Q : State → Prop} {H0 : Heap}, rx_Fr rxG rxNW rxAO PX p s m args meth c rxM123 → (∀ q, H0.size ≤ q → A q) → H0 = s.heap → rxM123.2.2.2.2.2.2.1 ≤ R.cells → rxM123.2.2.2.2.2.2.2 ≤ R.slots → rxCADX.2.2.2.1 ≤ R.frames → rxCADX.2.2.2.1 * 40 ≤ R.locals → bx_Step p l e R s m args below meth c Q Dg rxL X vwCl A xa H0 ad rxM123 rxYADX (rxIADX S0 ws) (rxmADX S0 ws) S0 rxCADX.2.2.1 i q := by
  intro i q hq hus p e R s m args below meth c Q H0 hF hA hH0 hmc hms hd hdl
  match i, hq with
  | 0, hq =>
    cases hq
    exact absurd (show false = true from hus) Bool.false_ne_true
  | 1, hq =>
    cases hq
    exact rx_stepC (ins := .invokevirtual 105) (len := 3) (i_p := 2) (M_p := rxM94) (d := rxCADX.2.2.2.1) (as := [.inr (3, (11, 0))]) (t := []) (ct := rxCCLR) hPX hF rfl hA hH0 hmc hms hd hdl (by decide +kernel) rfl rfl (by decide +kernel) (by decide +kernel) hQCLR (by decide +kernel) rfl (Or.inl ⟨rfl, rfl, rfl⟩) (rxsADX_1 hP)
  | 2, hq =>
    cases hq
    exact absurd (show false = true from hus) Bool.false_ne_true
  | n + 3, hq => cases hq
theorem rxQADX {PX : State → Prop} {Dg : va_G} {A : Nat → Prop} {ad xa : Nat → Nat} {l : Launch} {X : (Nat → Int → Int) → Prop} (hPX : rx_PXOK rxNW A PX) (hsl : ∀ s : State, PX s → ∀ o idx n : Nat, rxSl o idx = some n → ∃ tx : String, vk_R (rxNm o) idx tx (ad n) s)
    (hX : ∀ S S_p : Nat → Int → Int, X S → bx_same rxL (bx_mdl rxCADX.2.2.1) S S_p → X S_p)
    (ih : ∀ (j2 : Nat) (ct2 : bx_Ct) (M2 : rx_Mt), ct2 ∈ rxCnE j2 → ct2.2.2.2.1 + 1 ≤ rxCADX.2.2.2.1 → rxT.2.2.2.2.2 j2 = some M2 → bx_Con rxG rxNW rxAO PX Dg rxL X vwCl A ad l M2 ct2) (hQCLR : bx_ConP rxG rxNW rxAO PX Dg rxL X vwCl A ad l rxM94 rxCCLR rxPCLR rxPSCLR) : bx_ConP rxG rxNW rxAO PX Dg rxL X vwCl A ad l rxM123 rxCADX rxPADX rxPSADX :=
  rxQof (xa := xa) (Cn := rxCnE) (f := 30000) (j := 123) (tab := rxYADX) (us := rxUADX) hPX hsl hX ih rfl rxYcADX rxIADX rxmADX
    (fun S0 ws r I0 I ht0 ht as he he1 hX0 hI0 hP hs ha => by
      have e := he.symm.trans (show bx_ent0 rxNP rxCADX.1 bx_I0 [] = some ([(0, 0), (0, 0), (0, 0), (0, 0), (0, 0), (0, 0), (0, 0), (0, 0), (0, 5), (0, 7), ((-1), 10)], [], [.inr (3, (0, 1)), .inr (0, (8, 0)), .inr (0, (9, 0)), .inr (0, (10, 0))]) from rfl)
      cases e
      subst ha
      have h0 : r 0 = 0 := hs.1
      show rxIADX_0 S0 _ S0 (r 8) (r 9) (r 10)
      refine ⟨rfl, ?_⟩
      simp only [List.map_cons, List.map_nil, bx_xv_ok h0]
      rfl)
    (fun S0 ws hP => rxuADX (xa := xa) hPX hX hQCLR hP) (fun S0 ws hP => rxgCADX hP) (fun S0 ws hP => rxgEADX hP)
