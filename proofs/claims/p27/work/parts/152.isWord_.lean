noncomputable def rxCIW : bx_Ct := ([(3, (1, 480, 0)), (2, (0, 0, 100000000))], some (0, (0, 0, 1)), [], 0, [])
noncomputable def rxIIW_0 (S0 : Nat → Int → Int) (ws : List Int) (S : Nat → Int → Int) (x : Int) : Prop := S = S0 ∧ ws = [480, x]
noncomputable def rxmIW_0 (S0 : Nat → Int → Int) (ws : List Int) (S : Nat → Int → Int) (x : Int) : Nat := 100
noncomputable def rxzIW_0 : rx_Z := ([(0, 0), (0, 0), (0, 0), (0, 0), (0, 0), (0, 0), (0, 0), (0, 0), (0, 100000000)], [], [], 0, 0, 0, [(0, .inr (3, (0, 480))), (1, .inr (1, (8, 0)))], [])
noncomputable def rxeIW_0_0 : rx_End × List (Nat × Int × Int) := (([(0, 0), (0, 0), (0, 0), (0, 0), (0, 0), (0, 0), (0, 0), (0, 0), (0, 100000000), (1, 1), (0, 100000000)], [(2, (10, 0), (8, 0))], [(((0, 0), 1851192626986356799832820811818326617396875588472066220482363392000000), .inr (1, (10, 0))), (((0, 480), 12), .inr (1, (10, 0))), (((0, 0), 1851192626986356799632114105031551009123054124018230966928539648000000), .inr (0, (9, 0))), (((0, 480), 11), .inr (0, (9, 0)))], some (.inr (0, (0, 1)))), [])
noncomputable def rxeIW_0_1 : rx_End × List (Nat × Int × Int) := (([(0, 0), (0, 0), (0, 0), (0, 0), (0, 0), (0, 0), (0, 0), (0, 0), (0, 100000000), (1, 1), ((-9223372036854775808), 9223372036854775807)], [(3, (10, 0), (8, 0))], [(((0, 0), 1851192626986356799832820811818326617396875588472066220482363392000000), .inr (1, (10, 0))), (((0, 480), 12), .inr (1, (10, 0))), (((0, 0), 1851192626986356799632114105031551009123054124018230966928539648000000), .inr (0, (9, 0))), (((0, 480), 11), .inr (0, (9, 0)))], some (.inr (0, (0, 0)))), [])
noncomputable def rxeIW_0_2 : rx_End × List (Nat × Int × Int) := (([(0, 0), (0, 0), (0, 0), (0, 0), (0, 0), (0, 0), (0, 0), (0, 0), (0, 100000000), (0, 3)], [(3, (9, 0), (0, 1))], [(((0, 0), 1851192626986356799632114105031551009123054124018230966928539648000000), .inr (0, (9, 0))), (((0, 480), 11), .inr (0, (9, 0)))], some (.inr (0, (0, 0)))), [])
noncomputable def rxYIW : List bx_HE := [(rxzIW_0, [], [rxeIW_0_0, rxeIW_0_1, rxeIW_0_2])]
noncomputable def rxUIW (q : bx_HE) : Bool := false
noncomputable def rxYBIW : bx_B := (rxV, rxNP, rxDmf, bx_mdH rxCIW.2.2.1)
set_option maxRecDepth 100000 in
theorem rxYcIW : bx_chkH rxYBIW rxM267 rxCIW rxYIW (rxUIW, fun cut z => rx_ex2 (rxCT rxYBIW rxCnE) cut 30000 rxCIW.2.2.2.1 267 z) = true := by decide +kernel
noncomputable def rxIIW (S0 : Nat → Int → Int) (ws : List Int) (i : Nat) : bx_SP := fun S r => match i with | 0 => rxIIW_0 S0 ws S (r 8) | _ => False
noncomputable def rxmIW (S0 : Nat → Int → Int) (ws : List Int) (i : Nat) (S : Nat → Int → Int) (r : Nat → Int) : Nat := match i with | 0 => rxmIW_0 S0 ws S (r 8) | _ => 0
noncomputable def rxPIW (S0 : Nat → Int → Int) (ws : List Int) : Prop := True
noncomputable def rxPSIW (S0 : Nat → Int → Int) (ws : List Int) (S : Nat → Int → Int) (w : Option Int) : Prop := S = S0 ∧ ∃ x r : Int, ws = [480, x] ∧ w = some r ∧ (r = 1 → S 480 11 = 1 ∧ S 480 12 = x)
theorem rxdIW_0_0 {S0 : Nat → Int → Int} {ws : List Int} {S : Nat → Int → Int} {x x9 x10 : Int} (hP : rxPIW S0 ws) (hin : bx_same rxL (bx_mdl rxCIW.2.2.1) S0 S) (hin2 : bx_same rxL (bx_mdl rxCIW.2.2.1) S S) (I0 : bx_Inv rxL S) (I1 : bx_Inv rxL S) (hinv : rxIIW_0 S0 ws S x) (l8 : 0 ≤ x) (u8 : x ≤ 100000000) (l9 : 1 ≤ x9) (u9 : x9 ≤ 1) (l10 : 0 ≤ x10) (u10 : x10 ≤ 100000000) (f0 : x10 = x) (e1 : S 480 11 = x9) (e0 : S 480 12 = x10) : (True) ∧ rxPSIW S0 ws S (some 1) := by
  obtain ⟨rfl, hw⟩ := hinv
  exact ⟨trivial, rfl, x, _, hw, rfl, fun q => by omega⟩
theorem rxfIW_0_0 {X : (Nat → Int → Int) → Prop} {S0 : Nat → Int → Int} {ws : List Int} (hP : rxPIW S0 ws) : bx_obE rxL X S0 rxCIW.2.2.1 (rxIIW S0 ws) (rxPSIW S0 ws) 0 rxzIW_0 rxeIW_0_0 := by
  intro S S_p r r_p hinv hX hin hsm_ hseg
  obtain ⟨I0, I1, h0_, hr_, b_, f_, d_⟩ := bx_cl (evs := [(0, (0, 480), (0, 12), .inr (1, (10, 0))), (0, (0, 480), (0, 11), .inr (0, (9, 0)))]) (fvs := [(2, (10, 0), (8, 0), (0, 0))]) hseg (by decide +kernel) (by decide +kernel)
  have hinv : rxIIW_0 S0 ws S (r 8) := hinv
  rw [← hr_ 8 (by decide)] at hinv
  obtain ⟨⟨l8, u8⟩, ⟨l9, u9⟩, ⟨l10, u10⟩, -⟩ := b_
  obtain ⟨f0, -⟩ := f_
  obtain ⟨e0, ⟨e1, w_⟩⟩ := d_
  subst w_
  have g := rxdIW_0_0 hP hin hsm_ I0 I1 hinv l8 u8 l9 u9 l10 u10 f0 e1 e0
  refine ⟨bx_narP_ok (l := []) g.1, ?_⟩
  show rxPSIW S0 ws S_p (some (bx_num r_p (.inr (0, (0, 1)))))
  rw [bx_xv_ok h0_]
  exact g.2
theorem rxdIW_0_1 {S0 : Nat → Int → Int} {ws : List Int} {S : Nat → Int → Int} {x x9 x10 : Int} (hP : rxPIW S0 ws) (hin : bx_same rxL (bx_mdl rxCIW.2.2.1) S0 S) (hin2 : bx_same rxL (bx_mdl rxCIW.2.2.1) S S) (I0 : bx_Inv rxL S) (I1 : bx_Inv rxL S) (hinv : rxIIW_0 S0 ws S x) (l8 : 0 ≤ x) (u8 : x ≤ 100000000) (l9 : 1 ≤ x9) (u9 : x9 ≤ 1) (l10 : (-9223372036854775808) ≤ x10) (u10 : x10 ≤ 9223372036854775807) (f0 : x10 ≠ x) (e1 : S 480 11 = x9) (e0 : S 480 12 = x10) : (True) ∧ rxPSIW S0 ws S (some 0) := by
  obtain ⟨rfl, hw⟩ := hinv
  exact ⟨trivial, rfl, x, _, hw, rfl, fun q => by omega⟩
theorem rxfIW_0_1 {X : (Nat → Int → Int) → Prop} {S0 : Nat → Int → Int} {ws : List Int} (hP : rxPIW S0 ws) : bx_obE rxL X S0 rxCIW.2.2.1 (rxIIW S0 ws) (rxPSIW S0 ws) 0 rxzIW_0 rxeIW_0_1 := by
  intro S S_p r r_p hinv hX hin hsm_ hseg
  obtain ⟨I0, I1, h0_, hr_, b_, f_, d_⟩ := bx_cl (evs := [(0, (0, 480), (0, 12), .inr (1, (10, 0))), (0, (0, 480), (0, 11), .inr (0, (9, 0)))]) (fvs := [(3, (10, 0), (8, 0), (0, 0))]) hseg (by decide +kernel) (by decide +kernel)
  have hinv : rxIIW_0 S0 ws S (r 8) := hinv
  rw [← hr_ 8 (by decide)] at hinv
  obtain ⟨⟨l8, u8⟩, ⟨l9, u9⟩, ⟨l10, u10⟩, -⟩ := b_
  obtain ⟨f0, -⟩ := f_
  obtain ⟨e0, ⟨e1, w_⟩⟩ := d_
  subst w_
  have g := rxdIW_0_1 hP hin hsm_ I0 I1 hinv l8 u8 l9 u9 l10 u10 f0 e1 e0
  refine ⟨bx_narP_ok (l := []) g.1, ?_⟩
  show rxPSIW S0 ws S_p (some (bx_num r_p (.inr (0, (0, 0)))))
  rw [bx_xv_ok h0_]
  exact g.2
theorem rxdIW_0_2 {S0 : Nat → Int → Int} {ws : List Int} {S : Nat → Int → Int} {x x9 : Int} (hP : rxPIW S0 ws) (hin : bx_same rxL (bx_mdl rxCIW.2.2.1) S0 S) (hin2 : bx_same rxL (bx_mdl rxCIW.2.2.1) S S) (I0 : bx_Inv rxL S) (I1 : bx_Inv rxL S) (hinv : rxIIW_0 S0 ws S x) (l8 : 0 ≤ x) (u8 : x ≤ 100000000) (l9 : 0 ≤ x9) (u9 : x9 ≤ 3) (f0 : x9 ≠ 1) (e0 : S 480 11 = x9) : (True) ∧ rxPSIW S0 ws S (some 0) := by
  obtain ⟨rfl, hw⟩ := hinv
  exact ⟨trivial, rfl, x, _, hw, rfl, fun q => by omega⟩
theorem rxfIW_0_2 {X : (Nat → Int → Int) → Prop} {S0 : Nat → Int → Int} {ws : List Int} (hP : rxPIW S0 ws) : bx_obE rxL X S0 rxCIW.2.2.1 (rxIIW S0 ws) (rxPSIW S0 ws) 0 rxzIW_0 rxeIW_0_2 := by
  intro S S_p r r_p hinv hX hin hsm_ hseg
  obtain ⟨I0, I1, h0_, hr_, b_, f_, d_⟩ := bx_cl (evs := [(0, (0, 480), (0, 11), .inr (0, (9, 0)))]) (fvs := [(3, (9, 0), (0, 1), (0, 0))]) hseg (by decide +kernel) (by decide +kernel)
  have hinv : rxIIW_0 S0 ws S (r 8) := hinv
  rw [← hr_ 8 (by decide)] at hinv
  obtain ⟨⟨l8, u8⟩, ⟨l9, u9⟩, -⟩ := b_
  obtain ⟨f0, -⟩ := f_
  obtain ⟨e0, w_⟩ := d_
  subst w_
  have g := rxdIW_0_2 hP hin hsm_ I0 I1 hinv l8 u8 l9 u9 f0 e0
  refine ⟨bx_narP_ok (l := []) g.1, ?_⟩
  show rxPSIW S0 ws S_p (some (bx_num r_p (.inr (0, (0, 0)))))
  rw [bx_xv_ok h0_]
  exact g.2
theorem rxgCIW {X : (Nat → Int → Int) → Prop} {S0 : Nat → Int → Int} {ws : List Int} (hP : rxPIW S0 ws) : bx_allI (fun i q => rxUIW q = true ∨ bx_allP (fun o => bx_obC rxL X S0 rxCIW.2.2.1 (rxIIW S0 ws) (rxmIW S0 ws) i q.1 o) q.2.1) 0 rxYIW := ⟨Or.inr trivial, trivial⟩
theorem rxgEIW {X : (Nat → Int → Int) → Prop} {S0 : Nat → Int → Int} {ws : List Int} (hP : rxPIW S0 ws) : bx_allI (fun i q => rxUIW q = true ∨ bx_allP (fun E => bx_obE rxL X S0 rxCIW.2.2.1 (rxIIW S0 ws) (rxPSIW S0 ws) i q.1 E) q.2.2) 0 rxYIW := ⟨Or.inr ⟨rxfIW_0_0 hP, rxfIW_0_1 hP, rxfIW_0_2 hP, trivial⟩, trivial⟩
theorem rxQIW {PX : State → Prop} {Dg : va_G} {A : Nat → Prop} {ad xa : Nat → Nat} {l : Launch} {X : (Nat → Int → Int) → Prop} (hPX : rx_PXOK rxNW A PX) (hsl : ∀ s : State, PX s → ∀ o idx n : Nat, rxSl o idx = some n → ∃ tx : String, vk_R (rxNm o) idx tx (ad n) s)
    (hX : ∀ S S_p : Nat → Int → Int, X S → bx_same rxL (bx_mdl rxCIW.2.2.1) S S_p → X S_p)
    (ih : ∀ (j2 : Nat) (ct2 : bx_Ct) (M2 : rx_Mt), ct2 ∈ rxCnE j2 → ct2.2.2.2.1 + 1 ≤ rxCIW.2.2.2.1 → rxT.2.2.2.2.2 j2 = some M2 → bx_Con rxG rxNW rxAO PX Dg rxL X vwCl A ad l M2 ct2) : bx_ConP rxG rxNW rxAO PX Dg rxL X vwCl A ad l rxM267 rxCIW rxPIW rxPSIW :=
  rxQof (xa := xa) (Cn := rxCnE) (f := 30000) (j := 267) (tab := rxYIW) (us := rxUIW) hPX hsl hX ih rfl rxYcIW rxIIW rxmIW
    (fun S0 ws r I0 I ht0 ht as he he1 hX0 hI0 hP hs ha => by
      have e := he.symm.trans (show bx_ent0 rxNP rxCIW.1 bx_I0 [] = some ([(0, 0), (0, 0), (0, 0), (0, 0), (0, 0), (0, 0), (0, 0), (0, 0), (0, 100000000)], [], [.inr (3, (0, 480)), .inr (1, (8, 0))]) from rfl)
      cases e
      subst ha
      have h0 : r 0 = 0 := hs.1
      show rxIIW_0 S0 _ S0 (r 8)
      refine ⟨rfl, ?_⟩
      simp only [List.map_cons, List.map_nil, bx_xv_ok h0]
      rfl)
    (fun S0 ws hP => fun i q hq hus => absurd (show false = true from hus) Bool.false_ne_true) (fun S0 ws hP => rxgCIW hP) (fun S0 ws hP => rxgEIW hP)
