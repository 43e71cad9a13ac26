noncomputable def rxCWOK : bx_Ct := ([(0, (0, (-1), 59))], some (0, (0, (-1), 9)), [], 0, [])
noncomputable def rxIWOK_0 (S0 : Nat → Int → Int) (ws : List Int) (S : Nat → Int → Int) (r : Int) : Prop := S = S0 ∧ ws = [r]
noncomputable def rxmWOK_0 (S0 : Nat → Int → Int) (ws : List Int) (S : Nat → Int → Int) (r : Int) : Nat := 10
noncomputable def rxzWOK_0 : rx_Z := ([(0, 0), (0, 0), (0, 0), (0, 0), (0, 0), (0, 0), (0, 0), (0, 0), ((-1), 59)], [], [], 0, 0, 0, [(0, .inr (0, (8, 0)))], [])
noncomputable def rxIWOK_1 (S0 : Nat → Int → Int) (ws : List Int) (S : Nat → Int → Int) (r : Int) : Prop := S = S0 ∧ ws = [r]
noncomputable def rxmWOK_1 (S0 : Nat → Int → Int) (ws : List Int) (S : Nat → Int → Int) (r : Int) : Nat := 8
noncomputable def rxzWOK_1 : rx_Z := ([(0, 0), (0, 0), (0, 0), (0, 0), (0, 0), (0, 0), (0, 0), (0, 0), (0, 59)], [], [], 0, 0, 12, [(0, .inr (0, (8, 0)))], [.inr (0, (0, 6)), .inr (0, (8, 0))])
noncomputable def rxIWOK_2 (S0 : Nat → Int → Int) (ws : List Int) (S : Nat → Int → Int) (r y : Int) : Prop := S = S0 ∧ ws = [r] ∧ y = r / 6
noncomputable def rxmWOK_2 (S0 : Nat → Int → Int) (ws : List Int) (S : Nat → Int → Int) (r y : Int) : Nat := 6
noncomputable def rxzWOK_2 : rx_Z := ([(0, 0), (0, 0), (0, 0), (0, 0), (0, 0), (0, 0), (0, 0), (0, 0), (0, 59), (0, 9)], [], [], 0, 0, 13, [(0, .inr (0, (8, 0)))], [.inr (0, (9, 0))])
noncomputable def rxoWOK_0_0 : bx_HO := (([(0, 0), (0, 0), (0, 0), (0, 0), (0, 0), (0, 0), (0, 0), (0, 0), (0, 59)], [(3, (8, 0), (0, (-1)))], [], 0, 0, 12, [(0, .inr (0, (8, 0)))], [.inr (0, (0, 6)), .inr (0, (8, 0))]), [], [], [(0, 0), (0, 0), (0, 0), (0, 0), (0, 0), (0, 0), (0, 0), (0, 0), (8, 0)], 1)
noncomputable def rxeWOK_0_0 : rx_End × List (Nat × Int × Int) := (([(0, 0), (0, 0), (0, 0), (0, 0), (0, 0), (0, 0), (0, 0), (0, 0), ((-1), (-1))], [], [], some (.inr (0, (0, (-1))))), [])
noncomputable def rxeWOK_2_0 : rx_End × List (Nat × Int × Int) := (([(0, 0), (0, 0), (0, 0), (0, 0), (0, 0), (0, 0), (0, 0), (0, 0), (0, 59), (0, 9)], [], [], some (.inr (0, (9, 0)))), [])
noncomputable def rxYWOK : List bx_HE := [(rxzWOK_0, [rxoWOK_0_0], [rxeWOK_0_0]), (rxzWOK_1, [], []), (rxzWOK_2, [], [rxeWOK_2_0])]
noncomputable def rxUWOK (q : bx_HE) : Bool := Nat.beq (rx_zpc q.1) 12
noncomputable def rxYBWOK : bx_B := (rxV, rxNP, rxDmf, bx_mdH rxCWOK.2.2.1)
set_option maxRecDepth 100000 in
theorem rxYcWOK : bx_chkH rxYBWOK rxM17 rxCWOK rxYWOK (rxUWOK, fun cut z => rx_ex2 (rxCT rxYBWOK rxCnE) cut 30000 rxCWOK.2.2.2.1 17 z) = true := by decide +kernel
noncomputable def rxIWOK (S0 : Nat → Int → Int) (ws : List Int) (i : Nat) : bx_SP := fun S r => match i with | 0 => rxIWOK_0 S0 ws S (r 8) | 1 => rxIWOK_1 S0 ws S (r 8) | 2 => rxIWOK_2 S0 ws S (r 8) (r 9) | _ => False
noncomputable def rxmWOK (S0 : Nat → Int → Int) (ws : List Int) (i : Nat) (S : Nat → Int → Int) (r : Nat → Int) : Nat := match i with | 0 => rxmWOK_0 S0 ws S (r 8) | 1 => rxmWOK_1 S0 ws S (r 8) | 2 => rxmWOK_2 S0 ws S (r 8) (r 9) | _ => 0
noncomputable def rxPWOK (S0 : Nat → Int → Int) (ws : List Int) : Prop := True
noncomputable def rxPSWOK (S0 : Nat → Int → Int) (ws : List Int) (S : Nat → Int → Int) (w : Option Int) : Prop := S = S0 ∧ ∃ r : Int, ws = [r] ∧ w = some (rjWo r)
theorem rxbWOK_1 {S0 : Nat → Int → Int} {ws : List Int} {S : Nat → Int → Int} {r : Int} (hP : rxPWOK S0 ws) (hin : bx_same rxL (bx_mdl rxCWOK.2.2.1) S0 S) (I0 : bx_Inv rxL S) (hinv : rxIWOK_1 S0 ws S r) (l8 : 0 ≤ r) (u8 : r ≤ 59) : bx_opcD 36 r 6 ∧ ∀ y : Int, y = bx_opvD 36 r 6 → (0 ≤ y ∧ y ≤ 9) ∧ rxIWOK_2 S0 ws S r y ∧ rxmWOK_2 S0 ws S r y < rxmWOK_1 S0 ws S r := by
  obtain ⟨hS, hw⟩ := hinv
  refine ⟨⟨⟨by omega, by omega⟩, by omega, by omega⟩, fun y hv => ?_⟩
  have hv : y = r / 6 := hv
  exact ⟨⟨by omega, by omega⟩, ⟨hS, hw, hv⟩, by unfold rxmWOK_1 rxmWOK_2; omega⟩
theorem rxsWOK_1 {X : (Nat → Int → Int) → Prop} {S0 : Nat → Int → Int} {ws : List Int} (hP : rxPWOK S0 ws) : rx_obBD X S0 rxCWOK.2.2.1 (rxIWOK S0 ws) (rxmWOK S0 ws) 1 2 rxzWOK_1 36 (8, 0) (0, 6) 0 9 := by
  intro S r hinv hXS I0 hin hs_ hf_
  have b_ := bx_bds_sat hs_
  have f_ := bx_fcl_ok hs_.1 hf_
  obtain ⟨⟨l8, u8⟩, -⟩ := b_
  have g := rxbWOK_1 hP hin I0 hinv l8 u8
  rw [bx_x_ok hs_.1, bx_x_ok hs_.1]
  refine ⟨g.1, fun r_p hr h0_ hv => ?_⟩
  have g2 := g.2 (r_p 9) hv
  show _ ∧ rxIWOK_2 S0 ws S (r_p 8) (r_p 9) ∧ rxmWOK_2 S0 ws S (r_p 8) (r_p 9) < _
  rw [hr 8 (by decide)]
  exact g2
theorem rxcWOK_0_0 {S0 : Nat → Int → Int} {ws : List Int} {S : Nat → Int → Int} {r : Int} (hP : rxPWOK S0 ws) (hin : bx_same rxL (bx_mdl rxCWOK.2.2.1) S0 S) (I0 : bx_Inv rxL S) (hinv : rxIWOK_0 S0 ws S r) (l8 : 0 ≤ r) (u8 : r ≤ 59) (f0 : r ≠ (-1)) : (True) ∧ (True) ∧ rxIWOK_1 S0 ws S r ∧ rxmWOK_1 S0 ws S r < rxmWOK_0 S0 ws S r := by
  obtain ⟨rfl, hw⟩ := hinv
  exact ⟨trivial, trivial, ⟨rfl, hw⟩, by unfold rxmWOK_0 rxmWOK_1; omega⟩
theorem rxgWOK_0_0 {X : (Nat → Int → Int) → Prop} {S0 : Nat → Int → Int} {ws : List Int} (hP : rxPWOK S0 ws) : bx_obC rxL X S0 rxCWOK.2.2.1 (rxIWOK S0 ws) (rxmWOK S0 ws) 0 rxzWOK_0 rxoWOK_0_0 := by
  intro S S_p r r_p hinv hX hin hsm_ hseg
  obtain ⟨I0, I1, h0_, hr_, b_, f_, d_⟩ := bx_cl (evs := []) (fvs := [(3, (8, 0), (0, (-1)), (0, 0))]) hseg (by decide +kernel) (by decide +kernel)
  have hinv : rxIWOK_0 S0 ws S (r 8) := hinv
  rw [← hr_ 8 (by decide)] at hinv
  obtain ⟨⟨l8, u8⟩, -⟩ := b_
  obtain ⟨f0, -⟩ := f_
  have w_ := d_
  subst w_
  have g := rxcWOK_0_0 hP hin I0 hinv l8 u8 f0
  refine ⟨bx_narP_ok (l := []) g.1, bx_nfP_ok h0_ (fvs := []) (by decide +kernel) g.2.1, ?_, ?_⟩
  · show rxIWOK_1 S0 ws S_p (bx_val [(0, 0), (0, 0), (0, 0), (0, 0), (0, 0), (0, 0), (0, 0), (0, 0), (8, 0)] r_p 8)
    rw [bx_val_x (n := 8) (e := (8, 0)) h0_ rfl]
    exact g.2.2.1
  · show rxmWOK_1 S0 ws S_p (bx_val [(0, 0), (0, 0), (0, 0), (0, 0), (0, 0), (0, 0), (0, 0), (0, 0), (8, 0)] r_p 8) < rxmWOK_0 S0 ws S_p (r 8)
    rw [bx_val_x (n := 8) (e := (8, 0)) h0_ rfl, ← hr_ 8 (by decide)]
    exact g.2.2.2
theorem rxdWOK_0_0 {S0 : Nat → Int → Int} {ws : List Int} {S : Nat → Int → Int} {r : Int} (hP : rxPWOK S0 ws) (hin : bx_same rxL (bx_mdl rxCWOK.2.2.1) S0 S) (hin2 : bx_same rxL (bx_mdl rxCWOK.2.2.1) S S) (I0 : bx_Inv rxL S) (I1 : bx_Inv rxL S) (hinv : rxIWOK_0 S0 ws S r) (l8 : (-1) ≤ r) (u8 : r ≤ (-1)) : (True) ∧ rxPSWOK S0 ws S (some ((-1))) := by
  obtain ⟨rfl, hw⟩ := hinv
  exact ⟨trivial, rfl, r, hw, congrArg some (by unfold rjWo; rw [if_pos (show r = -1 by omega)])⟩
theorem rxfWOK_0_0 {X : (Nat → Int → Int) → Prop} {S0 : Nat → Int → Int} {ws : List Int} (hP : rxPWOK S0 ws) : bx_obE rxL X S0 rxCWOK.2.2.1 (rxIWOK S0 ws) (rxPSWOK S0 ws) 0 rxzWOK_0 rxeWOK_0_0 := by
  intro S S_p r r_p hinv hX hin hsm_ hseg
  obtain ⟨I0, I1, h0_, hr_, b_, f_, d_⟩ := bx_cl (evs := []) (fvs := []) hseg (by decide +kernel) (by decide +kernel)
  have hinv : rxIWOK_0 S0 ws S (r 8) := hinv
  rw [← hr_ 8 (by decide)] at hinv
  obtain ⟨⟨l8, u8⟩, -⟩ := b_
  have w_ := d_
  subst w_
  have g := rxdWOK_0_0 hP hin hsm_ I0 I1 hinv l8 u8
  refine ⟨bx_narP_ok (l := []) g.1, ?_⟩
  show rxPSWOK S0 ws S_p (some (bx_num r_p (.inr (0, (0, (-1))))))
  rw [bx_xv_ok h0_]
  exact g.2
theorem rxdWOK_2_0 {S0 : Nat → Int → Int} {ws : List Int} {S : Nat → Int → Int} {r y : Int} (hP : rxPWOK S0 ws) (hin : bx_same rxL (bx_mdl rxCWOK.2.2.1) S0 S) (hin2 : bx_same rxL (bx_mdl rxCWOK.2.2.1) S S) (I0 : bx_Inv rxL S) (I1 : bx_Inv rxL S) (hinv : rxIWOK_2 S0 ws S r y) (l8 : 0 ≤ r) (u8 : r ≤ 59) (l9 : 0 ≤ y) (u9 : y ≤ 9) : (True) ∧ rxPSWOK S0 ws S (some y) := by
  obtain ⟨hS, hw, hy⟩ := hinv
  exact ⟨trivial, hS, r, hw, congrArg some (by unfold rjWo; rw [if_neg (show ¬ r = -1 by omega)]; exact hy)⟩
theorem rxfWOK_2_0 {X : (Nat → Int → Int) → Prop} {S0 : Nat → Int → Int} {ws : List Int} (hP : rxPWOK S0 ws) : bx_obE rxL X S0 rxCWOK.2.2.1 (rxIWOK S0 ws) (rxPSWOK S0 ws) 2 rxzWOK_2 rxeWOK_2_0 := by
  intro S S_p r r_p hinv hX hin hsm_ hseg
  obtain ⟨I0, I1, h0_, hr_, b_, f_, d_⟩ := bx_cl (evs := []) (fvs := []) hseg (by decide +kernel) (by decide +kernel)
  have hinv : rxIWOK_2 S0 ws S (r 8) (r 9) := hinv
  rw [← hr_ 8 (by decide), ← hr_ 9 (by decide)] at hinv
  obtain ⟨⟨l8, u8⟩, ⟨l9, u9⟩, -⟩ := b_
  have w_ := d_
  subst w_
  have g := rxdWOK_2_0 hP hin hsm_ I0 I1 hinv l8 u8 l9 u9
  refine ⟨bx_narP_ok (l := []) g.1, ?_⟩
  show rxPSWOK S0 ws S_p (some (bx_num r_p (.inr (0, (9, 0)))))
  rw [bx_xv_ok h0_]
  exact g.2
theorem rxgCWOK {X : (Nat → Int → Int) → Prop} {S0 : Nat → Int → Int} {ws : List Int} (hP : rxPWOK S0 ws) : bx_allI (fun i q => rxUWOK q = true ∨ bx_allP (fun o => bx_obC rxL X S0 rxCWOK.2.2.1 (rxIWOK S0 ws) (rxmWOK S0 ws) i q.1 o) q.2.1) 0 rxYWOK := ⟨Or.inr ⟨rxgWOK_0_0 hP, trivial⟩, Or.inl rfl, Or.inr trivial, trivial⟩
theorem rxgEWOK {X : (Nat → Int → Int) → Prop} {S0 : Nat → Int → Int} {ws : List Int} (hP : rxPWOK S0 ws) : bx_allI (fun i q => rxUWOK q = true ∨ bx_allP (fun E => bx_obE rxL X S0 rxCWOK.2.2.1 (rxIWOK S0 ws) (rxPSWOK S0 ws) i q.1 E) q.2.2) 0 rxYWOK := ⟨Or.inr ⟨rxfWOK_0_0 hP, trivial⟩, Or.inl rfl, Or.inr ⟨rxfWOK_2_0 hP, trivial⟩, trivial⟩
theorem rxuWOK {PX : State → Prop} {Dg : va_G} {A : Nat → Prop} {ad xa : Nat → Nat} {l : Launch} {X : (Nat → Int → Int) → Prop} (hPX : rx_PXOK rxNW A PX) (hX : ∀ S S1 : Nat → Int → Int, X S → bx_same rxL (bx_mdl rxCWOK.2.2.1) S S1 → X S1) {S0 : Nat → Int → Int} {ws : List Int} (hP : rxPWOK S0 ws) : ∀ (i : Nat) (q : bx_HE), rxYWOK[i]? = some q → rxUWOK q = true → ∀ {p : Program} {e : Env} {R : Room} {s : State} {m : MethodId} {args : Array Value} {below : List Frame} {meth : Method} {c : Code} {Q : State → Prop} {H0 : Heap}, rx_Fr rxG rxNW rxAO PX p s m args meth c rxM17 → (∀ q, H0.size ≤ q → A q) → H0 = s.heap → rxM17.2.2.2.2.2.2.1 ≤ R.cells → rxM17.2.2.2.2.2.2.2 ≤ R.slots → rxCWOK.2.2.2.1 ≤ R.frames → rxCWOK.2.2.2.1 * 40 ≤ R.locals → bx_Step p l e R s m args below meth c Q Dg rxL X vwCl A xa H0 ad rxM17 rxYWOK (rxIWOK S0 ws) (rxmWOK S0 ws) S0 rxCWOK.2.2.1 i q := by
  intro i q hq hus p e R s m args below meth c Q H0 hF hA hH0 hmc hms hd hdl
  match i, hq with
  | 0, hq =>
    cases hq
    exact absurd (show false = true from hus) Bool.false_ne_true
  | 1, hq =>
    cases hq
    exact rx_stepBD (i_p := 2) (o := 36) (a := (8, 0)) (b := (0, 6)) (lo := 0) (hi := 9) (t := []) hF (⟨rfl, rfl⟩) (by decide +kernel) rfl rfl rfl rfl (rxsWOK_1 hP)
  | 2, hq =>
    cases hq
    exact absurd (show false = true from hus) Bool.false_ne_true
  | n + 3, hq => cases hq
theorem rxQWOK {PX : State → Prop} {Dg : va_G} {A : Nat → Prop} {ad xa : Nat → Nat} {l : Launch} {X : (Nat → Int → Int) → Prop} (hPX : rx_PXOK rxNW A PX) (hsl : ∀ s : State, PX s → ∀ o idx n : Nat, rxSl o idx = some n → ∃ tx : String, vk_R (rxNm o) idx tx (ad n) s)
    (hX : ∀ S S_p : Nat → Int → Int, X S → bx_same rxL (bx_mdl rxCWOK.2.2.1) S S_p → X S_p)
    (ih : ∀ (j2 : Nat) (ct2 : bx_Ct) (M2 : rx_Mt), ct2 ∈ rxCnE j2 → ct2.2.2.2.1 + 1 ≤ rxCWOK.2.2.2.1 → rxT.2.2.2.2.2 j2 = some M2 → bx_Con rxG rxNW rxAO PX Dg rxL X vwCl A ad l M2 ct2) : bx_ConP rxG rxNW rxAO PX Dg rxL X vwCl A ad l rxM17 rxCWOK rxPWOK rxPSWOK :=
  rxQof (xa := xa) (Cn := rxCnE) (f := 30000) (j := 17) (tab := rxYWOK) (us := rxUWOK) hPX hsl hX ih rfl rxYcWOK rxIWOK rxmWOK
    (fun S0 ws r I0 I ht0 ht as he he1 hX0 hI0 hP hs ha => by
      have e := he.symm.trans (show bx_ent0 rxNP rxCWOK.1 bx_I0 [] = some ([(0, 0), (0, 0), (0, 0), (0, 0), (0, 0), (0, 0), (0, 0), (0, 0), ((-1), 59)], [], [.inr (0, (8, 0))]) from rfl)
      cases e
      subst ha
      have h0 : r 0 = 0 := hs.1
      show rxIWOK_0 S0 _ S0 (r 8)
      refine ⟨rfl, ?_⟩
      simp only [List.map_cons, List.map_nil, bx_xv_ok h0]
      rfl)
    (fun S0 ws hP => rxuWOK (xa := xa) hPX hX hP) (fun S0 ws hP => rxgCWOK hP) (fun S0 ws hP => rxgEWOK hP)
noncomputable def rxCNOK : bx_Ct := ([(0, (0, (-1), 59))], some (0, (0, (-1), 5)), [], 0, [])
noncomputable def rxINOK_0 (S0 : Nat → Int → Int) (ws : List Int) (S : Nat → Int → Int) (r : Int) : Prop := S = S0 ∧ ws = [r]
noncomputable def rxmNOK_0 (S0 : Nat → Int → Int) (ws : List Int) (S : Nat → Int → Int) (r : Int) : Nat := 10
noncomputable def rxzNOK_0 : rx_Z := ([(0, 0), (0, 0), (0, 0), (0, 0), (0, 0), (0, 0), (0, 0), (0, 0), ((-1), 59)], [], [], 0, 0, 0, [(0, .inr (0, (8, 0)))], [])
noncomputable def rxINOK_1 (S0 : Nat → Int → Int) (ws : List Int) (S : Nat → Int → Int) (r : Int) : Prop := S = S0 ∧ ws = [r]
noncomputable def rxmNOK_1 (S0 : Nat → Int → Int) (ws : List Int) (S : Nat → Int → Int) (r : Int) : Nat := 8
noncomputable def rxzNOK_1 : rx_Z := ([(0, 0), (0, 0), (0, 0), (0, 0), (0, 0), (0, 0), (0, 0), (0, 0), (0, 59)], [], [], 0, 0, 12, [(0, .inr (0, (8, 0)))], [.inr (0, (0, 6)), .inr (0, (8, 0))])
noncomputable def rxINOK_2 (S0 : Nat → Int → Int) (ws : List Int) (S : Nat → Int → Int) (r y : Int) : Prop := S = S0 ∧ ws = [r] ∧ y = r % 6
noncomputable def rxmNOK_2 (S0 : Nat → Int → Int) (ws : List Int) (S : Nat → Int → Int) (r y : Int) : Nat := 6
noncomputable def rxzNOK_2 : rx_Z := ([(0, 0), (0, 0), (0, 0), (0, 0), (0, 0), (0, 0), (0, 0), (0, 0), (0, 59), (0, 5)], [], [], 0, 0, 13, [(0, .inr (0, (8, 0)))], [.inr (0, (9, 0))])
noncomputable def rxoNOK_0_0 : bx_HO := (([(0, 0), (0, 0), (0, 0), (0, 0), (0, 0), (0, 0), (0, 0), (0, 0), (0, 59)], [(3, (8, 0), (0, (-1)))], [], 0, 0, 12, [(0, .inr (0, (8, 0)))], [.inr (0, (0, 6)), .inr (0, (8, 0))]), [], [], [(0, 0), (0, 0), (0, 0), (0, 0), (0, 0), (0, 0), (0, 0), (0, 0), (8, 0)], 1)
noncomputable def rxeNOK_0_0 : rx_End × List (Nat × Int × Int) := (([(0, 0), (0, 0), (0, 0), (0, 0), (0, 0), (0, 0), (0, 0), (0, 0), ((-1), (-1))], [], [], some (.inr (0, (0, (-1))))), [])
noncomputable def rxeNOK_2_0 : rx_End × List (Nat × Int × Int) := (([(0, 0), (0, 0), (0, 0), (0, 0), (0, 0), (0, 0), (0, 0), (0, 0), (0, 59), (0, 5)], [], [], some (.inr (0, (9, 0)))), [])
noncomputable def rxYNOK : List bx_HE := [(rxzNOK_0, [rxoNOK_0_0], [rxeNOK_0_0]), (rxzNOK_1, [], []), (rxzNOK_2, [], [rxeNOK_2_0])]
noncomputable def rxUNOK (q : bx_HE) : Bool := Nat.beq (rx_zpc q.1) 12
noncomputable def rxYBNOK : bx_B := (rxV, rxNP, rxDmf, bx_mdH rxCNOK.2.2.1)
set_option maxRecDepth 100000 in
theorem rxYcNOK : bx_chkH rxYBNOK rxM20 rxCNOK rxYNOK (rxUNOK, fun cut z => rx_ex2 (rxCT rxYBNOK rxCnE) cut 30000 rxCNOK.2.2.2.1 20 z) = true := by decide +kernel
noncomputable def rxINOK (S0 : Nat → Int → Int) (ws : List Int) (i : Nat) : bx_SP := fun S r => match i with | 0 => rxINOK_0 S0 ws S (r 8) | 1 => rxINOK_1 S0 ws S (r 8) | 2 => rxINOK_2 S0 ws S (r 8) (r 9) | _ => False
noncomputable def rxmNOK (S0 : Nat → Int → Int) (ws : List Int) (i : Nat) (S : Nat → Int → Int) (r : Nat → Int) : Nat := match i with | 0 => rxmNOK_0 S0 ws S (r 8) | 1 => rxmNOK_1 S0 ws S (r 8) | 2 => rxmNOK_2 S0 ws S (r 8) (r 9) | _ => 0
noncomputable def rxPNOK (S0 : Nat → Int → Int) (ws : List Int) : Prop := True
noncomputable def rxPSNOK (S0 : Nat → Int → Int) (ws : List Int) (S : Nat → Int → Int) (w : Option Int) : Prop := S = S0 ∧ ∃ r : Int, ws = [r] ∧ w = some (rjNx r)
theorem rxbNOK_1 {S0 : Nat → Int → Int} {ws : List Int} {S : Nat → Int → Int} {r : Int} (hP : rxPNOK S0 ws) (hin : bx_same rxL (bx_mdl rxCNOK.2.2.1) S0 S) (I0 : bx_Inv rxL S) (hinv : rxINOK_1 S0 ws S r) (l8 : 0 ≤ r) (u8 : r ≤ 59) : bx_opc 4 r 6 ∧ ∀ y : Int, y = bx_opv 4 r 6 → (0 ≤ y ∧ y ≤ 5) ∧ rxINOK_2 S0 ws S r y ∧ rxmNOK_2 S0 ws S r y < rxmNOK_1 S0 ws S r := by
  obtain ⟨hS, hw⟩ := hinv
  refine ⟨⟨⟨by omega, by omega⟩, by omega, by omega⟩, fun y hv => ?_⟩
  have hv : y = r % 6 := hv
  exact ⟨⟨by omega, by omega⟩, ⟨hS, hw, hv⟩, by unfold rxmNOK_1 rxmNOK_2; omega⟩
theorem rxsNOK_1 {X : (Nat → Int → Int) → Prop} {S0 : Nat → Int → Int} {ws : List Int} (hP : rxPNOK S0 ws) : rx_obB X S0 rxCNOK.2.2.1 (rxINOK S0 ws) (rxmNOK S0 ws) 1 2 rxzNOK_1 4 (8, 0) (0, 6) 0 5 := by
  intro S r hinv hXS I0 hin hs_ hf_
  have b_ := bx_bds_sat hs_
  have f_ := bx_fcl_ok hs_.1 hf_
  obtain ⟨⟨l8, u8⟩, -⟩ := b_
  have g := rxbNOK_1 hP hin I0 hinv l8 u8
  rw [bx_x_ok hs_.1, bx_x_ok hs_.1]
  refine ⟨g.1, fun r_p hr h0_ hv => ?_⟩
  have g2 := g.2 (r_p 9) hv
  show _ ∧ rxINOK_2 S0 ws S (r_p 8) (r_p 9) ∧ rxmNOK_2 S0 ws S (r_p 8) (r_p 9) < _
  rw [hr 8 (by decide)]
  exact g2
theorem rxcNOK_0_0 {S0 : Nat → Int → Int} {ws : List Int} {S : Nat → Int → Int} {r : Int} (hP : rxPNOK S0 ws) (hin : bx_same rxL (bx_mdl rxCNOK.2.2.1) S0 S) (I0 : bx_Inv rxL S) (hinv : rxINOK_0 S0 ws S r) (l8 : 0 ≤ r) (u8 : r ≤ 59) (f0 : r ≠ (-1)) : (True) ∧ (True) ∧ rxINOK_1 S0 ws S r ∧ rxmNOK_1 S0 ws S r < rxmNOK_0 S0 ws S r := by
  obtain ⟨rfl, hw⟩ := hinv
  exact ⟨trivial, trivial, ⟨rfl, hw⟩, by unfold rxmNOK_0 rxmNOK_1; omega⟩
theorem rxgNOK_0_0 {X : (Nat → Int → Int) → Prop} {S0 : Nat → Int → Int} {ws : List Int} (hP : rxPNOK S0 ws) : bx_obC rxL X S0 rxCNOK.2.2.1 (rxINOK S0 ws) (rxmNOK S0 ws) 0 rxzNOK_0 rxoNOK_0_0 := by
  intro S S_p r r_p hinv hX hin hsm_ hseg
  obtain ⟨I0, I1, h0_, hr_, b_, f_, d_⟩ := bx_cl (evs := []) (fvs := [(3, (8, 0), (0, (-1)), (0, 0))]) hseg (by decide +kernel) (by decide +kernel)
  have hinv : rxINOK_0 S0 ws S (r 8) := hinv
  rw [← hr_ 8 (by decide)] at hinv
  obtain ⟨⟨l8, u8⟩, -⟩ := b_
  obtain ⟨f0, -⟩ := f_
  have w_ := d_
  subst w_
  have g := rxcNOK_0_0 hP hin I0 hinv l8 u8 f0
  refine ⟨bx_narP_ok (l := []) g.1, bx_nfP_ok h0_ (fvs := []) (by decide +kernel) g.2.1, ?_, ?_⟩
  · show rxINOK_1 S0 ws S_p (bx_val [(0, 0), (0, 0), (0, 0), (0, 0), (0, 0), (0, 0), (0, 0), (0, 0), (8, 0)] r_p 8)
    rw [bx_val_x (n := 8) (e := (8, 0)) h0_ rfl]
    exact g.2.2.1
  · show rxmNOK_1 S0 ws S_p (bx_val [(0, 0), (0, 0), (0, 0), (0, 0), (0, 0), (0, 0), (0, 0), (0, 0), (8, 0)] r_p 8) < rxmNOK_0 S0 ws S_p (r 8)
    rw [bx_val_x (n := 8) (e := (8, 0)) h0_ rfl, ← hr_ 8 (by decide)]
    exact g.2.2.2
theorem rxdNOK_0_0 {S0 : Nat → Int → Int} {ws : List Int} {S : Nat → Int → Int} {r : Int} (hP : rxPNOK S0 ws) (hin : bx_same rxL (bx_mdl rxCNOK.2.2.1) S0 S) (hin2 : bx_same rxL (bx_mdl rxCNOK.2.2.1) S S) (I0 : bx_Inv rxL S) (I1 : bx_Inv rxL S) (hinv : rxINOK_0 S0 ws S r) (l8 : (-1) ≤ r) (u8 : r ≤ (-1)) : (True) ∧ rxPSNOK S0 ws S (some ((-1))) := by
  obtain ⟨rfl, hw⟩ := hinv
  exact ⟨trivial, rfl, r, hw, congrArg some (by unfold rjNx; rw [if_pos (show r = -1 by omega)])⟩
theorem rxfNOK_0_0 {X : (Nat → Int → Int) → Prop} {S0 : Nat → Int → Int} {ws : List Int} (hP : rxPNOK S0 ws) : bx_obE rxL X S0 rxCNOK.2.2.1 (rxINOK S0 ws) (rxPSNOK S0 ws) 0 rxzNOK_0 rxeNOK_0_0 := by
  intro S S_p r r_p hinv hX hin hsm_ hseg
  obtain ⟨I0, I1, h0_, hr_, b_, f_, d_⟩ := bx_cl (evs := []) (fvs := []) hseg (by decide +kernel) (by decide +kernel)
  have hinv : rxINOK_0 S0 ws S (r 8) := hinv
  rw [← hr_ 8 (by decide)] at hinv
  obtain ⟨⟨l8, u8⟩, -⟩ := b_
  have w_ := d_
  subst w_
  have g := rxdNOK_0_0 hP hin hsm_ I0 I1 hinv l8 u8
  refine ⟨bx_narP_ok (l := []) g.1, ?_⟩
  show rxPSNOK S0 ws S_p (some (bx_num r_p (.inr (0, (0, (-1))))))
  rw [bx_xv_ok h0_]
  exact g.2
theorem rxdNOK_2_0 {S0 : Nat → Int → Int} {ws : List Int} {S : Nat → Int → Int} {r y : Int} (hP : rxPNOK S0 ws) (hin : bx_same rxL (bx_mdl rxCNOK.2.2.1) S0 S) (hin2 : bx_same rxL (bx_mdl rxCNOK.2.2.1) S S) (I0 : bx_Inv rxL S) (I1 : bx_Inv rxL S) (hinv : rxINOK_2 S0 ws S r y) (l8 : 0 ≤ r) (u8 : r ≤ 59) (l9 : 0 ≤ y) (u9 : y ≤ 5) : (True) ∧ rxPSNOK S0 ws S (some y) := by
  obtain ⟨hS, hw, hy⟩ := hinv
  exact ⟨trivial, hS, r, hw, congrArg some (by unfold rjNx; rw [if_neg (show ¬ r = -1 by omega)]; exact hy)⟩
theorem rxfNOK_2_0 {X : (Nat → Int → Int) → Prop} {S0 : Nat → Int → Int} {ws : List Int} (hP : rxPNOK S0 ws) : bx_obE rxL X S0 rxCNOK.2.2.1 (rxINOK S0 ws) (rxPSNOK S0 ws) 2 rxzNOK_2 rxeNOK_2_0 := by
  intro S S_p r r_p hinv hX hin hsm_ hseg
  obtain ⟨I0, I1, h0_, hr_, b_, f_, d_⟩ := bx_cl (evs := []) (fvs := []) hseg (by decide +kernel) (by decide +kernel)
  have hinv : rxINOK_2 S0 ws S (r 8) (r 9) := hinv
  rw [← hr_ 8 (by decide), ← hr_ 9 (by decide)] at hinv
  obtain ⟨⟨l8, u8⟩, ⟨l9, u9⟩, -⟩ := b_
  have w_ := d_
  subst w_
  have g := rxdNOK_2_0 hP hin hsm_ I0 I1 hinv l8 u8 l9 u9
  refine ⟨bx_narP_ok (l := []) g.1, ?_⟩
  show rxPSNOK S0 ws S_p (some (bx_num r_p (.inr (0, (9, 0)))))
  rw [bx_xv_ok h0_]
  exact g.2
theorem rxgCNOK {X : (Nat → Int → Int) → Prop} {S0 : Nat → Int → Int} {ws : List Int} (hP : rxPNOK S0 ws) : bx_allI (fun i q => rxUNOK q = true ∨ bx_allP (fun o => bx_obC rxL X S0 rxCNOK.2.2.1 (rxINOK S0 ws) (rxmNOK S0 ws) i q.1 o) q.2.1) 0 rxYNOK := ⟨Or.inr ⟨rxgNOK_0_0 hP, trivial⟩, Or.inl rfl, Or.inr trivial, trivial⟩
theorem rxgENOK {X : (Nat → Int → Int) → Prop} {S0 : Nat → Int → Int} {ws : List Int} (hP : rxPNOK S0 ws) : bx_allI (fun i q => rxUNOK q = true ∨ bx_allP (fun E => bx_obE rxL X S0 rxCNOK.2.2.1 (rxINOK S0 ws) (rxPSNOK S0 ws) i q.1 E) q.2.2) 0 rxYNOK := ⟨Or.inr ⟨rxfNOK_0_0 hP, trivial⟩, Or.inl rfl, Or.inr ⟨rxfNOK_2_0 hP, trivial⟩, trivial⟩
theorem rxuNOK {PX : State → Prop} {Dg : va_G} {A : Nat → Prop} {ad xa : Nat → Nat} {l : Launch} {X : (Nat → Int → Int) → Prop} (hPX : rx_PXOK rxNW A PX) (hX : ∀ S S1 : Nat → Int → Int, X S → bx_same rxL (bx_mdl rxCNOK.2.2.1) S S1 → X S1) {S0 : Nat → Int → Int} {ws : List Int} (hP : rxPNOK S0 ws) : ∀ (i : Nat) (q : bx_HE), rxYNOK[i]? = some q → rxUNOK q = true → ∀ {p : Program} {e : Env} {R : Room} {s : State} {m : MethodId} {args : Array Value} {below : List Frame} {meth : Method} {c : Code} {Q : State → Prop} {H0 : Heap}, rx_Fr rxG rxNW rxAO PX p s m args meth c rxM20 → (∀ q, H0.size ≤ q → A q) → H0 = s.heap → rxM20.2.2.2.2.2.2.1 ≤ R.cells → rxM20.2.2.2.2.2.2.2 ≤ R.slots → rxCNOK.2.2.2.1 ≤ R.frames → rxCNOK.2.2.2.1 * 40 ≤ R.locals → bx_Step p l e R s m args below meth c Q Dg rxL X vwCl A xa H0 ad rxM20 rxYNOK (rxINOK S0 ws) (rxmNOK S0 ws) S0 rxCNOK.2.2.1 i q := by
  intro i q hq hus p e R s m args below meth c Q H0 hF hA hH0 hmc hms hd hdl
  match i, hq with
  | 0, hq =>
    cases hq
    exact absurd (show false = true from hus) Bool.false_ne_true
  | 1, hq =>
    cases hq
    exact rx_stepB (i_p := 2) (o := 4) (a := (8, 0)) (b := (0, 6)) (lo := 0) (hi := 5) (t := []) hF (Or.inl ⟨rfl, rfl⟩) (by decide +kernel) rfl rfl rfl rfl (rxsNOK_1 hP)
  | 2, hq =>
    cases hq
    exact absurd (show false = true from hus) Bool.false_ne_true
  | n + 3, hq => cases hq
theorem rxQNOK {PX : State → Prop} {Dg : va_G} {A : Nat → Prop} {ad xa : Nat → Nat} {l : Launch} {X : (Nat → Int → Int) → Prop} (hPX : rx_PXOK rxNW A PX) (hsl : ∀ s : State, PX s → ∀ o idx n : Nat, rxSl o idx = some n → ∃ tx : String, vk_R (rxNm o) idx tx (ad n) s)
    (hX : ∀ S S_p : Nat → Int → Int, X S → bx_same rxL (bx_mdl rxCNOK.2.2.1) S S_p → X S_p)
    (ih : ∀ (j2 : Nat) (ct2 : bx_Ct) (M2 : rx_Mt), ct2 ∈ rxCnE j2 → ct2.2.2.2.1 + 1 ≤ rxCNOK.2.2.2.1 → rxT.2.2.2.2.2 j2 = some M2 → bx_Con rxG rxNW rxAO PX Dg rxL X vwCl A ad l M2 ct2) : bx_ConP rxG rxNW rxAO PX Dg rxL X vwCl A ad l rxM20 rxCNOK rxPNOK rxPSNOK :=
  rxQof (xa := xa) (Cn := rxCnE) (f := 30000) (j := 20) (tab := rxYNOK) (us := rxUNOK) hPX hsl hX ih rfl rxYcNOK rxINOK rxmNOK
    (fun S0 ws r I0 I ht0 ht as he he1 hX0 hI0 hP hs ha => by
      have e := he.symm.trans (show bx_ent0 rxNP rxCNOK.1 bx_I0 [] = some ([(0, 0), (0, 0), (0, 0), (0, 0), (0, 0), (0, 0), (0, 0), (0, 0), ((-1), 59)], [], [.inr (0, (8, 0))]) from rfl)
      cases e
      subst ha
      have h0 : r 0 = 0 := hs.1
      show rxINOK_0 S0 _ S0 (r 8)
      refine ⟨rfl, ?_⟩
      simp only [List.map_cons, List.map_nil, bx_xv_ok h0]
      rfl)
    (fun S0 ws hP => rxuNOK (xa := xa) hPX hX hP) (fun S0 ws hP => rxgCNOK hP) (fun S0 ws hP => rxgENOK hP)
