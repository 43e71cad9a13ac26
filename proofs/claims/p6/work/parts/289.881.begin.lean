theorem rk_upR {S : Nat → Int → Int} {p : Nat} {j v i : Int} : bx_up S p j v p i = if i = j then v else S p i := by
  by_cases c : i = j
  · rw [if_pos c, c]
    exact bx_up_at
  · rw [if_neg c]
    exact bx_up_ne (fun z => c z.2)
theorem rk_frI {S T : Nat → Int → Int} {c f : Nat} (v : ∀ (p i : Nat), p < rxL.2.1 → i < bx_wd (rxL.1 p) → bx_mc (rxL.1 p) i ≠ (c, f) → T p (i : Int) = S p (i : Int)) (hl : rxNum.all (fun p => Nat.blt p 522 && !(Nat.beq (bx_mc (rxL.1 p) 0).1 c)) = true) {p n : Nat} (hp : p ∈ rxNum) (hn : bx_wd (rxL.1 p) = n) {i : Int} (i0 : 0 ≤ i) (i1 : i < (n : Int)) : T p i = S p i := by
  have q := rx_frH v hl hp (i := i.toNat) (by omega)
  rwa [Int.toNat_of_nonneg i0] at q
/-! CONTRACT BY HAND, by program (wip/sim/genhand.py): DeadUnderstudies$Town.addVersion -/
def rxCADV : bx_Ct := ([(3, (1, 1, 0)), (0, (0, 0, 5)), (0, (0, 0, 7)), (0, (0, (-1), 10))], some (0, (0, (-1), 11)), [(10, 5), (1006, 0), (1007, 0), (1008, 0), (1019, 0), (1020, 0)], 2, [])
def rxIADV_0 (S0 : Nat → Int → Int) (ws : List Int) (S : Nat → Int → Int) (pa ps te : Int) : Prop := S = S0 ∧ ws = [1, pa, ps, te]
def rxmADV_0 (S0 : Nat → Int → Int) (ws : List Int) (S : Nat → Int → Int) (pa ps te : Int) : Nat := 100
def rxzADV_0 : rx_Z := ([(0, 0), (0, 0), (0, 0), (0, 0), (0, 0), (0, 0), (0, 0), (0, 0), (0, 5), (0, 7), ((-1), 10)], [], [], 0, 0, 0, [(0, .inr (3, (0, 1))), (1, .inr (0, (8, 0))), (2, .inr (0, (9, 0))), (3, .inr (0, (10, 0)))], [])
def rxeADV_0_0 : rx_End × List (Nat × Int × Int) := (([(0, 0), (0, 0), (0, 0), (0, 0), (0, 0), (0, 0), (0, 0), (0, 0), (0, 5), (0, 7), ((-1), 10), (12, 12)], [], [(((0, 0), 1851192626986356798427873864310897359480125337295219445323071488000000), .inr (0, (11, 0))), (((0, 1), 5), .inr (0, (11, 0)))], some (.inr (0, (0, (-1))))), [])
def rxeADV_0_1 : rx_End × List (Nat × Int × Int) := (([(0, 0), (0, 0), (0, 0), (0, 0), (0, 0), (0, 0), (0, 0), (0, 0), (0, 5), (0, 7), ((-1), 10), (0, 11), (0, 1522)], [], [(((0, 0), 1851192626986356798427873864310897359480125337295219445323071491000000), .inr (0, (11, 1))), (((0, 1), 5), .inr (0, (11, 1))), (((0, 0), 917100006000000), .inl none), (((0, 0), 918000006000000), .inl none), (((0, 0), 89999100006000000), .inl none), (((0, 0), 1851192626986356797424374018331344491018900889112178922613374976000000), .inr (3, (12, 0))), (((12, 0), 1000010), .inl none), (((0, 1), 9), .inr (3, (0, 12))), (((0, 0), 1851192626986356797424374018331344491018900889112178922612785155000000), .inr (0, (10, 0))), (((0, 1), 8), .inr (3, (0, 11))), (((0, 0), 1851192626986356797424374018331344491018900889112178922612195331000000), .inr (0, (9, 0))), (((0, 1), 7), .inr (3, (0, 10))), (((0, 0), 1851192626986356797424374018331344491018900889112178922611605507000000), .inr (0, (8, 0))), (((0, 1), 6), .inr (3, (0, 9))), (((0, 0), 1851192626986356798427873864310897359480125337295219445323071488000000), .inr (0, (11, 0)))], some (.inr (0, (11, 0)))), [])
def rxYADV : List bx_HE := [(rxzADV_0, [], [rxeADV_0_0, rxeADV_0_1])]
def rxUADV (q : bx_HE) : Bool := false
def rxYBADV : bx_B := (rxV, rxNP, rxDmf, bx_mdH rxCADV.2.2.1)
set_option maxRecDepth 100000 in
theorem rxYcADV : bx_chkH rxYBADV rxM123 rxCADV rxYADV (rxUADV, fun cut z => rx_ex2 (rxCT rxYBADV rxCn) cut 30000 rxCADV.2.2.2.1 123 z) = true := by decide +kernel
def rxIADV (S0 : Nat → Int → Int) (ws : List Int) (i : Nat) : bx_SP := fun S r => match i with | 0 => rxIADV_0 S0 ws S (r 8) (r 9) (r 10) | _ => False
def rxmADV (S0 : Nat → Int → Int) (ws : List Int) (i : Nat) (S : Nat → Int → Int) (r : Nat → Int) : Nat := match i with | 0 => rxmADV_0 S0 ws S (r 8) (r 9) (r 10) | _ => 0
def rxPADV (S0 : Nat → Int → Int) (ws : List Int) : Prop := True
def rxPSADV (S0 : Nat → Int → Int) (ws : List Int) (S : Nat → Int → Int) (w : Option Int) : Prop := ∃ pa ps te : Int, ws = [1, pa, ps, te] ∧ ((12 ≤ S0 1 5 ∧ w = some (-1)) ∨ (S0 1 5 < 12 ∧ w = some (S0 1 5) ∧ S 1 5 = S0 1 5 + 1 ∧ (∀ i : Int, 0 ≤ i → i < 12 → S 9 i = if i = S0 1 5 then pa else S0 9 i) ∧ (∀ i : Int, 0 ≤ i → i < 12 → S 10 i = if i = S0 1 5 then ps else S0 10 i) ∧ (∀ i : Int, 0 ≤ i → i < 12 → S 11 i = if i = S0 1 5 then te else S0 11 i) ∧ S 138 5 = S0 138 5 ∧ S 274 5 = S0 274 5 ∧ (∀ i : Int, 0 ≤ i → i < 12 → S 146 i = S0 146 i) ∧ (∀ i : Int, 0 ≤ i → i < 12 → S 282 i = S0 282 i) ∧ (∀ i : Int, 0 ≤ i → i < 12 → S 147 i = S0 147 i) ∧ (∀ i : Int, 0 ≤ i → i < 12 → S 283 i = S0 283 i) ∧ (∀ i : Int, 0 ≤ i → i < 12 → S 148 i = S0 148 i) ∧ (∀ i : Int, 0 ≤ i → i < 12 → S 284 i = S0 284 i)))
theorem rxdADV_0_0 {S0 : Nat → Int → Int} {ws : List Int} {S : Nat → Int → Int} {pa ps te x11 : Int} (hP : rxPADV S0 ws) (hin : bx_same rxL (bx_mdl rxCADV.2.2.1) S0 S) (hin2 : bx_same rxL (bx_mdl rxCADV.2.2.1) S S) (I0 : bx_Inv rxL S) (I1 : bx_Inv rxL S) (hinv : rxIADV_0 S0 ws S pa ps te) (l8 : 0 ≤ pa) (u8 : pa ≤ 5) (l9 : 0 ≤ ps) (u9 : ps ≤ 7) (l10 : (-1) ≤ te) (u10 : te ≤ 10) (l11 : 12 ≤ x11) (u11 : x11 ≤ 12) (e0 : S 1 5 = x11) : (True) ∧ rxPSADV S0 ws S (some ((-1))) := by
  obtain ⟨rfl, hw⟩ := hinv
  refine ⟨trivial, pa, ps, te, hw, Or.inl (⟨?_, ?_⟩)⟩ <;> first | omega | exact hin2 | exact congrArg some (by omega) | (intro i i0 i1; simp only [bx_up]; (repeat' split) <;> first | rfl | omega | (simp_all; done) | (simp_all; omega)) | ((repeat (first | rw [bx_up_at] | rw [bx_up_ne (by omega)])); omega) | exact True.intro
theorem rxfADV_0_0 {X : (Nat → Int → Int) → Prop} {S0 : Nat → Int → Int} {ws : List Int} (hP : rxPADV S0 ws) : bx_obE rxL X S0 rxCADV.2.2.1 (rxIADV S0 ws) (rxPSADV S0 ws) 0 rxzADV_0 rxeADV_0_0 := by
  intro S S_p r r_p hinv hX hin hsm_ hseg
  obtain ⟨I0, I1, h0_, hr_, b_, f_, d_⟩ := bx_cl (evs := [(0, (0, 1), (0, 5), .inr (0, (11, 0)))]) (fvs := []) hseg (by decide +kernel) (by decide +kernel)
  have hinv : rxIADV_0 S0 ws S (r 8) (r 9) (r 10) := hinv
  rw [← hr_ 8 (by decide), ← hr_ 9 (by decide), ← hr_ 10 (by decide)] at hinv
  obtain ⟨⟨l8, u8⟩, ⟨l9, u9⟩, ⟨l10, u10⟩, ⟨l11, u11⟩, -⟩ := b_
  obtain ⟨e0, w_⟩ := d_
  subst w_
  have g := rxdADV_0_0 hP hin hsm_ I0 I1 hinv l8 u8 l9 u9 l10 u10 l11 u11 e0
  refine ⟨bx_narP_ok (l := []) g.1, ?_⟩
  show rxPSADV S0 ws S_p (some (bx_num r_p (.inr (0, (0, (-1))))))
  rw [bx_xv_ok h0_]
  exact g.2
theorem rxdADV_0_1 {S0 : Nat → Int → Int} {ws : List Int} {S T3 T2 T1 : Nat → Int → Int} {pa ps te x11 x12 : Int} (hP : rxPADV S0 ws) (hin : bx_same rxL (bx_mdl rxCADV.2.2.1) S0 S) (hin2 : bx_same rxL (bx_mdl rxCADV.2.2.1) S (bx_up T1 1 5 (x11 + 1))) (I0 : bx_Inv rxL S) (I1 : bx_Inv rxL (bx_up T1 1 5 (x11 + 1))) (hinv : rxIADV_0 S0 ws S pa ps te) (l8 : 0 ≤ pa) (u8 : pa ≤ 5) (l9 : 0 ≤ ps) (u9 : ps ≤ 7) (l10 : (-1) ≤ te) (u10 : te ≤ 10) (l11 : 0 ≤ x11) (u11 : x11 ≤ 11) (l12 : 0 ≤ x12) (u12 : x12 ≤ 1522) (e8 : S 1 5 = x11) (e4 : (bx_up (bx_up (bx_up S 9 x11 pa) 10 x11 ps) 11 x11 te) 12 x11 = x12) (v3 : ∀ (p i : Nat), p < rxL.2.1 → i < bx_wd (rxL.1 p) → bx_mc (rxL.1 p) i ≠ (99999, 0) → T3 p (i : Int) = (bx_up (bx_up (bx_up S 9 x11 pa) 10 x11 ps) 11 x11 te) p (i : Int)) (v2 : ∀ (p i : Nat), p < rxL.2.1 → i < bx_wd (rxL.1 p) → bx_mc (rxL.1 p) i ≠ (1020, 0) → T2 p (i : Int) = T3 p (i : Int)) (v1 : ∀ (p i : Nat), p < rxL.2.1 → i < bx_wd (rxL.1 p) → bx_mc (rxL.1 p) i ≠ (1019, 0) → T1 p (i : Int) = T2 p (i : Int)) : (True) ∧ rxPSADV S0 ws (bx_up T1 1 5 (x11 + 1)) (some x11) := by
  obtain ⟨rfl, hw⟩ := hinv
  have fr : ∀ {p n : Nat} (_ : p ∈ rxNum) (_ : bx_wd (rxL.1 p) = n) {i : Int}, 0 ≤ i → i < (n : Int) → T1 p i = (bx_up (bx_up (bx_up S 9 x11 pa) 10 x11 ps) 11 x11 te) p i := fun hp hn _ a b => (rk_frI v1 (by decide +kernel) hp hn a b).trans ((rk_frI v2 (by decide +kernel) hp hn a b).trans (rk_frI v3 (by decide +kernel) hp hn a b))
  have r9 : ∀ i : Int, (bx_up (bx_up (bx_up S 9 x11 pa) 10 x11 ps) 11 x11 te) 9 i = if i = S 1 5 then pa else S 9 i := fun i => by
    have z : (bx_up (bx_up (bx_up S 9 x11 pa) 10 x11 ps) 11 x11 te) 9 i = bx_up S 9 x11 pa 9 i := (bx_up_ne (by omega)).trans (bx_up_ne (by omega))
    rw [z, rk_upR, e8]
  have r10 : ∀ i : Int, (bx_up (bx_up (bx_up S 9 x11 pa) 10 x11 ps) 11 x11 te) 10 i = if i = S 1 5 then ps else S 10 i := fun i => by
    have z : (bx_up (bx_up (bx_up S 9 x11 pa) 10 x11 ps) 11 x11 te) 10 i = bx_up (bx_up S 9 x11 pa) 10 x11 ps 10 i := bx_up_ne (by omega)
    have y : bx_up S 9 x11 pa 10 i = S 10 i := bx_up_ne (by omega)
    rw [z, rk_upR, y, e8]
  have r11 : ∀ i : Int, (bx_up (bx_up (bx_up S 9 x11 pa) 10 x11 ps) 11 x11 te) 11 i = if i = S 1 5 then te else S 11 i := fun i => by
    have y : bx_up (bx_up S 9 x11 pa) 10 x11 ps 11 i = S 11 i := (bx_up_ne (by omega)).trans (bx_up_ne (by omega))
    rw [rk_upR, y, e8]
  exact ⟨trivial, pa, ps, te, hw, Or.inr ⟨by omega, congrArg some (by omega), bx_up_at.trans (by omega), fun i i0 i1 => (bx_up_ne (by omega)).trans ((fr (p := 9) (n := 12) (by decide) (by decide +kernel) i0 i1).trans (r9 i)), fun i i0 i1 => (bx_up_ne (by omega)).trans ((fr (p := 10) (n := 12) (by decide) (by decide +kernel) i0 i1).trans (r10 i)), fun i i0 i1 => (bx_up_ne (by omega)).trans ((fr (p := 11) (n := 12) (by decide) (by decide +kernel) i0 i1).trans (r11 i)), (bx_up_ne (by omega)).trans ((fr (p := 138) (n := 19) (by decide) (by decide +kernel) (i := 5) (by decide) (by decide)).trans ((bx_up_ne (by omega)).trans ((bx_up_ne (by omega)).trans (bx_up_ne (by omega))))), (bx_up_ne (by omega)).trans ((fr (p := 274) (n := 19) (by decide) (by decide +kernel) (i := 5) (by decide) (by decide)).trans ((bx_up_ne (by omega)).trans ((bx_up_ne (by omega)).trans (bx_up_ne (by omega))))), fun i i0 i1 => (bx_up_ne (by omega)).trans ((fr (p := 146) (n := 12) (by decide) (by decide +kernel) i0 i1).trans ((bx_up_ne (by omega)).trans ((bx_up_ne (by omega)).trans (bx_up_ne (by omega))))), fun i i0 i1 => (bx_up_ne (by omega)).trans ((fr (p := 282) (n := 12) (by decide) (by decide +kernel) i0 i1).trans ((bx_up_ne (by omega)).trans ((bx_up_ne (by omega)).trans (bx_up_ne (by omega))))), fun i i0 i1 => (bx_up_ne (by omega)).trans ((fr (p := 147) (n := 12) (by decide) (by decide +kernel) i0 i1).trans ((bx_up_ne (by omega)).trans ((bx_up_ne (by omega)).trans (bx_up_ne (by omega))))), fun i i0 i1 => (bx_up_ne (by omega)).trans ((fr (p := 283) (n := 12) (by decide) (by decide +kernel) i0 i1).trans ((bx_up_ne (by omega)).trans ((bx_up_ne (by omega)).trans (bx_up_ne (by omega))))), fun i i0 i1 => (bx_up_ne (by omega)).trans ((fr (p := 148) (n := 12) (by decide) (by decide +kernel) i0 i1).trans ((bx_up_ne (by omega)).trans ((bx_up_ne (by omega)).trans (bx_up_ne (by omega))))), fun i i0 i1 => (bx_up_ne (by omega)).trans ((fr (p := 284) (n := 12) (by decide) (by decide +kernel) i0 i1).trans ((bx_up_ne (by omega)).trans ((bx_up_ne (by omega)).trans (bx_up_ne (by omega)))))⟩⟩
theorem rxfADV_0_1 {X : (Nat → Int → Int) → Prop} {S0 : Nat → Int → Int} {ws : List Int} (hP : rxPADV S0 ws) : bx_obE rxL X S0 rxCADV.2.2.1 (rxIADV S0 ws) (rxPSADV S0 ws) 0 rxzADV_0 rxeADV_0_1 := by
  intro S S_p r r_p hinv hX hin hsm_ hseg
  obtain ⟨I0, I1, h0_, hr_, b_, f_, d_⟩ := bx_cl (evs := [(1, (0, 1), (0, 5), .inr (0, (11, 1))), (2, (1019, 0), (0, 0), .inl none), (2, (1020, 0), (0, 0), .inl none), (2, (99999, 0), (0, 0), .inl none), (0, (0, 12), (11, 0), .inr (3, (12, 0))), (1, (0, 11), (11, 0), .inr (0, (10, 0))), (1, (0, 10), (11, 0), .inr (0, (9, 0))), (1, (0, 9), (11, 0), .inr (0, (8, 0))), (0, (0, 1), (0, 5), .inr (0, (11, 0)))]) (fvs := []) hseg (by decide +kernel) (by decide +kernel)
  have hinv : rxIADV_0 S0 ws S (r 8) (r 9) (r 10) := hinv
  rw [← hr_ 8 (by decide), ← hr_ 9 (by decide), ← hr_ 10 (by decide)] at hinv
  obtain ⟨⟨l8, u8⟩, ⟨l9, u9⟩, ⟨l10, u10⟩, ⟨l11, u11⟩, ⟨l12, u12⟩, -⟩ := b_
  obtain ⟨T0, ⟨T1, ⟨T2, ⟨T3, ⟨e4, ⟨T5, ⟨T6, ⟨T7, ⟨e8, w_⟩, w7⟩, w6⟩, w5⟩⟩, v3⟩, v2⟩, v1⟩, w0⟩ := d_
  subst w0
  subst w5
  subst w6
  subst w7
  subst w_
  have g := rxdADV_0_1 hP hin hsm_ I0 I1 hinv l8 u8 l9 u9 l10 u10 l11 u11 l12 u12 e8 e4 v3 v2 v1
  refine ⟨bx_narP_ok (l := []) g.1, ?_⟩
  show rxPSADV S0 ws (bx_up T0 1 (5) (r_p 11 + 1)) (some (bx_num r_p (.inr (0, (11, 0)))))
  rw [bx_xv_ok h0_]
  exact g.2
theorem rxgCADV {X : (Nat → Int → Int) → Prop} {S0 : Nat → Int → Int} {ws : List Int} (hP : rxPADV S0 ws) : bx_allI (fun i q => rxUADV q = true ∨ bx_allP (fun o => bx_obC rxL X S0 rxCADV.2.2.1 (rxIADV S0 ws) (rxmADV S0 ws) i q.1 o) q.2.1) 0 rxYADV := ⟨Or.inr trivial, trivial⟩
theorem rxgEADV {X : (Nat → Int → Int) → Prop} {S0 : Nat → Int → Int} {ws : List Int} (hP : rxPADV S0 ws) : bx_allI (fun i q => rxUADV q = true ∨ bx_allP (fun E => bx_obE rxL X S0 rxCADV.2.2.1 (rxIADV S0 ws) (rxPSADV S0 ws) i q.1 E) q.2.2) 0 rxYADV := ⟨Or.inr ⟨rxfADV_0_0 hP, rxfADV_0_1 hP, trivial⟩, trivial⟩
theorem rxQADV {PX : State → Prop} {Dg : va_G} {A : Nat → Prop} {ad xa : Nat → Nat} {l : Launch} {X : (Nat → Int → Int) → Prop} (hPX : rx_PXOK rxNW A PX) (hsl : ∀ s : State, PX s → ∀ o idx n : Nat, rxSl o idx = some n → ∃ tx : String, vk_R (rxNm o) idx tx (ad n) s)
    (hX : ∀ S S_p : Nat → Int → Int, X S → bx_same rxL (bx_mdl rxCADV.2.2.1) S S_p → X S_p)
    (ih : ∀ (j2 : Nat) (ct2 : bx_Ct) (M2 : rx_Mt), ct2 ∈ rxCn j2 → ct2.2.2.2.1 + 1 ≤ rxCADV.2.2.2.1 → rxT.2.2.2.2.2 j2 = some M2 → bx_Con rxG rxNW rxAO PX Dg rxL X vwCl A ad l M2 ct2) : bx_ConP rxG rxNW rxAO PX Dg rxL X vwCl A ad l rxM123 rxCADV rxPADV rxPSADV :=
  rxQof (xa := xa) (Cn := rxCn) (f := 30000) (j := 123) (tab := rxYADV) (us := rxUADV) hPX hsl hX ih rfl rxYcADV rxIADV rxmADV
    (fun S0 ws r I0 I ht0 ht as he he1 hX0 hI0 hP hs ha => by
      have e := he.symm.trans (show bx_ent0 rxNP rxCADV.1 bx_I0 [] = some ([(0, 0), (0, 0), (0, 0), (0, 0), (0, 0), (0, 0), (0, 0), (0, 0), (0, 5), (0, 7), ((-1), 10)], [], [.inr (3, (0, 1)), .inr (0, (8, 0)), .inr (0, (9, 0)), .inr (0, (10, 0))]) from rfl)
      cases e
      subst ha
      have h0 : r 0 = 0 := hs.1
      show rxIADV_0 S0 _ S0 (r 8) (r 9) (r 10)
      refine ⟨rfl, ?_⟩
      simp only [List.map_cons, List.map_nil, bx_xv_ok h0]
      rfl)
    (fun S0 ws hP => fun i q hq hus => absurd (show false = true from hus) Bool.false_ne_true) (fun S0 ws hP => rxgCADV hP) (fun S0 ws hP => rxgEADV hP)
/-! CONTRACT BY HAND, by program (wip/sim/genhand.py): DeadUnderstudies.begin -/
def rxI253_0 (S0 : Nat → Int → Int) (ws : List Int) (S : Nat → Int → Int) (pa ps : Int) : Prop := S = S0 ∧ ws = [0, pa, ps]
def rxm253_0 (S0 : Nat → Int → Int) (ws : List Int) (S : Nat → Int → Int) (pa ps : Int) : Nat := 100
def rxz253_0 : rx_Z := ([(0, 0), (0, 0), (0, 0), (0, 0), (0, 0), (0, 0), (0, 0), (0, 0), ((-2147483648), 2147483647), ((-2147483648), 2147483647)], [], [], 0, 0, 0, [(0, .inr (3, (0, 0))), (1, .inr (0, (8, 0))), (2, .inr (0, (9, 0)))], [])
def rxI253_1 (S0 : Nat → Int → Int) (ws : List Int) (S : Nat → Int → Int) (pa ps : Int) : Prop := (pa < 0 ∨ S0 1 0 ≤ pa ∨ ps < 0 ∨ S0 5 0 ≤ ps) ∧ ws = [0, pa, ps] ∧ bx_same rxL (bx_mdl [(11, 8), (1017, 0), (1018, 0), (1023, 0), (1037, 0)]) S0 S
def rxm253_1 (S0 : Nat → Int → Int) (ws : List Int) (S : Nat → Int → Int) (pa ps : Int) : Nat := 50
def rxz253_1 : rx_Z := ([(0, 0), (0, 0), (0, 0), (0, 0), (0, 0), (0, 0), (0, 0), (0, 0), ((-2147483648), 2147483647), ((-2147483648), 2147483647)], [], [], 0, 0, 28, [(0, .inr (3, (0, 0))), (1, .inr (0, (8, 0))), (2, .inr (0, (9, 0)))], [.inr (0, (0, (-2))), .inr (3, (0, 0))])
def rxI253_2 (S0 : Nat → Int → Int) (ws : List Int) (S : Nat → Int → Int) (pa ps res : Int) : Prop := res = (-2) ∧ (pa < 0 ∨ S0 1 0 ≤ pa ∨ ps < 0 ∨ S0 5 0 ≤ ps) ∧ ws = [0, pa, ps] ∧ bx_same rxL (bx_mdl [(11, 8), (1017, 0), (1018, 0), (1023, 0), (1037, 0)]) S0 S
def rxm253_2 (S0 : Nat → Int → Int) (ws : List Int) (S : Nat → Int → Int) (pa ps res : Int) : Nat := 20
def rxz253_2 : rx_Z := ([(0, 0), (0, 0), (0, 0), (0, 0), (0, 0), (0, 0), (0, 0), (0, 0), ((-2147483648), 2147483647), ((-2147483648), 2147483647), ((-6), (-1))], [], [], 0, 0, 31, [(0, .inr (3, (0, 0))), (1, .inr (0, (8, 0))), (2, .inr (0, (9, 0)))], [.inr (0, (10, 0))])
def rxI253_3 (S0 : Nat → Int → Int) (ws : List Int) (S : Nat → Int → Int) (pa ps : Int) : Prop := S = S0 ∧ (0 ≤ pa ∧ pa < S0 1 0 ∧ 0 ≤ ps ∧ ps < S0 5 0) ∧ ws = [0, pa, ps]
def rxm253_3 (S0 : Nat → Int → Int) (ws : List Int) (S : Nat → Int → Int) (pa ps : Int) : Nat := 90
def rxz253_3 : rx_Z := ([(0, 0), (0, 0), (0, 0), (0, 0), (0, 0), (0, 0), (0, 0), (0, 0), (0, 5), (0, 7)], [], [], 0, 0, 38, [(0, .inr (3, (0, 0))), (1, .inr (0, (8, 0))), (2, .inr (0, (9, 0)))], [.inr (0, (9, 0)), .inr (0, (8, 0)), .inr (3, (0, 1))])
def rxI253_4 (S0 : Nat → Int → Int) (ws : List Int) (S : Nat → Int → Int) (pa ps r : Int) : Prop := ((r = 1 ∧ rkMb S0 pa ps) ∨ (r = 0 ∧ rkMbn S0 pa ps)) ∧ (0 ≤ pa ∧ pa < S0 1 0 ∧ 0 ≤ ps ∧ ps < S0 5 0) ∧ ws = [0, pa, ps] ∧ bx_same rxL (bx_mdl [(11, 8), (1017, 0), (1018, 0), (1023, 0), (1037, 0)]) S0 S
def rxm253_4 (S0 : Nat → Int → Int) (ws : List Int) (S : Nat → Int → Int) (pa ps r : Int) : Nat := 80
def rxz253_4 : rx_Z := ([(0, 0), (0, 0), (0, 0), (0, 0), (0, 0), (0, 0), (0, 0), (0, 0), (0, 5), (0, 7), (0, 1)], [], [], 0, 0, 41, [(0, .inr (3, (0, 0))), (1, .inr (0, (8, 0))), (2, .inr (0, (9, 0)))], [.inr (0, (10, 0))])
def rxI253_5 (S0 : Nat → Int → Int) (ws : List Int) (S : Nat → Int → Int) (pa ps : Int) : Prop := rkMbn S0 pa ps ∧ (0 ≤ pa ∧ pa < S0 1 0 ∧ 0 ≤ ps ∧ ps < S0 5 0) ∧ ws = [0, pa, ps] ∧ bx_same rxL (bx_mdl [(11, 8), (1017, 0), (1018, 0), (1023, 0), (1037, 0)]) S0 S
def rxm253_5 (S0 : Nat → Int → Int) (ws : List Int) (S : Nat → Int → Int) (pa ps : Int) : Nat := 50
def rxz253_5 : rx_Z := ([(0, 0), (0, 0), (0, 0), (0, 0), (0, 0), (0, 0), (0, 0), (0, 0), (0, 5), (0, 7)], [], [], 0, 0, 47, [(0, .inr (3, (0, 0))), (1, .inr (0, (8, 0))), (2, .inr (0, (9, 0)))], [.inr (0, (0, (-3))), .inr (3, (0, 0))])
def rxI253_6 (S0 : Nat → Int → Int) (ws : List Int) (S : Nat → Int → Int) (pa ps res : Int) : Prop := res = (-3) ∧ rkMbn S0 pa ps ∧ (0 ≤ pa ∧ pa < S0 1 0 ∧ 0 ≤ ps ∧ ps < S0 5 0) ∧ ws = [0, pa, ps] ∧ bx_same rxL (bx_mdl [(11, 8), (1017, 0), (1018, 0), (1023, 0), (1037, 0)]) S0 S
def rxm253_6 (S0 : Nat → Int → Int) (ws : List Int) (S : Nat → Int → Int) (pa ps res : Int) : Nat := 20
def rxz253_6 : rx_Z := ([(0, 0), (0, 0), (0, 0), (0, 0), (0, 0), (0, 0), (0, 0), (0, 0), (0, 5), (0, 7), ((-6), (-1))], [], [], 0, 0, 50, [(0, .inr (3, (0, 0))), (1, .inr (0, (8, 0))), (2, .inr (0, (9, 0)))], [.inr (0, (10, 0))])
def rxI253_7 (S0 : Nat → Int → Int) (ws : List Int) (S : Nat → Int → Int) (pa ps : Int) : Prop := (rkMb S0 pa ps ∧ 12 ≤ S0 1 5) ∧ (0 ≤ pa ∧ pa < S0 1 0 ∧ 0 ≤ ps ∧ ps < S0 5 0) ∧ ws = [0, pa, ps] ∧ bx_same rxL (bx_mdl [(11, 8), (1017, 0), (1018, 0), (1023, 0), (1037, 0)]) S0 S
def rxm253_7 (S0 : Nat → Int → Int) (ws : List Int) (S : Nat → Int → Int) (pa ps : Int) : Nat := 50
def rxz253_7 : rx_Z := ([(0, 0), (0, 0), (0, 0), (0, 0), (0, 0), (0, 0), (0, 0), (0, 0), (0, 5), (0, 7)], [], [], 0, 0, 66, [(0, .inr (3, (0, 0))), (1, .inr (0, (8, 0))), (2, .inr (0, (9, 0)))], [.inr (0, (0, (-5))), .inr (3, (0, 0))])
def rxI253_8 (S0 : Nat → Int → Int) (ws : List Int) (S : Nat → Int → Int) (pa ps res : Int) : Prop := res = (-5) ∧ (rkMb S0 pa ps ∧ 12 ≤ S0 1 5) ∧ (0 ≤ pa ∧ pa < S0 1 0 ∧ 0 ≤ ps ∧ ps < S0 5 0) ∧ ws = [0, pa, ps] ∧ bx_same rxL (bx_mdl [(11, 8), (1017, 0), (1018, 0), (1023, 0), (1037, 0)]) S0 S
def rxm253_8 (S0 : Nat → Int → Int) (ws : List Int) (S : Nat → Int → Int) (pa ps res : Int) : Nat := 20
def rxz253_8 : rx_Z := ([(0, 0), (0, 0), (0, 0), (0, 0), (0, 0), (0, 0), (0, 0), (0, 0), (0, 5), (0, 7), ((-6), (-1))], [], [], 0, 0, 69, [(0, .inr (3, (0, 0))), (1, .inr (0, (8, 0))), (2, .inr (0, (9, 0)))], [.inr (0, (10, 0))])
def rxI253_9 (S0 : Nat → Int → Int) (ws : List Int) (S : Nat → Int → Int) (pa ps : Int) : Prop := (rkMb S0 pa ps ∧ S0 1 5 < 12) ∧ (0 ≤ pa ∧ pa < S0 1 0 ∧ 0 ≤ ps ∧ ps < S0 5 0) ∧ ws = [0, pa, ps] ∧ bx_same rxL (bx_mdl [(11, 8), (1017, 0), (1018, 0), (1023, 0), (1037, 0)]) S0 S
def rxm253_9 (S0 : Nat → Int → Int) (ws : List Int) (S : Nat → Int → Int) (pa ps : Int) : Nat := 50
def rxz253_9 : rx_Z := ([(0, 0), (0, 0), (0, 0), (0, 0), (0, 0), (0, 0), (0, 0), (0, 0), (0, 5), (0, 7)], [], [], 0, 0, 77, [(0, .inr (3, (0, 0))), (1, .inr (0, (8, 0))), (2, .inr (0, (9, 0)))], [.inr (0, (0, (-1))), .inr (0, (9, 0)), .inr (0, (8, 0)), .inr (3, (0, 1))])
def rxI253_10 (S0 : Nat → Int → Int) (ws : List Int) (S : Nat → Int → Int) (pa ps res : Int) : Prop := (res = S0 1 5 ∧ 0 ≤ res) ∧ (rkMb S0 pa ps ∧ S0 1 5 < 12) ∧ (0 ≤ pa ∧ pa < S0 1 0 ∧ 0 ≤ ps ∧ ps < S0 5 0) ∧ ws = [0, pa, ps] ∧ S 1 5 = S0 1 5 + 1 ∧ (∀ i : Int, 0 ≤ i → i < 12 → S 9 i = if i = S0 1 5 then pa else S0 9 i) ∧ (∀ i : Int, 0 ≤ i → i < 12 → S 10 i = if i = S0 1 5 then ps else S0 10 i) ∧ (∀ i : Int, 0 ≤ i → i < 12 → S 11 i = if i = S0 1 5 then (-1) else S0 11 i) ∧ S 138 5 = S0 138 5 ∧ S 274 5 = S0 274 5 ∧ (∀ i : Int, 0 ≤ i → i < 12 → S 146 i = S0 146 i) ∧ (∀ i : Int, 0 ≤ i → i < 12 → S 282 i = S0 282 i) ∧ (∀ i : Int, 0 ≤ i → i < 12 → S 147 i = S0 147 i) ∧ (∀ i : Int, 0 ≤ i → i < 12 → S 283 i = S0 283 i) ∧ (∀ i : Int, 0 ≤ i → i < 12 → S 148 i = S0 148 i) ∧ (∀ i : Int, 0 ≤ i → i < 12 → S 284 i = S0 284 i)
def rxm253_10 (S0 : Nat → Int → Int) (ws : List Int) (S : Nat → Int → Int) (pa ps res : Int) : Nat := 40
def rxz253_10 : rx_Z := ([(0, 0), (0, 0), (0, 0), (0, 0), (0, 0), (0, 0), (0, 0), (0, 0), (0, 5), (0, 7), ((-1), 11)], [], [], 0, 0, 80, [(0, .inr (3, (0, 0))), (1, .inr (0, (8, 0))), (2, .inr (0, (9, 0)))], [.inr (0, (10, 0))])
def rxo253_0_0 : bx_HO := (([(0, 0), (0, 0), (0, 0), (0, 0), (0, 0), (0, 0), (0, 0), (0, 0), ((-2147483648), (-1)), ((-2147483648), 2147483647)], [], [(((0, 0), 0), .inr (3, (0, 1)))], 0, 0, 28, [(0, .inr (3, (0, 0))), (1, .inr (0, (8, 0))), (2, .inr (0, (9, 0)))], [.inr (0, (0, (-2))), .inr (3, (0, 0))]), [], [], [(0, 0), (0, 0), (0, 0), (0, 0), (0, 0), (0, 0), (0, 0), (0, 0), (8, 0), (9, 0)], 1)
def rxo253_0_1 : bx_HO := (([(0, 0), (0, 0), (0, 0), (0, 0), (0, 0), (0, 0), (0, 0), (0, 0), (0, 2147483647), ((-2147483648), 2147483647), (0, 6)], [(1, (10, 0), (8, 0))], [(((0, 0), 1851192626986356797424340330377019318111018015026043177553952768000000), .inr (0, (10, 0))), (((0, 1), 0), .inr (0, (10, 0))), (((0, 0), 0), .inr (3, (0, 1)))], 0, 0, 28, [(0, .inr (3, (0, 0))), (1, .inr (0, (8, 0))), (2, .inr (0, (9, 0)))], [.inr (0, (0, (-2))), .inr (3, (0, 0))]), [], [], [(0, 0), (0, 0), (0, 0), (0, 0), (0, 0), (0, 0), (0, 0), (0, 0), (8, 0), (9, 0)], 1)
def rxo253_0_2 : bx_HO := (([(0, 0), (0, 0), (0, 0), (0, 0), (0, 0), (0, 0), (0, 0), (0, 0), (0, 5), ((-2147483648), (-1)), (1, 6)], [(0, (8, 0), (10, 0))], [(((0, 1), 4), .inr (3, (0, 5))), (((0, 0), 1851192626986356797424340330377019318111018015026043177553952768000000), .inr (0, (10, 0))), (((0, 1), 0), .inr (0, (10, 0))), (((0, 0), 0), .inr (3, (0, 1)))], 0, 0, 28, [(0, .inr (3, (0, 0))), (1, .inr (0, (8, 0))), (2, .inr (0, (9, 0)))], [.inr (0, (0, (-2))), .inr (3, (0, 0))]), [], [], [(0, 0), (0, 0), (0, 0), (0, 0), (0, 0), (0, 0), (0, 0), (0, 0), (8, 0), (9, 0)], 1)
def rxo253_0_3 : bx_HO := (([(0, 0), (0, 0), (0, 0), (0, 0), (0, 0), (0, 0), (0, 0), (0, 0), (0, 5), (0, 2147483647), (1, 6), (0, 8)], [(1, (11, 0), (9, 0)), (0, (8, 0), (10, 0))], [(((0, 0), 1851192626986356797424340330377019318111018015026043177556312064000000), .inr (0, (11, 0))), (((0, 5), 0), .inr (0, (11, 0))), (((0, 1), 4), .inr (3, (0, 5))), (((0, 0), 1851192626986356797424340330377019318111018015026043177553952768000000), .inr (0, (10, 0))), (((0, 1), 0), .inr (0, (10, 0))), (((0, 0), 0), .inr (3, (0, 1)))], 0, 0, 28, [(0, .inr (3, (0, 0))), (1, .inr (0, (8, 0))), (2, .inr (0, (9, 0)))], [.inr (0, (0, (-2))), .inr (3, (0, 0))]), [], [], [(0, 0), (0, 0), (0, 0), (0, 0), (0, 0), (0, 0), (0, 0), (0, 0), (8, 0), (9, 0)], 1)
def rxo253_0_4 : bx_HO := (([(0, 0), (0, 0), (0, 0), (0, 0), (0, 0), (0, 0), (0, 0), (0, 0), (0, 5), (0, 7), (1, 6), (1, 8)], [(0, (9, 0), (11, 0)), (0, (8, 0), (10, 0))], [(((0, 0), 1851192626986356797424340330377019318111018015026043177556312064000000), .inr (0, (11, 0))), (((0, 5), 0), .inr (0, (11, 0))), (((0, 1), 4), .inr (3, (0, 5))), (((0, 0), 1851192626986356797424340330377019318111018015026043177553952768000000), .inr (0, (10, 0))), (((0, 1), 0), .inr (0, (10, 0))), (((0, 0), 0), .inr (3, (0, 1)))], 0, 0, 38, [(0, .inr (3, (0, 0))), (1, .inr (0, (8, 0))), (2, .inr (0, (9, 0)))], [.inr (0, (9, 0)), .inr (0, (8, 0)), .inr (3, (0, 1))]), [], [], [(0, 0), (0, 0), (0, 0), (0, 0), (0, 0), (0, 0), (0, 0), (0, 0), (8, 0), (9, 0)], 3)
def rxe253_2_0 : rx_End × List (Nat × Int × Int) := (([(0, 0), (0, 0), (0, 0), (0, 0), (0, 0), (0, 0), (0, 0), (0, 0), ((-2147483648), 2147483647), ((-2147483648), 2147483647), ((-6), (-1))], [], [], some (.inr (0, (10, 0)))), [])
def rxo253_4_0 : bx_HO := (([(0, 0), (0, 0), (0, 0), (0, 0), (0, 0), (0, 0), (0, 0), (0, 0), (0, 5), (0, 7), (0, 0)], [], [], 0, 0, 47, [(0, .inr (3, (0, 0))), (1, .inr (0, (8, 0))), (2, .inr (0, (9, 0)))], [.inr (0, (0, (-3))), .inr (3, (0, 0))]), [], [], [(0, 0), (0, 0), (0, 0), (0, 0), (0, 0), (0, 0), (0, 0), (0, 0), (8, 0), (9, 0)], 5)
def rxo253_4_1 : bx_HO := (([(0, 0), (0, 0), (0, 0), (0, 0), (0, 0), (0, 0), (0, 0), (0, 0), (0, 5), (0, 7), (1, 1), (12, 12)], [(3, (10, 0), (0, 0))], [(((0, 0), 1851192626986356798427873864310897359480125337295219445323071488000000), .inr (0, (11, 0))), (((0, 1), 5), .inr (0, (11, 0))), (((0, 0), 0), .inr (3, (0, 1)))], 0, 0, 66, [(0, .inr (3, (0, 0))), (1, .inr (0, (8, 0))), (2, .inr (0, (9, 0)))], [.inr (0, (0, (-5))), .inr (3, (0, 0))]), [], [], [(0, 0), (0, 0), (0, 0), (0, 0), (0, 0), (0, 0), (0, 0), (0, 0), (8, 0), (9, 0)], 7)
def rxo253_4_2 : bx_HO := (([(0, 0), (0, 0), (0, 0), (0, 0), (0, 0), (0, 0), (0, 0), (0, 0), (0, 5), (0, 7), (1, 1), (0, 11)], [(3, (10, 0), (0, 0))], [(((0, 0), 1851192626986356798427873864310897359480125337295219445323071488000000), .inr (0, (11, 0))), (((0, 1), 5), .inr (0, (11, 0))), (((0, 0), 0), .inr (3, (0, 1)))], 0, 0, 77, [(0, .inr (3, (0, 0))), (1, .inr (0, (8, 0))), (2, .inr (0, (9, 0)))], [.inr (0, (0, (-1))), .inr (0, (9, 0)), .inr (0, (8, 0)), .inr (3, (0, 1))]), [], [], [(0, 0), (0, 0), (0, 0), (0, 0), (0, 0), (0, 0), (0, 0), (0, 0), (8, 0), (9, 0)], 9)
def rxe253_6_0 : rx_End × List (Nat × Int × Int) := (([(0, 0), (0, 0), (0, 0), (0, 0), (0, 0), (0, 0), (0, 0), (0, 0), (0, 5), (0, 7), ((-6), (-1))], [], [], some (.inr (0, (10, 0)))), [])
def rxe253_8_0 : rx_End × List (Nat × Int × Int) := (([(0, 0), (0, 0), (0, 0), (0, 0), (0, 0), (0, 0), (0, 0), (0, 0), (0, 5), (0, 7), ((-6), (-1))], [], [], some (.inr (0, (10, 0)))), [])
def rxe253_10_0 : rx_End × List (Nat × Int × Int) := (([(0, 0), (0, 0), (0, 0), (0, 0), (0, 0), (0, 0), (0, 0), (0, 0), (0, 5), (0, 7), ((-1), (-1)), (0, 1522), (0, 1522)], [], [(((0, 0), 1851192626986356799029993984671224184301589730656725205983952899000000), .inr (0, (0, 0))), (((0, 0), 8), .inr (0, (0, 0))), (((0, 0), 917100006000000), .inl none), (((0, 0), 918000006000000), .inl none), (((0, 0), 89999100006000000), .inl none), (((0, 0), 1851192626986356797424364830707437625680387377997778264866947072000000), .inr (3, (12, 0))), (((12, 0), 1000010), .inl none), (((0, 1), 3), .inr (3, (0, 4))), (((0, 0), 1851192626986356797424340330377019318111018015026043177560440832000000), .inr (3, (11, 0))), (((0, 12), 0), .inr (3, (11, 0))), (((11, 0), 1000010), .inl none), (((0, 1), 9), .inr (3, (0, 12))), (((0, 0), 0), .inr (3, (0, 1)))], some (.inr (0, (10, 0)))), [])
def rxe253_10_1 : rx_End × List (Nat × Int × Int) := (([(0, 0), (0, 0), (0, 0), (0, 0), (0, 0), (0, 0), (0, 0), (0, 0), (0, 5), (0, 7), (0, 11), (0, 1522), (0, 1522)], [], [(((0, 0), 1851192626986356799029993984671224184301589730656725205983952899000000), .inr (0, (0, 0))), (((0, 0), 8), .inr (0, (0, 0))), (((0, 0), 917100006000000), .inl none), (((0, 0), 918000006000000), .inl none), (((0, 0), 89999100006000000), .inl none), (((0, 0), 1851192626986356797424364830707437625680387377997778264866947072000000), .inr (3, (12, 0))), (((12, 0), 1000010), .inl none), (((0, 1), 3), .inr (3, (0, 4))), (((0, 0), 1851192626986356797424370955790042202572729718740712036699471872000000), .inr (3, (11, 0))), (((11, 0), 1000010), .inl none), (((0, 1), 9), .inr (3, (0, 12))), (((0, 0), 0), .inr (3, (0, 1)))], some (.inr (0, (10, 0)))), [])
def rxY253 : List bx_HE := [(rxz253_0, [rxo253_0_0, rxo253_0_1, rxo253_0_2, rxo253_0_3, rxo253_0_4], []), (rxz253_1, [], []), (rxz253_2, [], [rxe253_2_0]), (rxz253_3, [], []), (rxz253_4, [rxo253_4_0, rxo253_4_1, rxo253_4_2], []), (rxz253_5, [], []), (rxz253_6, [], [rxe253_6_0]), (rxz253_7, [], []), (rxz253_8, [], [rxe253_8_0]), (rxz253_9, [], []), (rxz253_10, [], [rxe253_10_0, rxe253_10_1])]
def rxU253 (q : bx_HE) : Bool := Nat.beq (rx_zpc q.1) 28 || Nat.beq (rx_zpc q.1) 38 || Nat.beq (rx_zpc q.1) 47 || Nat.beq (rx_zpc q.1) 66 || Nat.beq (rx_zpc q.1) 77
def rxYB253 : bx_B := (rxV, rxNP, rxDmf, bx_mdH rxC253.2.2.1)
set_option maxRecDepth 100000 in
theorem rxYc253 : bx_chkH rxYB253 rxM253 rxC253 rxY253 (rxU253, fun cut z => rx_ex2 (rxCT rxYB253 rxCn) cut 30000 rxC253.2.2.2.1 253 z) = true := by decide +kernel
def rxI253 (S0 : Nat → Int → Int) (ws : List Int) (i : Nat) : bx_SP := fun S r => match i with | 0 => rxI253_0 S0 ws S (r 8) (r 9) | 1 => rxI253_1 S0 ws S (r 8) (r 9) | 2 => rxI253_2 S0 ws S (r 8) (r 9) (r 10) | 3 => rxI253_3 S0 ws S (r 8) (r 9) | 4 => rxI253_4 S0 ws S (r 8) (r 9) (r 10) | 5 => rxI253_5 S0 ws S (r 8) (r 9) | 6 => rxI253_6 S0 ws S (r 8) (r 9) (r 10) | 7 => rxI253_7 S0 ws S (r 8) (r 9) | 8 => rxI253_8 S0 ws S (r 8) (r 9) (r 10) | 9 => rxI253_9 S0 ws S (r 8) (r 9) | 10 => rxI253_10 S0 ws S (r 8) (r 9) (r 10) | _ => False
def rxm253 (S0 : Nat → Int → Int) (ws : List Int) (i : Nat) (S : Nat → Int → Int) (r : Nat → Int) : Nat := match i with | 0 => rxm253_0 S0 ws S (r 8) (r 9) | 1 => rxm253_1 S0 ws S (r 8) (r 9) | 2 => rxm253_2 S0 ws S (r 8) (r 9) (r 10) | 3 => rxm253_3 S0 ws S (r 8) (r 9) | 4 => rxm253_4 S0 ws S (r 8) (r 9) (r 10) | 5 => rxm253_5 S0 ws S (r 8) (r 9) | 6 => rxm253_6 S0 ws S (r 8) (r 9) (r 10) | 7 => rxm253_7 S0 ws S (r 8) (r 9) | 8 => rxm253_8 S0 ws S (r 8) (r 9) (r 10) | 9 => rxm253_9 S0 ws S (r 8) (r 9) | 10 => rxm253_10 S0 ws S (r 8) (r 9) (r 10) | _ => 0
def rxP253 (S0 : Nat → Int → Int) (ws : List Int) : Prop := rkDp S0
def rxPS253 (S0 : Nat → Int → Int) (ws : List Int) (S : Nat → Int → Int) (w : Option Int) : Prop := ∃ pa ps : Int, ws = [0, pa, ps] ∧ (((pa < 0 ∨ S0 1 0 ≤ pa ∨ ps < 0 ∨ S0 5 0 ≤ ps) ∧ w = some (-2) ∧ bx_same rxL (bx_mdl [(11, 8), (1017, 0), (1018, 0), (1023, 0), (1037, 0)]) S0 S) ∨ ((0 ≤ pa ∧ pa < S0 1 0 ∧ 0 ≤ ps ∧ ps < S0 5 0) ∧ rkMbn S0 pa ps ∧ w = some (-3) ∧ bx_same rxL (bx_mdl [(11, 8), (1017, 0), (1018, 0), (1023, 0), (1037, 0)]) S0 S) ∨ ((0 ≤ pa ∧ pa < S0 1 0 ∧ 0 ≤ ps ∧ ps < S0 5 0) ∧ rkMb S0 pa ps ∧ 12 ≤ S0 1 5 ∧ w = some (-5) ∧ bx_same rxL (bx_mdl [(11, 8), (1017, 0), (1018, 0), (1023, 0), (1037, 0)]) S0 S) ∨ ((0 ≤ pa ∧ pa < S0 1 0 ∧ 0 ≤ ps ∧ ps < S0 5 0) ∧ rkMb S0 pa ps ∧ S0 1 5 < 12 ∧ w = some (S0 1 5) ∧ S 1 5 = S0 1 5 + 1 ∧ (∀ i : Int, 0 ≤ i → i < 12 → S 9 i = if i = S0 1 5 then pa else S0 9 i) ∧ (∀ i : Int, 0 ≤ i → i < 12 → S 10 i = if i = S0 1 5 then ps else S0 10 i) ∧ (∀ i : Int, 0 ≤ i → i < 12 → S 11 i = if i = S0 1 5 then (-1) else S0 11 i) ∧ S 138 5 = S0 138 5 ∧ S 274 5 = S0 274 5 ∧ (∀ i : Int, 0 ≤ i → i < 12 → S 146 i = S0 146 i) ∧ (∀ i : Int, 0 ≤ i → i < 12 → S 282 i = S0 282 i) ∧ (∀ i : Int, 0 ≤ i → i < 12 → S 147 i = S0 147 i) ∧ (∀ i : Int, 0 ≤ i → i < 12 → S 283 i = S0 283 i) ∧ (∀ i : Int, 0 ≤ i → i < 12 → S 148 i = S0 148 i) ∧ (∀ i : Int, 0 ≤ i → i < 12 → S 284 i = S0 284 i)))
theorem rxk253_1 {S0 : Nat → Int → Int} {ws : List Int} {S : Nat → Int → Int} {pa ps : Int} (hP : rxP253 S0 ws) (hin : bx_same rxL (bx_mdl rxC253.2.2.1) S0 S) (I0 : bx_Inv rxL S) (hinv : rxI253_1 S0 ws S pa ps) (l8 : (-2147483648) ≤ pa) (u8 : pa ≤ 2147483647) (l9 : (-2147483648) ≤ ps) (u9 : ps ≤ 2147483647) : rxP110 S [0, (-2)] ∧ ∀ (S_p : Nat → Int → Int) (res : Int), (-6) ≤ res → res ≤ (-1) → rxPS110 S [0, (-2)] S_p (some res) → bx_Inv rxL S_p → bx_same rxL (bx_mdl rxC110.2.2.1) S S_p → rxI253_2 S0 ws S_p pa ps res ∧ rxm253_2 S0 ws S_p pa ps res < rxm253_1 S0 ws S pa ps := by
  obtain ⟨h1, hw, hf⟩ := hinv
  refine ⟨trivial, fun S_p res _ _ hq _ hsm => ⟨⟨?_, h1, hw, rx_same_sub hf (by decide) hsm⟩, by unfold rxm253_1 rxm253_2; omega⟩⟩
  obtain ⟨c, hc, hr⟩ := hq
  simp only [List.cons.injEq, and_true, true_and] at hc
  simp only [Option.some.injEq] at hr
  omega
theorem rxs253_1 {X : (Nat → Int → Int) → Prop} {S0 : Nat → Int → Int} {ws : List Int} (hP : rxP253 S0 ws) : rx_obK X S0 rxC253.2.2.1 rxC110.2.2.1 (rxI253 S0 ws) (rxm253 S0 ws) 1 2 rxz253_1 rxz253_2 [.inr (3, (0, 0)), .inr (0, (0, (-2)))] (some 10) rxP110 rxPS110 := by
  intro S r hinv hXS I0 hin hs_ hf_
  have b_ := bx_bds_sat hs_
  have f_ := bx_fcl_ok hs_.1 hf_
  obtain ⟨⟨l8, u8⟩, ⟨l9, u9⟩, -⟩ := b_
  have g := rxk253_1 hP hin I0 hinv l8 u8 l9 u9
  have ea : List.map (bx_num r) [.inr (3, (0, 0)), .inr (0, (0, (-2)))] = [0, -2] := by
    simp only [List.map_cons, List.map_nil, bx_xv_ok hs_.1]
    rfl
  rw [ea]
  refine ⟨g.1, fun S_p w r_p hPS hX_p I1 hsm hr hw hs_p => ?_⟩
  have hw := hw _ rfl
  subst hw
  have b_p := hs_p.2.2 10 _ _ rfl
  have g2 := g.2 S_p (r_p 10) b_p.1 b_p.2 hPS I1 hsm
  show rxI253_2 S0 ws S_p (r_p 8) (r_p 9) (r_p 10) ∧ rxm253_2 S0 ws S_p (r_p 8) (r_p 9) (r_p 10) < _
  rw [hr 8 (by decide), hr 9 (by decide)]
  exact g2
theorem rxk253_3 {S0 : Nat → Int → Int} {ws : List Int} {S : Nat → Int → Int} {pa ps : Int} (hP : rxP253 S0 ws) (hin : bx_same rxL (bx_mdl rxC253.2.2.1) S0 S) (I0 : bx_Inv rxL S) (hinv : rxI253_3 S0 ws S pa ps) (l8 : 0 ≤ pa) (u8 : pa ≤ 5) (l9 : 0 ≤ ps) (u9 : ps ≤ 7) : rxPMBD S [1, pa, ps] ∧ ∀ (S_p : Nat → Int → Int) (r : Int), 0 ≤ r → r ≤ 1 → rxPSMBD S [1, pa, ps] S_p (some r) → bx_Inv rxL S_p → bx_same rxL (bx_mdl rxCMBD.2.2.1) S S_p → rxI253_4 S0 ws S_p pa ps r ∧ rxm253_4 S0 ws S_p pa ps r < rxm253_3 S0 ws S pa ps := by
  obtain ⟨hS, hg, hw⟩ := hinv
  subst hS
  refine ⟨⟨pa, ps, rfl, by omega, hP⟩, fun S_p r _ _ hq _ hsm => ⟨⟨?_, hg, hw, rx_same_sub (fun _ _ _ _ _ => rfl) (by decide) hsm⟩, by unfold rxm253_3 rxm253_4; omega⟩⟩
  obtain ⟨pa2, ps2, hw3, h⟩ := hq
  have k0 : pa = pa2 := Option.some.inj (congrArg (fun l : List Int => l[1]?) hw3)
  have k1 : ps = ps2 := Option.some.inj (congrArg (fun l : List Int => l[2]?) hw3)
  subst k0
  subst k1
  exact h.imp (fun q => ⟨Option.some.inj q.1, q.2⟩) (fun q => ⟨Option.some.inj q.1, q.2⟩)
theorem rxs253_3 {X : (Nat → Int → Int) → Prop} {S0 : Nat → Int → Int} {ws : List Int} (hP : rxP253 S0 ws) : rx_obK X S0 rxC253.2.2.1 rxCMBD.2.2.1 (rxI253 S0 ws) (rxm253 S0 ws) 3 4 rxz253_3 rxz253_4 [.inr (3, (0, 1)), .inr (0, (8, 0)), .inr (0, (9, 0))] (some 10) rxPMBD rxPSMBD := by
  intro S r hinv hXS I0 hin hs_ hf_
  have b_ := bx_bds_sat hs_
  have f_ := bx_fcl_ok hs_.1 hf_
  obtain ⟨⟨l8, u8⟩, ⟨l9, u9⟩, -⟩ := b_
  have g := rxk253_3 hP hin I0 hinv l8 u8 l9 u9
  have ea : List.map (bx_num r) [.inr (3, (0, 1)), .inr (0, (8, 0)), .inr (0, (9, 0))] = [1, (r 8), (r 9)] := by
    simp only [List.map_cons, List.map_nil, bx_xv_ok hs_.1]
    rfl
  rw [ea]
  refine ⟨g.1, fun S_p w r_p hPS hX_p I1 hsm hr hw hs_p => ?_⟩
  have hw := hw _ rfl
  subst hw
  have b_p := hs_p.2.2 10 _ _ rfl
  have g2 := g.2 S_p (r_p 10) b_p.1 b_p.2 hPS I1 hsm
  show rxI253_4 S0 ws S_p (r_p 8) (r_p 9) (r_p 10) ∧ rxm253_4 S0 ws S_p (r_p 8) (r_p 9) (r_p 10) < _
  rw [hr 8 (by decide), hr 9 (by decide)]
  exact g2
theorem rxk253_5 {S0 : Nat → Int → Int} {ws : List Int} {S : Nat → Int → Int} {pa ps : Int} (hP : rxP253 S0 ws) (hin : bx_same rxL (bx_mdl rxC253.2.2.1) S0 S) (I0 : bx_Inv rxL S) (hinv : rxI253_5 S0 ws S pa ps) (l8 : 0 ≤ pa) (u8 : pa ≤ 5) (l9 : 0 ≤ ps) (u9 : ps ≤ 7) : rxP110 S [0, (-3)] ∧ ∀ (S_p : Nat → Int → Int) (res : Int), (-6) ≤ res → res ≤ (-1) → rxPS110 S [0, (-3)] S_p (some res) → bx_Inv rxL S_p → bx_same rxL (bx_mdl rxC110.2.2.1) S S_p → rxI253_6 S0 ws S_p pa ps res ∧ rxm253_6 S0 ws S_p pa ps res < rxm253_5 S0 ws S pa ps := by
  obtain ⟨h1, hg, hw, hf⟩ := hinv
  refine ⟨trivial, fun S_p res _ _ hq _ hsm => ⟨⟨?_, h1, hg, hw, rx_same_sub hf (by decide) hsm⟩, by unfold rxm253_5 rxm253_6; omega⟩⟩
  obtain ⟨c, hc, hr⟩ := hq
  simp only [List.cons.injEq, and_true, true_and] at hc
  simp only [Option.some.injEq] at hr
  omega
theorem rxs253_5 {X : (Nat → Int → Int) → Prop} {S0 : Nat → Int → Int} {ws : List Int} (hP : rxP253 S0 ws) : rx_obK X S0 rxC253.2.2.1 rxC110.2.2.1 (rxI253 S0 ws) (rxm253 S0 ws) 5 6 rxz253_5 rxz253_6 [.inr (3, (0, 0)), .inr (0, (0, (-3)))] (some 10) rxP110 rxPS110 := by
  intro S r hinv hXS I0 hin hs_ hf_
  have b_ := bx_bds_sat hs_
  have f_ := bx_fcl_ok hs_.1 hf_
  obtain ⟨⟨l8, u8⟩, ⟨l9, u9⟩, -⟩ := b_
  have g := rxk253_5 hP hin I0 hinv l8 u8 l9 u9
  have ea : List.map (bx_num r) [.inr (3, (0, 0)), .inr (0, (0, (-3)))] = [0, -3] := by
    simp only [List.map_cons, List.map_nil, bx_xv_ok hs_.1]
    rfl
  rw [ea]
  refine ⟨g.1, fun S_p w r_p hPS hX_p I1 hsm hr hw hs_p => ?_⟩
  have hw := hw _ rfl
  subst hw
  have b_p := hs_p.2.2 10 _ _ rfl
  have g2 := g.2 S_p (r_p 10) b_p.1 b_p.2 hPS I1 hsm
  show rxI253_6 S0 ws S_p (r_p 8) (r_p 9) (r_p 10) ∧ rxm253_6 S0 ws S_p (r_p 8) (r_p 9) (r_p 10) < _
  rw [hr 8 (by decide), hr 9 (by decide)]
  exact g2
theorem rxk253_7 {S0 : Nat → Int → Int} {ws : List Int} {S : Nat → Int → Int} {pa ps : Int} (hP : rxP253 S0 ws) (hin : bx_same rxL (bx_mdl rxC253.2.2.1) S0 S) (I0 : bx_Inv rxL S) (hinv : rxI253_7 S0 ws S pa ps) (l8 : 0 ≤ pa) (u8 : pa ≤ 5) (l9 : 0 ≤ ps) (u9 : ps ≤ 7) : rxP110 S [0, (-5)] ∧ ∀ (S_p : Nat → Int → Int) (res : Int), (-6) ≤ res → res ≤ (-1) → rxPS110 S [0, (-5)] S_p (some res) → bx_Inv rxL S_p → bx_same rxL (bx_mdl rxC110.2.2.1) S S_p → rxI253_8 S0 ws S_p pa ps res ∧ rxm253_8 S0 ws S_p pa ps res < rxm253_7 S0 ws S pa ps := by
  obtain ⟨h1, hg, hw, hf⟩ := hinv
  refine ⟨trivial, fun S_p res _ _ hq _ hsm => ⟨⟨?_, h1, hg, hw, rx_same_sub hf (by decide) hsm⟩, by unfold rxm253_7 rxm253_8; omega⟩⟩
  obtain ⟨c, hc, hr⟩ := hq
  simp only [List.cons.injEq, and_true, true_and] at hc
  simp only [Option.some.injEq] at hr
  omega
theorem rxs253_7 {X : (Nat → Int → Int) → Prop} {S0 : Nat → Int → Int} {ws : List Int} (hP : rxP253 S0 ws) : rx_obK X S0 rxC253.2.2.1 rxC110.2.2.1 (rxI253 S0 ws) (rxm253 S0 ws) 7 8 rxz253_7 rxz253_8 [.inr (3, (0, 0)), .inr (0, (0, (-5)))] (some 10) rxP110 rxPS110 := by
  intro S r hinv hXS I0 hin hs_ hf_
  have b_ := bx_bds_sat hs_
  have f_ := bx_fcl_ok hs_.1 hf_
  obtain ⟨⟨l8, u8⟩, ⟨l9, u9⟩, -⟩ := b_
  have g := rxk253_7 hP hin I0 hinv l8 u8 l9 u9
  have ea : List.map (bx_num r) [.inr (3, (0, 0)), .inr (0, (0, (-5)))] = [0, -5] := by
    simp only [List.map_cons, List.map_nil, bx_xv_ok hs_.1]
    rfl
  rw [ea]
  refine ⟨g.1, fun S_p w r_p hPS hX_p I1 hsm hr hw hs_p => ?_⟩
  have hw := hw _ rfl
  subst hw
  have b_p := hs_p.2.2 10 _ _ rfl
  have g2 := g.2 S_p (r_p 10) b_p.1 b_p.2 hPS I1 hsm
  show rxI253_8 S0 ws S_p (r_p 8) (r_p 9) (r_p 10) ∧ rxm253_8 S0 ws S_p (r_p 8) (r_p 9) (r_p 10) < _
  rw [hr 8 (by decide), hr 9 (by decide)]
  exact g2
theorem rxk253_9 {S0 : Nat → Int → Int} {ws : List Int} {S : Nat → Int → Int} {pa ps : Int} (hP : rxP253 S0 ws) (hin : bx_same rxL (bx_mdl rxC253.2.2.1) S0 S) (I0 : bx_Inv rxL S) (hinv : rxI253_9 S0 ws S pa ps) (l8 : 0 ≤ pa) (u8 : pa ≤ 5) (l9 : 0 ≤ ps) (u9 : ps ≤ 7) : rxPADV S [1, pa, ps, (-1)] ∧ ∀ (S_p : Nat → Int → Int) (res : Int), (-1) ≤ res → res ≤ 11 → rxPSADV S [1, pa, ps, (-1)] S_p (some res) → bx_Inv rxL S_p → bx_same rxL (bx_mdl rxCADV.2.2.1) S S_p → rxI253_10 S0 ws S_p pa ps res ∧ rxm253_10 S0 ws S_p pa ps res < rxm253_9 S0 ws S pa ps := by
  obtain ⟨hm, hg, hw, hf⟩ := hinv
  refine ⟨trivial, fun S_p res _ _ hq _ hsm => ⟨?_, by unfold rxm253_9 rxm253_10; omega⟩⟩
  have b5 : 0 ≤ S 1 5 ∧ S 1 5 ≤ 12 := I0 1 5 (by decide) (by decide)
  have e5 : S 1 5 = S0 1 5 := hf 1 5 (by decide) (by decide) (by decide +kernel)
  obtain ⟨pa2, ps2, te2, hw3, h⟩ := hq
  have k0 : pa = pa2 := Option.some.inj (congrArg (fun l : List Int => l[1]?) hw3)
  have k1 : ps = ps2 := Option.some.inj (congrArg (fun l : List Int => l[2]?) hw3)
  have k2 : (-1 : Int) = te2 := Option.some.inj (congrArg (fun l : List Int => l[3]?) hw3)
  subst k0
  subst k1
  subst k2
  rcases h with ⟨h, -⟩ | ⟨h, hr, h5, r9, r10, r11, k1, k2, f146, f282, f147, f283, f148, f284⟩
  · exfalso
    omega
  · exact ⟨⟨(Option.some.inj hr).trans e5, by have := Option.some.inj hr; omega⟩, hm, hg, hw, by omega, fun i i0 i1 => by rw [r9 i i0 i1, e5, rx_sameR2 hf (p := 9) (tc := 0) (n := 12) (g := 6) rfl (by omega) (by decide +kernel) (by decide +kernel) i0 i1], fun i i0 i1 => by rw [r10 i i0 i1, e5, rx_sameR2 hf (p := 10) (tc := 0) (n := 12) (g := 7) rfl (by omega) (by decide +kernel) (by decide +kernel) i0 i1], fun i i0 i1 => by rw [r11 i i0 i1, e5, rx_sameR2 hf (p := 11) (tc := 0) (n := 12) (g := 8) rfl (by omega) (by decide +kernel) (by decide +kernel) i0 i1], k1.trans (hf 138 5 (by decide) (by decide) (by decide +kernel)), k2.trans (hf 274 5 (by decide) (by decide) (by decide +kernel)), fun i i0 i1 => (f146 i i0 i1).trans (rx_sameR2 hf (p := 146) (tc := 0) (n := 12) (g := 6) rfl (by omega) (by decide +kernel) (by decide +kernel) i0 i1), fun i i0 i1 => (f282 i i0 i1).trans (rx_sameR2 hf (p := 282) (tc := 0) (n := 12) (g := 6) rfl (by omega) (by decide +kernel) (by decide +kernel) i0 i1), fun i i0 i1 => (f147 i i0 i1).trans (rx_sameR2 hf (p := 147) (tc := 0) (n := 12) (g := 7) rfl (by omega) (by decide +kernel) (by decide +kernel) i0 i1), fun i i0 i1 => (f283 i i0 i1).trans (rx_sameR2 hf (p := 283) (tc := 0) (n := 12) (g := 7) rfl (by omega) (by decide +kernel) (by decide +kernel) i0 i1), fun i i0 i1 => (f148 i i0 i1).trans (rx_sameR2 hf (p := 148) (tc := 0) (n := 12) (g := 8) rfl (by omega) (by decide +kernel) (by decide +kernel) i0 i1), fun i i0 i1 => (f284 i i0 i1).trans (rx_sameR2 hf (p := 284) (tc := 0) (n := 12) (g := 8) rfl (by omega) (by decide +kernel) (by decide +kernel) i0 i1)⟩
theorem rxs253_9 {X : (Nat → Int → Int) → Prop} {S0 : Nat → Int → Int} {ws : List Int} (hP : rxP253 S0 ws) : rx_obK X S0 rxC253.2.2.1 rxCADV.2.2.1 (rxI253 S0 ws) (rxm253 S0 ws) 9 10 rxz253_9 rxz253_10 [.inr (3, (0, 1)), .inr (0, (8, 0)), .inr (0, (9, 0)), .inr (0, (0, (-1)))] (some 10) rxPADV rxPSADV := by
  intro S r hinv hXS I0 hin hs_ hf_
  have b_ := bx_bds_sat hs_
  have f_ := bx_fcl_ok hs_.1 hf_
  obtain ⟨⟨l8, u8⟩, ⟨l9, u9⟩, -⟩ := b_
  have g := rxk253_9 hP hin I0 hinv l8 u8 l9 u9
  have ea : List.map (bx_num r) [.inr (3, (0, 1)), .inr (0, (8, 0)), .inr (0, (9, 0)), .inr (0, (0, (-1)))] = [1, (r 8), (r 9), -1] := by
    simp only [List.map_cons, List.map_nil, bx_xv_ok hs_.1]
    rfl
  rw [ea]
  refine ⟨g.1, fun S_p w r_p hPS hX_p I1 hsm hr hw hs_p => ?_⟩
  have hw := hw _ rfl
  subst hw
  have b_p := hs_p.2.2 10 _ _ rfl
  have g2 := g.2 S_p (r_p 10) b_p.1 b_p.2 hPS I1 hsm
  show rxI253_10 S0 ws S_p (r_p 8) (r_p 9) (r_p 10) ∧ rxm253_10 S0 ws S_p (r_p 8) (r_p 9) (r_p 10) < _
  rw [hr 8 (by decide), hr 9 (by decide)]
  exact g2
theorem rxc253_0_0 {S0 : Nat → Int → Int} {ws : List Int} {S : Nat → Int → Int} {pa ps : Int} (hP : rxP253 S0 ws) (hin : bx_same rxL (bx_mdl rxC253.2.2.1) S0 S) (I0 : bx_Inv rxL S) (hinv : rxI253_0 S0 ws S pa ps) (l8 : (-2147483648) ≤ pa) (u8 : pa ≤ (-1)) (l9 : (-2147483648) ≤ ps) (u9 : ps ≤ 2147483647) : (True) ∧ (True) ∧ rxI253_1 S0 ws S pa ps ∧ rxm253_1 S0 ws S pa ps < rxm253_0 S0 ws S pa ps := by
  obtain ⟨rfl, hw⟩ := hinv
  exact ⟨trivial, trivial, ⟨by omega, hw, fun _ _ _ _ _ => rfl⟩, by unfold rxm253_0 rxm253_1; omega⟩
theorem rxg253_0_0 {X : (Nat → Int → Int) → Prop} {S0 : Nat → Int → Int} {ws : List Int} (hP : rxP253 S0 ws) : bx_obC rxL X S0 rxC253.2.2.1 (rxI253 S0 ws) (rxm253 S0 ws) 0 rxz253_0 rxo253_0_0 := by
  intro S S_p r r_p hinv hX hin hsm_ hseg
  obtain ⟨I0, I1, h0_, hr_, b_, f_, d_⟩ := bx_cl (evs := []) (fvs := []) hseg (by decide +kernel) (by decide +kernel)
  have hinv : rxI253_0 S0 ws S (r 8) (r 9) := hinv
  rw [← hr_ 8 (by decide), ← hr_ 9 (by decide)] at hinv
  obtain ⟨⟨l8, u8⟩, ⟨l9, u9⟩, -⟩ := b_
  have w_ := d_
  subst w_
  have g := rxc253_0_0 hP hin I0 hinv l8 u8 l9 u9
  refine ⟨bx_narP_ok (l := []) g.1, bx_nfP_ok h0_ (fvs := []) (by decide +kernel) g.2.1, ?_, ?_⟩
  · show rxI253_1 S0 ws S_p (bx_val [(0, 0), (0, 0), (0, 0), (0, 0), (0, 0), (0, 0), (0, 0), (0, 0), (8, 0), (9, 0)] r_p 8) (bx_val [(0, 0), (0, 0), (0, 0), (0, 0), (0, 0), (0, 0), (0, 0), (0, 0), (8, 0), (9, 0)] r_p 9)
    rw [bx_val_x (n := 8) (e := (8, 0)) h0_ rfl, bx_val_x (n := 9) (e := (9, 0)) h0_ rfl]
    exact g.2.2.1
  · show rxm253_1 S0 ws S_p (bx_val [(0, 0), (0, 0), (0, 0), (0, 0), (0, 0), (0, 0), (0, 0), (0, 0), (8, 0), (9, 0)] r_p 8) (bx_val [(0, 0), (0, 0), (0, 0), (0, 0), (0, 0), (0, 0), (0, 0), (0, 0), (8, 0), (9, 0)] r_p 9) < rxm253_0 S0 ws S_p (r 8) (r 9)
    rw [bx_val_x (n := 8) (e := (8, 0)) h0_ rfl, bx_val_x (n := 9) (e := (9, 0)) h0_ rfl, ← hr_ 8 (by decide), ← hr_ 9 (by decide)]
    exact g.2.2.2
theorem rxc253_0_1 {S0 : Nat → Int → Int} {ws : List Int} {S : Nat → Int → Int} {pa ps x10 : Int} (hP : rxP253 S0 ws) (hin : bx_same rxL (bx_mdl rxC253.2.2.1) S0 S) (I0 : bx_Inv rxL S) (hinv : rxI253_0 S0 ws S pa ps) (l8 : 0 ≤ pa) (u8 : pa ≤ 2147483647) (l9 : (-2147483648) ≤ ps) (u9 : ps ≤ 2147483647) (l10 : 0 ≤ x10) (u10 : x10 ≤ 6) (f0 : x10 ≤ pa) (e0 : S 1 0 = x10) : (True) ∧ (True) ∧ rxI253_1 S0 ws S pa ps ∧ rxm253_1 S0 ws S pa ps < rxm253_0 S0 ws S pa ps := by
  obtain ⟨rfl, hw⟩ := hinv
  exact ⟨trivial, trivial, ⟨by omega, hw, fun _ _ _ _ _ => rfl⟩, by unfold rxm253_0 rxm253_1; omega⟩
theorem rxg253_0_1 {X : (Nat → Int → Int) → Prop} {S0 : Nat → Int → Int} {ws : List Int} (hP : rxP253 S0 ws) : bx_obC rxL X S0 rxC253.2.2.1 (rxI253 S0 ws) (rxm253 S0 ws) 0 rxz253_0 rxo253_0_1 := by
  intro S S_p r r_p hinv hX hin hsm_ hseg
  obtain ⟨I0, I1, h0_, hr_, b_, f_, d_⟩ := bx_cl (evs := [(0, (0, 1), (0, 0), .inr (0, (10, 0)))]) (fvs := [(1, (10, 0), (8, 0), (0, 0))]) hseg (by decide +kernel) (by decide +kernel)
  have hinv : rxI253_0 S0 ws S (r 8) (r 9) := hinv
  rw [← hr_ 8 (by decide), ← hr_ 9 (by decide)] at hinv
  obtain ⟨⟨l8, u8⟩, ⟨l9, u9⟩, ⟨l10, u10⟩, -⟩ := b_
  obtain ⟨f0, -⟩ := f_
  obtain ⟨e0, w_⟩ := d_
  subst w_
  have g := rxc253_0_1 hP hin I0 hinv l8 u8 l9 u9 l10 u10 f0 e0
  refine ⟨bx_narP_ok (l := []) g.1, bx_nfP_ok h0_ (fvs := []) (by decide +kernel) g.2.1, ?_, ?_⟩
  · show rxI253_1 S0 ws S_p (bx_val [(0, 0), (0, 0), (0, 0), (0, 0), (0, 0), (0, 0), (0, 0), (0, 0), (8, 0), (9, 0)] r_p 8) (bx_val [(0, 0), (0, 0), (0, 0), (0, 0), (0, 0), (0, 0), (0, 0), (0, 0), (8, 0), (9, 0)] r_p 9)
    rw [bx_val_x (n := 8) (e := (8, 0)) h0_ rfl, bx_val_x (n := 9) (e := (9, 0)) h0_ rfl]
    exact g.2.2.1
  · show rxm253_1 S0 ws S_p (bx_val [(0, 0), (0, 0), (0, 0), (0, 0), (0, 0), (0, 0), (0, 0), (0, 0), (8, 0), (9, 0)] r_p 8) (bx_val [(0, 0), (0, 0), (0, 0), (0, 0), (0, 0), (0, 0), (0, 0), (0, 0), (8, 0), (9, 0)] r_p 9) < rxm253_0 S0 ws S_p (r 8) (r 9)
    rw [bx_val_x (n := 8) (e := (8, 0)) h0_ rfl, bx_val_x (n := 9) (e := (9, 0)) h0_ rfl, ← hr_ 8 (by decide), ← hr_ 9 (by decide)]
    exact g.2.2.2
theorem rxc253_0_2 {S0 : Nat → Int → Int} {ws : List Int} {S : Nat → Int → Int} {pa ps x10 : Int} (hP : rxP253 S0 ws) (hin : bx_same rxL (bx_mdl rxC253.2.2.1) S0 S) (I0 : bx_Inv rxL S) (hinv : rxI253_0 S0 ws S pa ps) (l8 : 0 ≤ pa) (u8 : pa ≤ 5) (l9 : (-2147483648) ≤ ps) (u9 : ps ≤ (-1)) (l10 : 1 ≤ x10) (u10 : x10 ≤ 6) (f0 : pa < x10) (e0 : S 1 0 = x10) : (True) ∧ (True) ∧ rxI253_1 S0 ws S pa ps ∧ rxm253_1 S0 ws S pa ps < rxm253_0 S0 ws S pa ps := by
  obtain ⟨rfl, hw⟩ := hinv
  exact ⟨trivial, trivial, ⟨by omega, hw, fun _ _ _ _ _ => rfl⟩, by unfold rxm253_0 rxm253_1; omega⟩
theorem rxg253_0_2 {X : (Nat → Int → Int) → Prop} {S0 : Nat → Int → Int} {ws : List Int} (hP : rxP253 S0 ws) : bx_obC rxL X S0 rxC253.2.2.1 (rxI253 S0 ws) (rxm253 S0 ws) 0 rxz253_0 rxo253_0_2 := by
  intro S S_p r r_p hinv hX hin hsm_ hseg
  obtain ⟨I0, I1, h0_, hr_, b_, f_, d_⟩ := bx_cl (evs := [(0, (0, 1), (0, 0), .inr (0, (10, 0)))]) (fvs := [(0, (8, 0), (10, 0), (0, 0))]) hseg (by decide +kernel) (by decide +kernel)
  have hinv : rxI253_0 S0 ws S (r 8) (r 9) := hinv
  rw [← hr_ 8 (by decide), ← hr_ 9 (by decide)] at hinv
  obtain ⟨⟨l8, u8⟩, ⟨l9, u9⟩, ⟨l10, u10⟩, -⟩ := b_
  obtain ⟨f0, -⟩ := f_
  obtain ⟨e0, w_⟩ := d_
  subst w_
  have g := rxc253_0_2 hP hin I0 hinv l8 u8 l9 u9 l10 u10 f0 e0
  refine ⟨bx_narP_ok (l := []) g.1, bx_nfP_ok h0_ (fvs := []) (by decide +kernel) g.2.1, ?_, ?_⟩
  · show rxI253_1 S0 ws S_p (bx_val [(0, 0), (0, 0), (0, 0), (0, 0), (0, 0), (0, 0), (0, 0), (0, 0), (8, 0), (9, 0)] r_p 8) (bx_val [(0, 0), (0, 0), (0, 0), (0, 0), (0, 0), (0, 0), (0, 0), (0, 0), (8, 0), (9, 0)] r_p 9)
    rw [bx_val_x (n := 8) (e := (8, 0)) h0_ rfl, bx_val_x (n := 9) (e := (9, 0)) h0_ rfl]
    exact g.2.2.1
  · show rxm253_1 S0 ws S_p (bx_val [(0, 0), (0, 0), (0, 0), (0, 0), (0, 0), (0, 0), (0, 0), (0, 0), (8, 0), (9, 0)] r_p 8) (bx_val [(0, 0), (0, 0), (0, 0), (0, 0), (0, 0), (0, 0), (0, 0), (0, 0), (8, 0), (9, 0)] r_p 9) < rxm253_0 S0 ws S_p (r 8) (r 9)
    rw [bx_val_x (n := 8) (e := (8, 0)) h0_ rfl, bx_val_x (n := 9) (e := (9, 0)) h0_ rfl, ← hr_ 8 (by decide), ← hr_ 9 (by decide)]
    exact g.2.2.2
theorem rxc253_0_3 {S0 : Nat → Int → Int} {ws : List Int} {S : Nat → Int → Int} {pa ps x10 x11 : Int} (hP : rxP253 S0 ws) (hin : bx_same rxL (bx_mdl rxC253.2.2.1) S0 S) (I0 : bx_Inv rxL S) (hinv : rxI253_0 S0 ws S pa ps) (l8 : 0 ≤ pa) (u8 : pa ≤ 5) (l9 : 0 ≤ ps) (u9 : ps ≤ 2147483647) (l10 : 1 ≤ x10) (u10 : x10 ≤ 6) (l11 : 0 ≤ x11) (u11 : x11 ≤ 8) (f0 : x11 ≤ ps) (f1 : pa < x10) (e1 : S 1 0 = x10) (e0 : S 5 0 = x11) : (True) ∧ (True) ∧ rxI253_1 S0 ws S pa ps ∧ rxm253_1 S0 ws S pa ps < rxm253_0 S0 ws S pa ps := by
  obtain ⟨rfl, hw⟩ := hinv
  exact ⟨trivial, trivial, ⟨by omega, hw, fun _ _ _ _ _ => rfl⟩, by unfold rxm253_0 rxm253_1; omega⟩
theorem rxg253_0_3 {X : (Nat → Int → Int) → Prop} {S0 : Nat → Int → Int} {ws : List Int} (hP : rxP253 S0 ws) : bx_obC rxL X S0 rxC253.2.2.1 (rxI253 S0 ws) (rxm253 S0 ws) 0 rxz253_0 rxo253_0_3 := by
  intro S S_p r r_p hinv hX hin hsm_ hseg
  obtain ⟨I0, I1, h0_, hr_, b_, f_, d_⟩ := bx_cl (evs := [(0, (0, 5), (0, 0), .inr (0, (11, 0))), (0, (0, 1), (0, 0), .inr (0, (10, 0)))]) (fvs := [(1, (11, 0), (9, 0), (0, 0)), (0, (8, 0), (10, 0), (0, 0))]) hseg (by decide +kernel) (by decide +kernel)
  have hinv : rxI253_0 S0 ws S (r 8) (r 9) := hinv
  rw [← hr_ 8 (by decide), ← hr_ 9 (by decide)] at hinv
  obtain ⟨⟨l8, u8⟩, ⟨l9, u9⟩, ⟨l10, u10⟩, ⟨l11, u11⟩, -⟩ := b_
  obtain ⟨f0, f1, -⟩ := f_
  obtain ⟨e0, ⟨e1, w_⟩⟩ := d_
  subst w_
  have g := rxc253_0_3 hP hin I0 hinv l8 u8 l9 u9 l10 u10 l11 u11 f0 f1 e1 e0
  refine ⟨bx_narP_ok (l := []) g.1, bx_nfP_ok h0_ (fvs := []) (by decide +kernel) g.2.1, ?_, ?_⟩
  · show rxI253_1 S0 ws S_p (bx_val [(0, 0), (0, 0), (0, 0), (0, 0), (0, 0), (0, 0), (0, 0), (0, 0), (8, 0), (9, 0)] r_p 8) (bx_val [(0, 0), (0, 0), (0, 0), (0, 0), (0, 0), (0, 0), (0, 0), (0, 0), (8, 0), (9, 0)] r_p 9)
    rw [bx_val_x (n := 8) (e := (8, 0)) h0_ rfl, bx_val_x (n := 9) (e := (9, 0)) h0_ rfl]
    exact g.2.2.1
  · show rxm253_1 S0 ws S_p (bx_val [(0, 0), (0, 0), (0, 0), (0, 0), (0, 0), (0, 0), (0, 0), (0, 0), (8, 0), (9, 0)] r_p 8) (bx_val [(0, 0), (0, 0), (0, 0), (0, 0), (0, 0), (0, 0), (0, 0), (0, 0), (8, 0), (9, 0)] r_p 9) < rxm253_0 S0 ws S_p (r 8) (r 9)
    rw [bx_val_x (n := 8) (e := (8, 0)) h0_ rfl, bx_val_x (n := 9) (e := (9, 0)) h0_ rfl, ← hr_ 8 (by decide), ← hr_ 9 (by decide)]
    exact g.2.2.2
theorem rxc253_0_4 {S0 : Nat → Int → Int} {ws : List Int} {S : Nat → Int → Int} {pa ps x10 x11 : Int} (hP : rxP253 S0 ws) (hin : bx_same rxL (bx_mdl rxC253.2.2.1) S0 S) (I0 : bx_Inv rxL S) (hinv : rxI253_0 S0 ws S pa ps) (l8 : 0 ≤ pa) (u8 : pa ≤ 5) (l9 : 0 ≤ ps) (u9 : ps ≤ 7) (l10 : 1 ≤ x10) (u10 : x10 ≤ 6) (l11 : 1 ≤ x11) (u11 : x11 ≤ 8) (f0 : ps < x11) (f1 : pa < x10) (e1 : S 1 0 = x10) (e0 : S 5 0 = x11) : (True) ∧ (True) ∧ rxI253_3 S0 ws S pa ps ∧ rxm253_3 S0 ws S pa ps < rxm253_0 S0 ws S pa ps := by
  obtain ⟨rfl, hw⟩ := hinv
  exact ⟨trivial, trivial, ⟨rfl, by omega, hw⟩, by unfold rxm253_0 rxm253_3; omega⟩
theorem rxg253_0_4 {X : (Nat → Int → Int) → Prop} {S0 : Nat → Int → Int} {ws : List Int} (hP : rxP253 S0 ws) : bx_obC rxL X S0 rxC253.2.2.1 (rxI253 S0 ws) (rxm253 S0 ws) 0 rxz253_0 rxo253_0_4 := by
  intro S S_p r r_p hinv hX hin hsm_ hseg
  obtain ⟨I0, I1, h0_, hr_, b_, f_, d_⟩ := bx_cl (evs := [(0, (0, 5), (0, 0), .inr (0, (11, 0))), (0, (0, 1), (0, 0), .inr (0, (10, 0)))]) (fvs := [(0, (9, 0), (11, 0), (0, 0)), (0, (8, 0), (10, 0), (0, 0))]) hseg (by decide +kernel) (by decide +kernel)
  have hinv : rxI253_0 S0 ws S (r 8) (r 9) := hinv
  rw [← hr_ 8 (by decide), ← hr_ 9 (by decide)] at hinv
  obtain ⟨⟨l8, u8⟩, ⟨l9, u9⟩, ⟨l10, u10⟩, ⟨l11, u11⟩, -⟩ := b_
  obtain ⟨f0, f1, -⟩ := f_
  obtain ⟨e0, ⟨e1, w_⟩⟩ := d_
  subst w_
  have g := rxc253_0_4 hP hin I0 hinv l8 u8 l9 u9 l10 u10 l11 u11 f0 f1 e1 e0
  refine ⟨bx_narP_ok (l := []) g.1, bx_nfP_ok h0_ (fvs := []) (by decide +kernel) g.2.1, ?_, ?_⟩
  · show rxI253_3 S0 ws S_p (bx_val [(0, 0), (0, 0), (0, 0), (0, 0), (0, 0), (0, 0), (0, 0), (0, 0), (8, 0), (9, 0)] r_p 8) (bx_val [(0, 0), (0, 0), (0, 0), (0, 0), (0, 0), (0, 0), (0, 0), (0, 0), (8, 0), (9, 0)] r_p 9)
    rw [bx_val_x (n := 8) (e := (8, 0)) h0_ rfl, bx_val_x (n := 9) (e := (9, 0)) h0_ rfl]
    exact g.2.2.1
  · show rxm253_3 S0 ws S_p (bx_val [(0, 0), (0, 0), (0, 0), (0, 0), (0, 0), (0, 0), (0, 0), (0, 0), (8, 0), (9, 0)] r_p 8) (bx_val [(0, 0), (0, 0), (0, 0), (0, 0), (0, 0), (0, 0), (0, 0), (0, 0), (8, 0), (9, 0)] r_p 9) < rxm253_0 S0 ws S_p (r 8) (r 9)
    rw [bx_val_x (n := 8) (e := (8, 0)) h0_ rfl, bx_val_x (n := 9) (e := (9, 0)) h0_ rfl, ← hr_ 8 (by decide), ← hr_ 9 (by decide)]
    exact g.2.2.2
theorem rxd253_2_0 {S0 : Nat → Int → Int} {ws : List Int} {S : Nat → Int → Int} {pa ps res : Int} (hP : rxP253 S0 ws) (hin : bx_same rxL (bx_mdl rxC253.2.2.1) S0 S) (hin2 : bx_same rxL (bx_mdl rxC253.2.2.1) S S) (I0 : bx_Inv rxL S) (I1 : bx_Inv rxL S) (hinv : rxI253_2 S0 ws S pa ps res) (l8 : (-2147483648) ≤ pa) (u8 : pa ≤ 2147483647) (l9 : (-2147483648) ≤ ps) (u9 : ps ≤ 2147483647) (l10 : (-6) ≤ res) (u10 : res ≤ (-1)) : (True) ∧ rxPS253 S0 ws S (some res) := by
  obtain ⟨h1, hg, hw, hf⟩ := hinv
  exact ⟨trivial, pa, ps, hw, Or.inl ⟨hg, congrArg some h1, hf⟩⟩
theorem rxf253_2_0 {X : (Nat → Int → Int) → Prop} {S0 : Nat → Int → Int} {ws : List Int} (hP : rxP253 S0 ws) : bx_obE rxL X S0 rxC253.2.2.1 (rxI253 S0 ws) (rxPS253 S0 ws) 2 rxz253_2 rxe253_2_0 := by
  intro S S_p r r_p hinv hX hin hsm_ hseg
  obtain ⟨I0, I1, h0_, hr_, b_, f_, d_⟩ := bx_cl (evs := []) (fvs := []) hseg (by decide +kernel) (by decide +kernel)
  have hinv : rxI253_2 S0 ws S (r 8) (r 9) (r 10) := hinv
  rw [← hr_ 8 (by decide), ← hr_ 9 (by decide), ← hr_ 10 (by decide)] at hinv
  obtain ⟨⟨l8, u8⟩, ⟨l9, u9⟩, ⟨l10, u10⟩, -⟩ := b_
  have w_ := d_
  subst w_
  have g := rxd253_2_0 hP hin hsm_ I0 I1 hinv l8 u8 l9 u9 l10 u10
  refine ⟨bx_narP_ok (l := []) g.1, ?_⟩
  show rxPS253 S0 ws S_p (some (bx_num r_p (.inr (0, (10, 0)))))
  rw [bx_xv_ok h0_]
  exact g.2
theorem rxc253_4_0 {S0 : Nat → Int → Int} {ws : List Int} {S : Nat → Int → Int} {pa ps r : Int} (hP : rxP253 S0 ws) (hin : bx_same rxL (bx_mdl rxC253.2.2.1) S0 S) (I0 : bx_Inv rxL S) (hinv : rxI253_4 S0 ws S pa ps r) (l8 : 0 ≤ pa) (u8 : pa ≤ 5) (l9 : 0 ≤ ps) (u9 : ps ≤ 7) (l10 : 0 ≤ r) (u10 : r ≤ 0) : (True) ∧ (True) ∧ rxI253_5 S0 ws S pa ps ∧ rxm253_5 S0 ws S pa ps < rxm253_4 S0 ws S pa ps r := by
  obtain ⟨hr, hg, hw, hf⟩ := hinv
  refine ⟨trivial, trivial, ⟨?_, hg, hw, hf⟩, by unfold rxm253_4 rxm253_5; omega⟩
  rcases hr with ⟨h, -⟩ | ⟨-, h⟩
  · exfalso
    omega
  · exact h
theorem rxg253_4_0 {X : (Nat → Int → Int) → Prop} {S0 : Nat → Int → Int} {ws : List Int} (hP : rxP253 S0 ws) : bx_obC rxL X S0 rxC253.2.2.1 (rxI253 S0 ws) (rxm253 S0 ws) 4 rxz253_4 rxo253_4_0 := by
  intro S S_p r r_p hinv hX hin hsm_ hseg
  obtain ⟨I0, I1, h0_, hr_, b_, f_, d_⟩ := bx_cl (evs := []) (fvs := []) hseg (by decide +kernel) (by decide +kernel)
  have hinv : rxI253_4 S0 ws S (r 8) (r 9) (r 10) := hinv
  rw [← hr_ 8 (by decide), ← hr_ 9 (by decide), ← hr_ 10 (by decide)] at hinv
  obtain ⟨⟨l8, u8⟩, ⟨l9, u9⟩, ⟨l10, u10⟩, -⟩ := b_
  have w_ := d_
  subst w_
  have g := rxc253_4_0 hP hin I0 hinv l8 u8 l9 u9 l10 u10
  refine ⟨bx_narP_ok (l := []) g.1, bx_nfP_ok h0_ (fvs := []) (by decide +kernel) g.2.1, ?_, ?_⟩
  · show rxI253_5 S0 ws S_p (bx_val [(0, 0), (0, 0), (0, 0), (0, 0), (0, 0), (0, 0), (0, 0), (0, 0), (8, 0), (9, 0)] r_p 8) (bx_val [(0, 0), (0, 0), (0, 0), (0, 0), (0, 0), (0, 0), (0, 0), (0, 0), (8, 0), (9, 0)] r_p 9)
    rw [bx_val_x (n := 8) (e := (8, 0)) h0_ rfl, bx_val_x (n := 9) (e := (9, 0)) h0_ rfl]
    exact g.2.2.1
  · show rxm253_5 S0 ws S_p (bx_val [(0, 0), (0, 0), (0, 0), (0, 0), (0, 0), (0, 0), (0, 0), (0, 0), (8, 0), (9, 0)] r_p 8) (bx_val [(0, 0), (0, 0), (0, 0), (0, 0), (0, 0), (0, 0), (0, 0), (0, 0), (8, 0), (9, 0)] r_p 9) < rxm253_4 S0 ws S_p (r 8) (r 9) (r 10)
    rw [bx_val_x (n := 8) (e := (8, 0)) h0_ rfl, bx_val_x (n := 9) (e := (9, 0)) h0_ rfl, ← hr_ 8 (by decide), ← hr_ 9 (by decide), ← hr_ 10 (by decide)]
    exact g.2.2.2
theorem rxc253_4_1 {S0 : Nat → Int → Int} {ws : List Int} {S : Nat → Int → Int} {pa ps r x11 : Int} (hP : rxP253 S0 ws) (hin : bx_same rxL (bx_mdl rxC253.2.2.1) S0 S) (I0 : bx_Inv rxL S) (hinv : rxI253_4 S0 ws S pa ps r) (l8 : 0 ≤ pa) (u8 : pa ≤ 5) (l9 : 0 ≤ ps) (u9 : ps ≤ 7) (l10 : 1 ≤ r) (u10 : r ≤ 1) (l11 : 12 ≤ x11) (u11 : x11 ≤ 12) (f0 : r ≠ 0) (e0 : S 1 5 = x11) : (True) ∧ (True) ∧ rxI253_7 S0 ws S pa ps ∧ rxm253_7 S0 ws S pa ps < rxm253_4 S0 ws S pa ps r := by
  obtain ⟨hr, hg, hw, hf⟩ := hinv
  have e5 : S 1 5 = S0 1 5 := hf 1 5 (by decide) (by decide) (by decide +kernel)
  refine ⟨trivial, trivial, ⟨⟨?_, by omega⟩, hg, hw, hf⟩, by unfold rxm253_4 rxm253_7; omega⟩
  rcases hr with ⟨-, h⟩ | ⟨h, -⟩
  · exact h
  · exfalso
    omega
theorem rxg253_4_1 {X : (Nat → Int → Int) → Prop} {S0 : Nat → Int → Int} {ws : List Int} (hP : rxP253 S0 ws) : bx_obC rxL X S0 rxC253.2.2.1 (rxI253 S0 ws) (rxm253 S0 ws) 4 rxz253_4 rxo253_4_1 := by
  intro S S_p r r_p hinv hX hin hsm_ hseg
  obtain ⟨I0, I1, h0_, hr_, b_, f_, d_⟩ := bx_cl (evs := [(0, (0, 1), (0, 5), .inr (0, (11, 0)))]) (fvs := [(3, (10, 0), (0, 0), (0, 0))]) hseg (by decide +kernel) (by decide +kernel)
  have hinv : rxI253_4 S0 ws S (r 8) (r 9) (r 10) := hinv
  rw [← hr_ 8 (by decide), ← hr_ 9 (by decide), ← hr_ 10 (by decide)] at hinv
  obtain ⟨⟨l8, u8⟩, ⟨l9, u9⟩, ⟨l10, u10⟩, ⟨l11, u11⟩, -⟩ := b_
  obtain ⟨f0, -⟩ := f_
  obtain ⟨e0, w_⟩ := d_
  subst w_
  have g := rxc253_4_1 hP hin I0 hinv l8 u8 l9 u9 l10 u10 l11 u11 f0 e0
  refine ⟨bx_narP_ok (l := []) g.1, bx_nfP_ok h0_ (fvs := []) (by decide +kernel) g.2.1, ?_, ?_⟩
  · show rxI253_7 S0 ws S_p (bx_val [(0, 0), (0, 0), (0, 0), (0, 0), (0, 0), (0, 0), (0, 0), (0, 0), (8, 0), (9, 0)] r_p 8) (bx_val [(0, 0), (0, 0), (0, 0), (0, 0), (0, 0), (0, 0), (0, 0), (0, 0), (8, 0), (9, 0)] r_p 9)
    rw [bx_val_x (n := 8) (e := (8, 0)) h0_ rfl, bx_val_x (n := 9) (e := (9, 0)) h0_ rfl]
    exact g.2.2.1
  · show rxm253_7 S0 ws S_p (bx_val [(0, 0), (0, 0), (0, 0), (0, 0), (0, 0), (0, 0), (0, 0), (0, 0), (8, 0), (9, 0)] r_p 8) (bx_val [(0, 0), (0, 0), (0, 0), (0, 0), (0, 0), (0, 0), (0, 0), (0, 0), (8, 0), (9, 0)] r_p 9) < rxm253_4 S0 ws S_p (r 8) (r 9) (r 10)
    rw [bx_val_x (n := 8) (e := (8, 0)) h0_ rfl, bx_val_x (n := 9) (e := (9, 0)) h0_ rfl, ← hr_ 8 (by decide), ← hr_ 9 (by decide), ← hr_ 10 (by decide)]
    exact g.2.2.2
theorem rxc253_4_2 {S0 : Nat → Int → Int} {ws : List Int} {S : Nat → Int → Int} {pa ps r x11 : Int} (hP : rxP253 S0 ws) (hin : bx_same rxL (bx_mdl rxC253.2.2.1) S0 S) (I0 : bx_Inv rxL S) (hinv : rxI253_4 S0 ws S pa ps r) (l8 : 0 ≤ pa) (u8 : pa ≤ 5) (l9 : 0 ≤ ps) (u9 : ps ≤ 7) (l10 : 1 ≤ r) (u10 : r ≤ 1) (l11 : 0 ≤ x11) (u11 : x11 ≤ 11) (f0 : r ≠ 0) (e0 : S 1 5 = x11) : (True) ∧ (True) ∧ rxI253_9 S0 ws S pa ps ∧ rxm253_9 S0 ws S pa ps < rxm253_4 S0 ws S pa ps r := by
  obtain ⟨hr, hg, hw, hf⟩ := hinv
  have e5 : S 1 5 = S0 1 5 := hf 1 5 (by decide) (by decide) (by decide +kernel)
  refine ⟨trivial, trivial, ⟨⟨?_, by omega⟩, hg, hw, hf⟩, by unfold rxm253_4 rxm253_9; omega⟩
  rcases hr with ⟨-, h⟩ | ⟨h, -⟩
  · exact h
  · exfalso
    omega
theorem rxg253_4_2 {X : (Nat → Int → Int) → Prop} {S0 : Nat → Int → Int} {ws : List Int} (hP : rxP253 S0 ws) : bx_obC rxL X S0 rxC253.2.2.1 (rxI253 S0 ws) (rxm253 S0 ws) 4 rxz253_4 rxo253_4_2 := by
  intro S S_p r r_p hinv hX hin hsm_ hseg
  obtain ⟨I0, I1, h0_, hr_, b_, f_, d_⟩ := bx_cl (evs := [(0, (0, 1), (0, 5), .inr (0, (11, 0)))]) (fvs := [(3, (10, 0), (0, 0), (0, 0))]) hseg (by decide +kernel) (by decide +kernel)
  have hinv : rxI253_4 S0 ws S (r 8) (r 9) (r 10) := hinv
  rw [← hr_ 8 (by decide), ← hr_ 9 (by decide), ← hr_ 10 (by decide)] at hinv
  obtain ⟨⟨l8, u8⟩, ⟨l9, u9⟩, ⟨l10, u10⟩, ⟨l11, u11⟩, -⟩ := b_
  obtain ⟨f0, -⟩ := f_
  obtain ⟨e0, w_⟩ := d_
  subst w_
  have g := rxc253_4_2 hP hin I0 hinv l8 u8 l9 u9 l10 u10 l11 u11 f0 e0
  refine ⟨bx_narP_ok (l := []) g.1, bx_nfP_ok h0_ (fvs := []) (by decide +kernel) g.2.1, ?_, ?_⟩
  · show rxI253_9 S0 ws S_p (bx_val [(0, 0), (0, 0), (0, 0), (0, 0), (0, 0), (0, 0), (0, 0), (0, 0), (8, 0), (9, 0)] r_p 8) (bx_val [(0, 0), (0, 0), (0, 0), (0, 0), (0, 0), (0, 0), (0, 0), (0, 0), (8, 0), (9, 0)] r_p 9)
    rw [bx_val_x (n := 8) (e := (8, 0)) h0_ rfl, bx_val_x (n := 9) (e := (9, 0)) h0_ rfl]
    exact g.2.2.1
  · show rxm253_9 S0 ws S_p (bx_val [(0, 0), (0, 0), (0, 0), (0, 0), (0, 0), (0, 0), (0, 0), (0, 0), (8, 0), (9, 0)] r_p 8) (bx_val [(0, 0), (0, 0), (0, 0), (0, 0), (0, 0), (0, 0), (0, 0), (0, 0), (8, 0), (9, 0)] r_p 9) < rxm253_4 S0 ws S_p (r 8) (r 9) (r 10)
    rw [bx_val_x (n := 8) (e := (8, 0)) h0_ rfl, bx_val_x (n := 9) (e := (9, 0)) h0_ rfl, ← hr_ 8 (by decide), ← hr_ 9 (by decide), ← hr_ 10 (by decide)]
    exact g.2.2.2
theorem rxd253_6_0 {S0 : Nat → Int → Int} {ws : List Int} {S : Nat → Int → Int} {pa ps res : Int} (hP : rxP253 S0 ws) (hin : bx_same rxL (bx_mdl rxC253.2.2.1) S0 S) (hin2 : bx_same rxL (bx_mdl rxC253.2.2.1) S S) (I0 : bx_Inv rxL S) (I1 : bx_Inv rxL S) (hinv : rxI253_6 S0 ws S pa ps res) (l8 : 0 ≤ pa) (u8 : pa ≤ 5) (l9 : 0 ≤ ps) (u9 : ps ≤ 7) (l10 : (-6) ≤ res) (u10 : res ≤ (-1)) : (True) ∧ rxPS253 S0 ws S (some res) := by
  obtain ⟨h1, hm, hg, hw, hf⟩ := hinv
  exact ⟨trivial, pa, ps, hw, Or.inr (Or.inl ⟨hg, hm, congrArg some h1, hf⟩)⟩
theorem rxf253_6_0 {X : (Nat → Int → Int) → Prop} {S0 : Nat → Int → Int} {ws : List Int} (hP : rxP253 S0 ws) : bx_obE rxL X S0 rxC253.2.2.1 (rxI253 S0 ws) (rxPS253 S0 ws) 6 rxz253_6 rxe253_6_0 := by
  intro S S_p r r_p hinv hX hin hsm_ hseg
  obtain ⟨I0, I1, h0_, hr_, b_, f_, d_⟩ := bx_cl (evs := []) (fvs := []) hseg (by decide +kernel) (by decide +kernel)
  have hinv : rxI253_6 S0 ws S (r 8) (r 9) (r 10) := hinv
  rw [← hr_ 8 (by decide), ← hr_ 9 (by decide), ← hr_ 10 (by decide)] at hinv
  obtain ⟨⟨l8, u8⟩, ⟨l9, u9⟩, ⟨l10, u10⟩, -⟩ := b_
  have w_ := d_
  subst w_
  have g := rxd253_6_0 hP hin hsm_ I0 I1 hinv l8 u8 l9 u9 l10 u10
  refine ⟨bx_narP_ok (l := []) g.1, ?_⟩
  show rxPS253 S0 ws S_p (some (bx_num r_p (.inr (0, (10, 0)))))
  rw [bx_xv_ok h0_]
  exact g.2
theorem rxd253_8_0 {S0 : Nat → Int → Int} {ws : List Int} {S : Nat → Int → Int} {pa ps res : Int} (hP : rxP253 S0 ws) (hin : bx_same rxL (bx_mdl rxC253.2.2.1) S0 S) (hin2 : bx_same rxL (bx_mdl rxC253.2.2.1) S S) (I0 : bx_Inv rxL S) (I1 : bx_Inv rxL S) (hinv : rxI253_8 S0 ws S pa ps res) (l8 : 0 ≤ pa) (u8 : pa ≤ 5) (l9 : 0 ≤ ps) (u9 : ps ≤ 7) (l10 : (-6) ≤ res) (u10 : res ≤ (-1)) : (True) ∧ rxPS253 S0 ws S (some res) := by
  obtain ⟨h1, ⟨hm, h12⟩, hg, hw, hf⟩ := hinv
  exact ⟨trivial, pa, ps, hw, Or.inr (Or.inr (Or.inl ⟨hg, hm, h12, congrArg some h1, hf⟩))⟩
theorem rxf253_8_0 {X : (Nat → Int → Int) → Prop} {S0 : Nat → Int → Int} {ws : List Int} (hP : rxP253 S0 ws) : bx_obE rxL X S0 rxC253.2.2.1 (rxI253 S0 ws) (rxPS253 S0 ws) 8 rxz253_8 rxe253_8_0 := by
  intro S S_p r r_p hinv hX hin hsm_ hseg
  obtain ⟨I0, I1, h0_, hr_, b_, f_, d_⟩ := bx_cl (evs := []) (fvs := []) hseg (by decide +kernel) (by decide +kernel)
  have hinv : rxI253_8 S0 ws S (r 8) (r 9) (r 10) := hinv
  rw [← hr_ 8 (by decide), ← hr_ 9 (by decide), ← hr_ 10 (by decide)] at hinv
  obtain ⟨⟨l8, u8⟩, ⟨l9, u9⟩, ⟨l10, u10⟩, -⟩ := b_
  have w_ := d_
  subst w_
  have g := rxd253_8_0 hP hin hsm_ I0 I1 hinv l8 u8 l9 u9 l10 u10
  refine ⟨bx_narP_ok (l := []) g.1, ?_⟩
  show rxPS253 S0 ws S_p (some (bx_num r_p (.inr (0, (10, 0)))))
  rw [bx_xv_ok h0_]
  exact g.2
theorem rxd253_10_0 {S0 : Nat → Int → Int} {ws : List Int} {S T3 T2 T1 : Nat → Int → Int} {pa ps res x11 x12 : Int} (hP : rxP253 S0 ws) (hin : bx_same rxL (bx_mdl rxC253.2.2.1) S0 S) (hin2 : bx_same rxL (bx_mdl rxC253.2.2.1) S (bx_up T1 0 8 0)) (I0 : bx_Inv rxL S) (I1 : bx_Inv rxL (bx_up T1 0 8 0)) (hinv : rxI253_10 S0 ws S pa ps res) (l8 : 0 ≤ pa) (u8 : pa ≤ 5) (l9 : 0 ≤ ps) (u9 : ps ≤ 7) (l10 : (-1) ≤ res) (u10 : res ≤ (-1)) (l11 : 0 ≤ x11) (u11 : x11 ≤ 1522) (l12 : 0 ≤ x12) (u12 : x12 ≤ 1522) (e5 : S 12 0 = x11) (e4 : S 4 pa = x12) (v3 : ∀ (p i : Nat), p < rxL.2.1 → i < bx_wd (rxL.1 p) → bx_mc (rxL.1 p) i ≠ (99999, 0) → T3 p (i : Int) = S p (i : Int)) (v2 : ∀ (p i : Nat), p < rxL.2.1 → i < bx_wd (rxL.1 p) → bx_mc (rxL.1 p) i ≠ (1020, 0) → T2 p (i : Int) = T3 p (i : Int)) (v1 : ∀ (p i : Nat), p < rxL.2.1 → i < bx_wd (rxL.1 p) → bx_mc (rxL.1 p) i ≠ (1019, 0) → T1 p (i : Int) = T2 p (i : Int)) : (True) ∧ rxPS253 S0 ws (bx_up T1 0 8 0) (some res) := by
  obtain ⟨⟨-, h0⟩, -⟩ := hinv
  exfalso
  omega
theorem rxf253_10_0 {X : (Nat → Int → Int) → Prop} {S0 : Nat → Int → Int} {ws : List Int} (hP : rxP253 S0 ws) : bx_obE rxL X S0 rxC253.2.2.1 (rxI253 S0 ws) (rxPS253 S0 ws) 10 rxz253_10 rxe253_10_0 := by
  intro S S_p r r_p hinv hX hin hsm_ hseg
  obtain ⟨I0, I1, h0_, hr_, b_, f_, d_⟩ := bx_cl (evs := [(1, (0, 0), (0, 8), .inr (0, (0, 0))), (2, (1019, 0), (0, 0), .inl none), (2, (1020, 0), (0, 0), .inl none), (2, (99999, 0), (0, 0), .inl none), (0, (0, 4), (8, 0), .inr (3, (12, 0))), (0, (0, 12), (0, 0), .inr (3, (11, 0)))]) (fvs := []) hseg (by decide +kernel) (by decide +kernel)
  have hinv : rxI253_10 S0 ws S (r 8) (r 9) (r 10) := hinv
  rw [← hr_ 8 (by decide), ← hr_ 9 (by decide), ← hr_ 10 (by decide)] at hinv
  obtain ⟨⟨l8, u8⟩, ⟨l9, u9⟩, ⟨l10, u10⟩, ⟨l11, u11⟩, ⟨l12, u12⟩, -⟩ := b_
  obtain ⟨T0, ⟨T1, ⟨T2, ⟨T3, ⟨e4, ⟨e5, w_⟩⟩, v3⟩, v2⟩, v1⟩, w0⟩ := d_
  subst w0
  subst w_
  have g := rxd253_10_0 hP hin hsm_ I0 I1 hinv l8 u8 l9 u9 l10 u10 l11 u11 l12 u12 e5 e4 v3 v2 v1
  refine ⟨bx_narP_ok (l := []) g.1, ?_⟩
  show rxPS253 S0 ws (bx_up T0 0 (8) (0)) (some (bx_num r_p (.inr (0, (10, 0)))))
  rw [bx_xv_ok h0_]
  exact g.2
theorem rxd253_10_1 {S0 : Nat → Int → Int} {ws : List Int} {S T3 T2 T1 : Nat → Int → Int} {pa ps res x11 x12 : Int} (hP : rxP253 S0 ws) (hin : bx_same rxL (bx_mdl rxC253.2.2.1) S0 S) (hin2 : bx_same rxL (bx_mdl rxC253.2.2.1) S (bx_up T1 0 8 0)) (I0 : bx_Inv rxL S) (I1 : bx_Inv rxL (bx_up T1 0 8 0)) (hinv : rxI253_10 S0 ws S pa ps res) (l8 : 0 ≤ pa) (u8 : pa ≤ 5) (l9 : 0 ≤ ps) (u9 : ps ≤ 7) (l10 : 0 ≤ res) (u10 : res ≤ 11) (l11 : 0 ≤ x11) (u11 : x11 ≤ 1522) (l12 : 0 ≤ x12) (u12 : x12 ≤ 1522) (e5 : S 12 res = x11) (e4 : S 4 pa = x12) (v3 : ∀ (p i : Nat), p < rxL.2.1 → i < bx_wd (rxL.1 p) → bx_mc (rxL.1 p) i ≠ (99999, 0) → T3 p (i : Int) = S p (i : Int)) (v2 : ∀ (p i : Nat), p < rxL.2.1 → i < bx_wd (rxL.1 p) → bx_mc (rxL.1 p) i ≠ (1020, 0) → T2 p (i : Int) = T3 p (i : Int)) (v1 : ∀ (p i : Nat), p < rxL.2.1 → i < bx_wd (rxL.1 p) → bx_mc (rxL.1 p) i ≠ (1019, 0) → T1 p (i : Int) = T2 p (i : Int)) : (True) ∧ rxPS253 S0 ws (bx_up T1 0 8 0) (some res) := by
  obtain ⟨⟨hr, h0⟩, ⟨hm, h12⟩, hg, hw, h5, r9, r10, r11, k1, k2, f146, f282, f147, f283, f148, f284⟩ := hinv
  have fr : ∀ {p n : Nat} (_ : p ∈ rxNum) (_ : bx_wd (rxL.1 p) = n) {i : Int}, 0 ≤ i → i < (n : Int) → T1 p i = S p i := fun hp hn _ a b => (rk_frI v1 (by decide +kernel) hp hn a b).trans ((rk_frI v2 (by decide +kernel) hp hn a b).trans (rk_frI v3 (by decide +kernel) hp hn a b))
  exact ⟨trivial, pa, ps, hw, Or.inr (Or.inr (Or.inr ⟨hg, hm, h12, congrArg some hr, (bx_up_ne (by omega)).trans ((fr (p := 1) (n := 19) (by decide) (by decide +kernel) (i := 5) (by decide) (by decide)).trans (h5)), fun i i0 i1 => (bx_up_ne (by omega)).trans ((fr (p := 9) (n := 12) (by decide) (by decide +kernel) i0 i1).trans (r9 i i0 i1)), fun i i0 i1 => (bx_up_ne (by omega)).trans ((fr (p := 10) (n := 12) (by decide) (by decide +kernel) i0 i1).trans (r10 i i0 i1)), fun i i0 i1 => (bx_up_ne (by omega)).trans ((fr (p := 11) (n := 12) (by decide) (by decide +kernel) i0 i1).trans (r11 i i0 i1)), (bx_up_ne (by omega)).trans ((fr (p := 138) (n := 19) (by decide) (by decide +kernel) (i := 5) (by decide) (by decide)).trans (k1)), (bx_up_ne (by omega)).trans ((fr (p := 274) (n := 19) (by decide) (by decide +kernel) (i := 5) (by decide) (by decide)).trans (k2)), fun i i0 i1 => (bx_up_ne (by omega)).trans ((fr (p := 146) (n := 12) (by decide) (by decide +kernel) i0 i1).trans (f146 i i0 i1)), fun i i0 i1 => (bx_up_ne (by omega)).trans ((fr (p := 282) (n := 12) (by decide) (by decide +kernel) i0 i1).trans (f282 i i0 i1)), fun i i0 i1 => (bx_up_ne (by omega)).trans ((fr (p := 147) (n := 12) (by decide) (by decide +kernel) i0 i1).trans (f147 i i0 i1)), fun i i0 i1 => (bx_up_ne (by omega)).trans ((fr (p := 283) (n := 12) (by decide) (by decide +kernel) i0 i1).trans (f283 i i0 i1)), fun i i0 i1 => (bx_up_ne (by omega)).trans ((fr (p := 148) (n := 12) (by decide) (by decide +kernel) i0 i1).trans (f148 i i0 i1)), fun i i0 i1 => (bx_up_ne (by omega)).trans ((fr (p := 284) (n := 12) (by decide) (by decide +kernel) i0 i1).trans (f284 i i0 i1))⟩))⟩
theorem rxf253_10_1 {X : (Nat → Int → Int) → Prop} {S0 : Nat → Int → Int} {ws : List Int} (hP : rxP253 S0 ws) : bx_obE rxL X S0 rxC253.2.2.1 (rxI253 S0 ws) (rxPS253 S0 ws) 10 rxz253_10 rxe253_10_1 := by
  intro S S_p r r_p hinv hX hin hsm_ hseg
  obtain ⟨I0, I1, h0_, hr_, b_, f_, d_⟩ := bx_cl (evs := [(1, (0, 0), (0, 8), .inr (0, (0, 0))), (2, (1019, 0), (0, 0), .inl none), (2, (1020, 0), (0, 0), .inl none), (2, (99999, 0), (0, 0), .inl none), (0, (0, 4), (8, 0), .inr (3, (12, 0))), (0, (0, 12), (10, 0), .inr (3, (11, 0)))]) (fvs := []) hseg (by decide +kernel) (by decide +kernel)
  have hinv : rxI253_10 S0 ws S (r 8) (r 9) (r 10) := hinv
  rw [← hr_ 8 (by decide), ← hr_ 9 (by decide), ← hr_ 10 (by decide)] at hinv
  obtain ⟨⟨l8, u8⟩, ⟨l9, u9⟩, ⟨l10, u10⟩, ⟨l11, u11⟩, ⟨l12, u12⟩, -⟩ := b_
  obtain ⟨T0, ⟨T1, ⟨T2, ⟨T3, ⟨e4, ⟨e5, w_⟩⟩, v3⟩, v2⟩, v1⟩, w0⟩ := d_
  subst w0
  subst w_
  have g := rxd253_10_1 hP hin hsm_ I0 I1 hinv l8 u8 l9 u9 l10 u10 l11 u11 l12 u12 e5 e4 v3 v2 v1
  refine ⟨bx_narP_ok (l := []) g.1, ?_⟩
  show rxPS253 S0 ws (bx_up T0 0 (8) (0)) (some (bx_num r_p (.inr (0, (10, 0)))))
  rw [bx_xv_ok h0_]
  exact g.2
theorem rxgC253 {X : (Nat → Int → Int) → Prop} {S0 : Nat → Int → Int} {ws : List Int} (hP : rxP253 S0 ws) : bx_allI (fun i q => rxU253 q = true ∨ bx_allP (fun o => bx_obC rxL X S0 rxC253.2.2.1 (rxI253 S0 ws) (rxm253 S0 ws) i q.1 o) q.2.1) 0 rxY253 := ⟨Or.inr ⟨rxg253_0_0 hP, rxg253_0_1 hP, rxg253_0_2 hP, rxg253_0_3 hP, rxg253_0_4 hP, trivial⟩, Or.inl rfl, Or.inr trivial, Or.inl rfl, Or.inr ⟨rxg253_4_0 hP, rxg253_4_1 hP, rxg253_4_2 hP, trivial⟩, Or.inl rfl, Or.inr trivial, Or.inl rfl, Or.inr trivial, Or.inl rfl, Or.inr trivial, trivial⟩
theorem rxgE253 {X : (Nat → Int → Int) → Prop} {S0 : Nat → Int → Int} {ws : List Int} (hP : rxP253 S0 ws) : bx_allI (fun i q => rxU253 q = true ∨ bx_allP (fun E => bx_obE rxL X S0 rxC253.2.2.1 (rxI253 S0 ws) (rxPS253 S0 ws) i q.1 E) q.2.2) 0 rxY253 := ⟨Or.inr trivial, Or.inl rfl, Or.inr ⟨rxf253_2_0 hP, trivial⟩, Or.inl rfl, Or.inr trivial, Or.inl rfl, Or.inr ⟨rxf253_6_0 hP, trivial⟩, Or.inl rfl, Or.inr ⟨rxf253_8_0 hP, trivial⟩, Or.inl rfl, Or.inr ⟨rxf253_10_0 hP, rxf253_10_1 hP, trivial⟩, trivial⟩
theorem rxu253 {PX : State → Prop} {Dg : va_G} {A : Nat → Prop} {ad xa : Nat → Nat} {l : Launch} {X : (Nat → Int → Int) → Prop} (hPX : rx_PXOK rxNW A PX) (hX : ∀ S S1 : Nat → Int → Int, X S → bx_same rxL (bx_mdl rxC253.2.2.1) S S1 → X S1) (hQ110 : bx_ConP rxG rxNW rxAO PX Dg rxL X vwCl A ad l rxM110 rxC110 rxP110 rxPS110) (hQMBD : bx_ConP rxG rxNW rxAO PX Dg rxL X vwCl A ad l rxM27 rxCMBD rxPMBD rxPSMBD) (hQADV : bx_ConP rxG rxNW rxAO PX Dg rxL X vwCl A ad l rxM123 rxCADV rxPADV rxPSADV) {S0 : Nat → Int → Int} {ws : List Int} (hP : rxP253 S0 ws) : ∀ (i : Nat) (q : bx_HE), rxY253[i]? = some q → rxU253 q = true → ∀ {p : Program} {e : Env} {R : Room} {s : State} {m : MethodId} {args : Array Value} {below : List Frame} {meth : Method} {c : Code} {Q : State → Prop} {H0 : Heap}, rx_Fr rxG rxNW rxAO PX p s m args meth c rxM253 → (∀ q, H0.size ≤ q → A q) → H0 = s.heap → rxM253.2.2.2.2.2.2.1 ≤ R.cells → rxM253.2.2.2.2.2.2.2 ≤ R.slots → rxC253.2.2.2.1 ≤ R.frames → rxC253.2.2.2.1 * 40 ≤ R.locals → bx_Step p l e R s m args below meth c Q Dg rxL X vwCl A xa H0 ad rxM253 rxY253 (rxI253 S0 ws) (rxm253 S0 ws) S0 rxC253.2.2.1 i q := by
  intro i q hq hus p e R s m args below meth c Q H0 hF hA hH0 hmc hms hd hdl
  match i, hq with
  | 0, hq =>
    cases hq
    exact absurd (show false = true from hus) Bool.false_ne_true
  | 1, hq =>
    cases hq
    exact rx_stepC (ins := .invokevirtual 110) (len := 3) (i_p := 2) (M_p := rxM110) (d := rxC253.2.2.2.1) (as := [.inr (3, (0, 0)), .inr (0, (0, (-2)))]) (t := []) (ct := rxC110) hPX hF rfl hA hH0 hmc hms hd hdl (by decide +kernel) rfl rfl (by decide +kernel) (by decide +kernel) hQ110 (by decide +kernel) rfl (Or.inr ⟨_, _, _, 1, rfl, rfl, by omega, rfl, rfl, rfl⟩) (rxs253_1 hP)
  | 2, hq =>
    cases hq
    exact absurd (show false = true from hus) Bool.false_ne_true
  | 3, hq =>
    cases hq
    exact rx_stepC (ins := .invokevirtual 248) (len := 3) (i_p := 4) (M_p := rxM27) (d := rxC253.2.2.2.1) (as := [.inr (3, (0, 1)), .inr (0, (8, 0)), .inr (0, (9, 0))]) (t := []) (ct := rxCMBD) hPX hF rfl hA hH0 hmc hms hd hdl (by decide +kernel) rfl rfl (by decide +kernel) (by decide +kernel) hQMBD (by decide +kernel) rfl (Or.inr ⟨_, _, _, 1, rfl, rfl, by omega, rfl, rfl, rfl⟩) (rxs253_3 hP)
  | 4, hq =>
    cases hq
    exact absurd (show false = true from hus) Bool.false_ne_true
  | 5, hq =>
    cases hq
    exact rx_stepC (ins := .invokevirtual 110) (len := 3) (i_p := 6) (M_p := rxM110) (d := rxC253.2.2.2.1) (as := [.inr (3, (0, 0)), .inr (0, (0, (-3)))]) (t := []) (ct := rxC110) hPX hF rfl hA hH0 hmc hms hd hdl (by decide +kernel) rfl rfl (by decide +kernel) (by decide +kernel) hQ110 (by decide +kernel) rfl (Or.inr ⟨_, _, _, 1, rfl, rfl, by omega, rfl, rfl, rfl⟩) (rxs253_5 hP)
  | 6, hq =>
    cases hq
    exact absurd (show false = true from hus) Bool.false_ne_true
  | 7, hq =>
    cases hq
    exact rx_stepC (ins := .invokevirtual 110) (len := 3) (i_p := 8) (M_p := rxM110) (d := rxC253.2.2.2.1) (as := [.inr (3, (0, 0)), .inr (0, (0, (-5)))]) (t := []) (ct := rxC110) hPX hF rfl hA hH0 hmc hms hd hdl (by decide +kernel) rfl rfl (by decide +kernel) (by decide +kernel) hQ110 (by decide +kernel) rfl (Or.inr ⟨_, _, _, 1, rfl, rfl, by omega, rfl, rfl, rfl⟩) (rxs253_7 hP)
  | 8, hq =>
    cases hq
    exact absurd (show false = true from hus) Bool.false_ne_true
  | 9, hq =>
    cases hq
    exact rx_stepC (ins := .invokevirtual 254) (len := 3) (i_p := 10) (M_p := rxM123) (d := rxC253.2.2.2.1) (as := [.inr (3, (0, 1)), .inr (0, (8, 0)), .inr (0, (9, 0)), .inr (0, (0, (-1)))]) (t := []) (ct := rxCADV) hPX hF rfl hA hH0 hmc hms hd hdl (by decide +kernel) rfl rfl (by decide +kernel) (by decide +kernel) hQADV (by decide +kernel) rfl (Or.inr ⟨_, _, _, 1, rfl, rfl, by omega, rfl, rfl, rfl⟩) (rxs253_9 hP)
  | 10, hq =>
    cases hq
    exact absurd (show false = true from hus) Bool.false_ne_true
  | n + 11, hq => cases hq
theorem rxQ253 {PX : State → Prop} {Dg : va_G} {A : Nat → Prop} {ad xa : Nat → Nat} {l : Launch} {X : (Nat → Int → Int) → Prop} (hPX : rx_PXOK rxNW A PX) (hsl : ∀ s : State, PX s → ∀ o idx n : Nat, rxSl o idx = some n → ∃ tx : String, vk_R (rxNm o) idx tx (ad n) s)
    (hX : ∀ S S_p : Nat → Int → Int, X S → bx_same rxL (bx_mdl rxC253.2.2.1) S S_p → X S_p)
    (ih : ∀ (j2 : Nat) (ct2 : bx_Ct) (M2 : rx_Mt), ct2 ∈ rxCn j2 → ct2.2.2.2.1 + 1 ≤ rxC253.2.2.2.1 → rxT.2.2.2.2.2 j2 = some M2 → bx_Con rxG rxNW rxAO PX Dg rxL X vwCl A ad l M2 ct2) (hQ110 : bx_ConP rxG rxNW rxAO PX Dg rxL X vwCl A ad l rxM110 rxC110 rxP110 rxPS110) (hQMBD : bx_ConP rxG rxNW rxAO PX Dg rxL X vwCl A ad l rxM27 rxCMBD rxPMBD rxPSMBD) (hQADV : bx_ConP rxG rxNW rxAO PX Dg rxL X vwCl A ad l rxM123 rxCADV rxPADV rxPSADV) : bx_ConP rxG rxNW rxAO PX Dg rxL X vwCl A ad l rxM253 rxC253 rxP253 rxPS253 :=
  rxQof (xa := xa) (Cn := rxCn) (f := 30000) (j := 253) (tab := rxY253) (us := rxU253) hPX hsl hX ih rfl rxYc253 rxI253 rxm253
    (fun S0 ws r I0 I ht0 ht as he he1 hX0 hI0 hP hs ha => by
      have e := he.symm.trans (show bx_ent0 rxNP rxC253.1 bx_I0 [] = some ([(0, 0), (0, 0), (0, 0), (0, 0), (0, 0), (0, 0), (0, 0), (0, 0), ((-2147483648), 2147483647), ((-2147483648), 2147483647)], [], [.inr (3, (0, 0)), .inr (0, (8, 0)), .inr (0, (9, 0))]) from rfl)
      cases e
      subst ha
      have h0 : r 0 = 0 := hs.1
      show rxI253_0 S0 _ S0 (r 8) (r 9)
      refine ⟨rfl, ?_⟩
      simp only [List.map_cons, List.map_nil, bx_xv_ok h0]
      rfl)
    (fun S0 ws hP => rxu253 (xa := xa) hPX hX hQ110 hQMBD hQADV hP) (fun S0 ws hP => rxgC253 hP) (fun S0 ws hP => rxgE253 hP)
