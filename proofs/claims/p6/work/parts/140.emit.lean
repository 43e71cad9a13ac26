/-! CONTRACT BY HAND, by program (wip/sim/genhand.py): DeadUnderstudiesModel.emit -/
def rxCEM : bx_Ct := ([(3, (1, 480, 0)), (0, (0, 0, 30)), (0, (0, 0, 1000))], none, [(12, 18), (1068, 0), (1069, 0)], 0, [])
def rxIEM_0 (S0 : Nat → Int → Int) (ws : List Int) (S : Nat → Int → Int) (op arg : Int) : Prop := S = S0 ∧ ws = [480, op, arg]
def rxmEM_0 (S0 : Nat → Int → Int) (ws : List Int) (S : Nat → Int → Int) (op arg : Int) : Nat := 100
def rxzEM_0 : rx_Z := ([(0, 0), (0, 0), (0, 0), (0, 0), (0, 0), (0, 0), (0, 0), (0, 0), (0, 30), (0, 1000)], [], [], 0, 0, 0, [(0, .inr (3, (0, 480))), (1, .inr (0, (8, 0))), (2, .inr (0, (9, 0)))], [])
def rxIEM_1 (S0 : Nat → Int → Int) (ws : List Int) (S : Nat → Int → Int) (op arg n n2 : Int) : Prop := S = S0 ∧ ws = [480, op, arg] ∧ n = S 480 18 ∧ n2 = n
def rxmEM_1 (S0 : Nat → Int → Int) (ws : List Int) (S : Nat → Int → Int) (op arg n n2 : Int) : Nat := 90
def rxzEM_1 : rx_Z := ([(0, 0), (0, 0), (0, 0), (0, 0), (0, 0), (0, 0), (0, 0), (0, 0), (0, 30), (0, 1000), (0, 399), (0, 399)], [], [(((0, 480), 18), .inr (0, (11, 0)))], 0, 0, 8, [(0, .inr (3, (0, 480))), (1, .inr (0, (8, 0))), (2, .inr (0, (9, 0)))], [.inr (0, (10, 0)), .inr (3, (0, 487))])
def rxoEM_0_0 : bx_HO := (([(0, 0), (0, 0), (0, 0), (0, 0), (0, 0), (0, 0), (0, 0), (0, 0), (0, 30), (0, 1000), (0, 400)], [], [(((0, 0), 1851192626986356801037061052538980267039804375195077741805305856000000), .inr (0, (10, 0))), (((0, 480), 18), .inr (0, (10, 0))), (((0, 480), 19), .inr (3, (0, 487)))], 0, 0, 8, [(0, .inr (3, (0, 480))), (1, .inr (0, (8, 0))), (2, .inr (0, (9, 0)))], [.inr (0, (10, 0)), .inr (3, (0, 487))]), [(10, 0, 399), (10, 0, 399)], [], [(0, 0), (0, 0), (0, 0), (0, 0), (0, 0), (0, 0), (0, 0), (0, 0), (8, 0), (9, 0), (10, 0), (10, 0)], 1)
def rxeEM_1_0 : rx_End × List (Nat × Int × Int) := (([(0, 0), (0, 0), (0, 0), (0, 0), (0, 0), (0, 0), (0, 0), (0, 0), (0, 30), (0, 1000), (0, 399), (0, 399)], [], [(((0, 0), 1851192626986356801037061052538980267039804375195077741805305859000000), .inr (0, (11, 1))), (((0, 480), 18), .inr (0, (11, 1))), (((0, 0), 1851192626986356797424374018331344491018900889112178922894131203000000), .inr (0, (9, 0))), (((0, 480), 20), .inr (3, (0, 488))), (((0, 0), 1851192626986356797424370955790042202572729718740712036979638275000000), .inr (0, (8, 0)))], none), [])
def rxYEM : List bx_HE := [(rxzEM_0, [rxoEM_0_0], []), (rxzEM_1, [], [rxeEM_1_0])]
def rxUEM (q : bx_HE) : Bool := false
def rxYBEM : bx_B := (rxV, rxNP, rxDmf, bx_mdH rxCEM.2.2.1)
set_option maxRecDepth 100000 in
theorem rxYcEM : bx_chkH rxYBEM rxM266 rxCEM rxYEM (rxUEM, fun cut z => rx_ex2 (rxCT rxYBEM rxCnE) cut 30000 rxCEM.2.2.2.1 266 z) = true := by decide +kernel
def rxIEM (S0 : Nat → Int → Int) (ws : List Int) (i : Nat) : bx_SP := fun S r => match i with | 0 => rxIEM_0 S0 ws S (r 8) (r 9) | 1 => rxIEM_1 S0 ws S (r 8) (r 9) (r 10) (r 11) | _ => False
def rxmEM (S0 : Nat → Int → Int) (ws : List Int) (i : Nat) (S : Nat → Int → Int) (r : Nat → Int) : Nat := match i with | 0 => rxmEM_0 S0 ws S (r 8) (r 9) | 1 => rxmEM_1 S0 ws S (r 8) (r 9) (r 10) (r 11) | _ => 0
def rxPEM (S0 : Nat → Int → Int) (ws : List Int) : Prop := S0 480 18 ≤ 399
def rxPSEM (S0 : Nat → Int → Int) (ws : List Int) (S : Nat → Int → Int) (w : Option Int) : Prop := w = none ∧ ∃ op arg : Int, ws = [480, op, arg] ∧ S = bx_up (bx_up (bx_up S0 487 (S0 480 18) op) 488 (S0 480 18) arg) 480 18 (S0 480 18 + 1)
theorem rxcEM_0_0 {S0 : Nat → Int → Int} {ws : List Int} {S : Nat → Int → Int} {op arg x10 : Int} (hP : rxPEM S0 ws) (hin : bx_same rxL (bx_mdl rxCEM.2.2.1) S0 S) (I0 : bx_Inv rxL S) (hinv : rxIEM_0 S0 ws S op arg) (l8 : 0 ≤ op) (u8 : op ≤ 30) (l9 : 0 ≤ arg) (u9 : arg ≤ 1000) (l10 : 0 ≤ x10) (u10 : x10 ≤ 400) (e0 : S 480 18 = x10) : ((0 ≤ x10 ∧ x10 ≤ 399) ∧ (0 ≤ x10 ∧ x10 ≤ 399) ∧ True) ∧ (True) ∧ rxIEM_1 S0 ws S op arg x10 x10 ∧ rxmEM_1 S0 ws S op arg x10 x10 < rxmEM_0 S0 ws S op arg := by
  obtain ⟨rfl, hw⟩ := hinv
  have hP : S 480 18 ≤ 399 := hP
  exact ⟨⟨by omega, by omega, trivial⟩, trivial, ⟨rfl, hw, e0.symm, rfl⟩, by unfold rxmEM_0 rxmEM_1; omega⟩
theorem rxgEM_0_0 {X : (Nat → Int → Int) → Prop} {S0 : Nat → Int → Int} {ws : List Int} (hP : rxPEM S0 ws) : bx_obC rxL X S0 rxCEM.2.2.1 (rxIEM S0 ws) (rxmEM S0 ws) 0 rxzEM_0 rxoEM_0_0 := by
  intro S S_p r r_p hinv hX hin hsm_ hseg
  obtain ⟨I0, I1, h0_, hr_, b_, f_, d_⟩ := bx_cl (evs := [(0, (0, 480), (0, 18), .inr (0, (10, 0)))]) (fvs := []) hseg (by decide +kernel) (by decide +kernel)
  have hinv : rxIEM_0 S0 ws S (r 8) (r 9) := hinv
  rw [← hr_ 8 (by decide), ← hr_ 9 (by decide)] at hinv
  obtain ⟨⟨l8, u8⟩, ⟨l9, u9⟩, ⟨l10, u10⟩, -⟩ := b_
  obtain ⟨e0, w_⟩ := d_
  subst w_
  have g := rxcEM_0_0 hP hin I0 hinv l8 u8 l9 u9 l10 u10 e0
  refine ⟨bx_narP_ok (l := [(10, 0, 399), (10, 0, 399)]) g.1, bx_nfP_ok h0_ (fvs := []) (by decide +kernel) g.2.1, ?_, ?_⟩
  · show rxIEM_1 S0 ws S_p (bx_val [(0, 0), (0, 0), (0, 0), (0, 0), (0, 0), (0, 0), (0, 0), (0, 0), (8, 0), (9, 0), (10, 0), (10, 0)] r_p 8) (bx_val [(0, 0), (0, 0), (0, 0), (0, 0), (0, 0), (0, 0), (0, 0), (0, 0), (8, 0), (9, 0), (10, 0), (10, 0)] r_p 9) (bx_val [(0, 0), (0, 0), (0, 0), (0, 0), (0, 0), (0, 0), (0, 0), (0, 0), (8, 0), (9, 0), (10, 0), (10, 0)] r_p 10) (bx_val [(0, 0), (0, 0), (0, 0), (0, 0), (0, 0), (0, 0), (0, 0), (0, 0), (8, 0), (9, 0), (10, 0), (10, 0)] r_p 11)
    rw [bx_val_x (n := 8) (e := (8, 0)) h0_ rfl, bx_val_x (n := 9) (e := (9, 0)) h0_ rfl, bx_val_x (n := 10) (e := (10, 0)) h0_ rfl, bx_val_x (n := 11) (e := (10, 0)) h0_ rfl]
    exact g.2.2.1
  · show rxmEM_1 S0 ws S_p (bx_val [(0, 0), (0, 0), (0, 0), (0, 0), (0, 0), (0, 0), (0, 0), (0, 0), (8, 0), (9, 0), (10, 0), (10, 0)] r_p 8) (bx_val [(0, 0), (0, 0), (0, 0), (0, 0), (0, 0), (0, 0), (0, 0), (0, 0), (8, 0), (9, 0), (10, 0), (10, 0)] r_p 9) (bx_val [(0, 0), (0, 0), (0, 0), (0, 0), (0, 0), (0, 0), (0, 0), (0, 0), (8, 0), (9, 0), (10, 0), (10, 0)] r_p 10) (bx_val [(0, 0), (0, 0), (0, 0), (0, 0), (0, 0), (0, 0), (0, 0), (0, 0), (8, 0), (9, 0), (10, 0), (10, 0)] r_p 11) < rxmEM_0 S0 ws S_p (r 8) (r 9)
    rw [bx_val_x (n := 8) (e := (8, 0)) h0_ rfl, bx_val_x (n := 9) (e := (9, 0)) h0_ rfl, bx_val_x (n := 10) (e := (10, 0)) h0_ rfl, bx_val_x (n := 11) (e := (10, 0)) h0_ rfl, ← hr_ 8 (by decide), ← hr_ 9 (by decide)]
    exact g.2.2.2
theorem rxdEM_1_0 {S0 : Nat → Int → Int} {ws : List Int} {S : Nat → Int → Int} {op arg n n2 : Int} (hP : rxPEM S0 ws) (hin : bx_same rxL (bx_mdl rxCEM.2.2.1) S0 S) (hin2 : bx_same rxL (bx_mdl rxCEM.2.2.1) S (bx_up (bx_up (bx_up S 487 n op) 488 n2 arg) 480 18 (n2 + 1))) (I0 : bx_Inv rxL S) (I1 : bx_Inv rxL (bx_up (bx_up (bx_up S 487 n op) 488 n2 arg) 480 18 (n2 + 1))) (hinv : rxIEM_1 S0 ws S op arg n n2) (l8 : 0 ≤ op) (u8 : op ≤ 30) (l9 : 0 ≤ arg) (u9 : arg ≤ 1000) (l10 : 0 ≤ n) (u10 : n ≤ 399) (l11 : 0 ≤ n2) (u11 : n2 ≤ 399) : (True) ∧ rxPSEM S0 ws (bx_up (bx_up (bx_up S 487 n op) 488 n2 arg) 480 18 (n2 + 1)) none := by
  obtain ⟨rfl, hw, h1, h2⟩ := hinv
  exact ⟨trivial, rfl, op, arg, hw, by rw [← h1, h2]⟩
theorem rxfEM_1_0 {X : (Nat → Int → Int) → Prop} {S0 : Nat → Int → Int} {ws : List Int} (hP : rxPEM S0 ws) : bx_obE rxL X S0 rxCEM.2.2.1 (rxIEM S0 ws) (rxPSEM S0 ws) 1 rxzEM_1 rxeEM_1_0 := by
  intro S S_p r r_p hinv hX hin hsm_ hseg
  obtain ⟨I0, I1, h0_, hr_, b_, f_, d_⟩ := bx_cl (evs := [(1, (0, 480), (0, 18), .inr (0, (11, 1))), (1, (0, 488), (11, 0), .inr (0, (9, 0))), (1, (0, 487), (10, 0), .inr (0, (8, 0)))]) (fvs := []) hseg (by decide +kernel) (by decide +kernel)
  have hinv : rxIEM_1 S0 ws S (r 8) (r 9) (r 10) (r 11) := hinv
  rw [← hr_ 8 (by decide), ← hr_ 9 (by decide), ← hr_ 10 (by decide), ← hr_ 11 (by decide)] at hinv
  obtain ⟨⟨l8, u8⟩, ⟨l9, u9⟩, ⟨l10, u10⟩, ⟨l11, u11⟩, -⟩ := b_
  obtain ⟨T0, ⟨T1, ⟨T2, w_, w2⟩, w1⟩, w0⟩ := d_
  subst w0
  subst w1
  subst w2
  subst w_
  have g := rxdEM_1_0 hP hin hsm_ I0 I1 hinv l8 u8 l9 u9 l10 u10 l11 u11
  refine ⟨bx_narP_ok (l := []) g.1, ?_⟩
  exact g.2
theorem rxgCEM {X : (Nat → Int → Int) → Prop} {S0 : Nat → Int → Int} {ws : List Int} (hP : rxPEM S0 ws) : bx_allI (fun i q => rxUEM q = true ∨ bx_allP (fun o => bx_obC rxL X S0 rxCEM.2.2.1 (rxIEM S0 ws) (rxmEM S0 ws) i q.1 o) q.2.1) 0 rxYEM := ⟨Or.inr ⟨rxgEM_0_0 hP, trivial⟩, Or.inr trivial, trivial⟩
theorem rxgEEM {X : (Nat → Int → Int) → Prop} {S0 : Nat → Int → Int} {ws : List Int} (hP : rxPEM S0 ws) : bx_allI (fun i q => rxUEM q = true ∨ bx_allP (fun E => bx_obE rxL X S0 rxCEM.2.2.1 (rxIEM S0 ws) (rxPSEM S0 ws) i q.1 E) q.2.2) 0 rxYEM := ⟨Or.inr trivial, Or.inr ⟨rxfEM_1_0 hP, trivial⟩, trivial⟩
theorem rxQEM {PX : State → Prop} {Dg : va_G} {A : Nat → Prop} {ad xa : Nat → Nat} {l : Launch} {X : (Nat → Int → Int) → Prop} (hPX : rx_PXOK rxNW A PX) (hsl : ∀ s : State, PX s → ∀ o idx n : Nat, rxSl o idx = some n → ∃ tx : String, vk_R (rxNm o) idx tx (ad n) s)
    (hX : ∀ S S_p : Nat → Int → Int, X S → bx_same rxL (bx_mdl rxCEM.2.2.1) S S_p → X S_p)
    (ih : ∀ (j2 : Nat) (ct2 : bx_Ct) (M2 : rx_Mt), ct2 ∈ rxCnE j2 → ct2.2.2.2.1 + 1 ≤ rxCEM.2.2.2.1 → rxT.2.2.2.2.2 j2 = some M2 → bx_Con rxG rxNW rxAO PX Dg rxL X vwCl A ad l M2 ct2) : bx_ConP rxG rxNW rxAO PX Dg rxL X vwCl A ad l rxM266 rxCEM rxPEM rxPSEM :=
  rxQof (xa := xa) (Cn := rxCnE) (f := 30000) (j := 266) (tab := rxYEM) (us := rxUEM) hPX hsl hX ih rfl rxYcEM rxIEM rxmEM
    (fun S0 ws r I0 I ht0 ht as he he1 hX0 hI0 hP hs ha => by
      have e := he.symm.trans (show bx_ent0 rxNP rxCEM.1 bx_I0 [] = some ([(0, 0), (0, 0), (0, 0), (0, 0), (0, 0), (0, 0), (0, 0), (0, 0), (0, 30), (0, 1000)], [], [.inr (3, (0, 480)), .inr (0, (8, 0)), .inr (0, (9, 0))]) from rfl)
      cases e
      subst ha
      have h0 : r 0 = 0 := hs.1
      show rxIEM_0 S0 _ S0 (r 8) (r 9)
      refine ⟨rfl, ?_⟩
      simp only [List.map_cons, List.map_nil, bx_xv_ok h0]
      rfl)
    (fun S0 ws hP => fun i q hq hus => absurd (show false = true from hus) Bool.false_ne_true) (fun S0 ws hP => rxgCEM hP) (fun S0 ws hP => rxgEEM hP)
