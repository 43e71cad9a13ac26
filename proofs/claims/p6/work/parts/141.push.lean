/-! CONTRACT BY HAND, by program (wip/sim/genhand.py): DeadUnderstudiesModel.push -/
def rxCPU : bx_Ct := ([(3, (1, 480, 0)), (0, (0, 0, 32)), (0, (0, 0, 400))], none, [(12, 24), (1070, 0), (1071, 0)], 0, [])
def rxIPU_0 (S0 : Nat → Int → Int) (ws : List Int) (S : Nat → Int → Int) (op at_ : Int) : Prop := S = S0 ∧ ws = [480, op, at_]
def rxmPU_0 (S0 : Nat → Int → Int) (ws : List Int) (S : Nat → Int → Int) (op at_ : Int) : Nat := 100
def rxzPU_0 : rx_Z := ([(0, 0), (0, 0), (0, 0), (0, 0), (0, 0), (0, 0), (0, 0), (0, 0), (0, 32), (0, 400)], [], [], 0, 0, 0, [(0, .inr (3, (0, 480))), (1, .inr (0, (8, 0))), (2, .inr (0, (9, 0)))], [])
def rxIPU_1 (S0 : Nat → Int → Int) (ws : List Int) (S : Nat → Int → Int) (op at_ n n2 : Int) : Prop := S = S0 ∧ ws = [480, op, at_] ∧ n = S 480 24 ∧ n2 = n
def rxmPU_1 (S0 : Nat → Int → Int) (ws : List Int) (S : Nat → Int → Int) (op at_ n n2 : Int) : Nat := 90
def rxzPU_1 : rx_Z := ([(0, 0), (0, 0), (0, 0), (0, 0), (0, 0), (0, 0), (0, 0), (0, 0), (0, 32), (0, 400), (0, 399), (0, 399)], [], [(((0, 480), 24), .inr (0, (11, 0)))], 0, 0, 8, [(0, .inr (3, (0, 480))), (1, .inr (0, (8, 0))), (2, .inr (0, (9, 0)))], [.inr (0, (10, 0)), .inr (3, (0, 489))])
def rxoPU_0_0 : bx_HO := (([(0, 0), (0, 0), (0, 0), (0, 0), (0, 0), (0, 0), (0, 0), (0, 0), (0, 32), (0, 400), (0, 400)], [], [(((0, 0), 1851192626986356802241301293259633916682733161918089263128248320000000), .inr (0, (10, 0))), (((0, 480), 24), .inr (0, (10, 0))), (((0, 480), 22), .inr (3, (0, 489)))], 0, 0, 8, [(0, .inr (3, (0, 480))), (1, .inr (0, (8, 0))), (2, .inr (0, (9, 0)))], [.inr (0, (10, 0)), .inr (3, (0, 489))]), [(10, 0, 399), (10, 0, 399)], [], [(0, 0), (0, 0), (0, 0), (0, 0), (0, 0), (0, 0), (0, 0), (0, 0), (8, 0), (9, 0), (10, 0), (10, 0)], 1)
def rxePU_1_0 : rx_End × List (Nat × Int × Int) := (([(0, 0), (0, 0), (0, 0), (0, 0), (0, 0), (0, 0), (0, 0), (0, 0), (0, 32), (0, 400), (0, 399), (0, 399)], [], [(((0, 0), 1851192626986356802241301293259633916682733161918089263128248323000000), .inr (0, (11, 1))), (((0, 480), 24), .inr (0, (11, 1))), (((0, 0), 1851192626986356797424374018331344491018900889112178922895310851000000), .inr (0, (9, 0))), (((0, 480), 23), .inr (3, (0, 490))), (((0, 0), 1851192626986356797424370955790042202572729718740712036980817923000000), .inr (0, (8, 0)))], none), [])
def rxYPU : List bx_HE := [(rxzPU_0, [rxoPU_0_0], []), (rxzPU_1, [], [rxePU_1_0])]
def rxUPU (q : bx_HE) : Bool := false
def rxYBPU : bx_B := (rxV, rxNP, rxDmf, bx_mdH rxCPU.2.2.1)
set_option maxRecDepth 100000 in
theorem rxYcPU : bx_chkH rxYBPU rxM268 rxCPU rxYPU (rxUPU, fun cut z => rx_ex2 (rxCT rxYBPU rxCnE) cut 30000 rxCPU.2.2.2.1 268 z) = true := by decide +kernel
def rxIPU (S0 : Nat → Int → Int) (ws : List Int) (i : Nat) : bx_SP := fun S r => match i with | 0 => rxIPU_0 S0 ws S (r 8) (r 9) | 1 => rxIPU_1 S0 ws S (r 8) (r 9) (r 10) (r 11) | _ => False
def rxmPU (S0 : Nat → Int → Int) (ws : List Int) (i : Nat) (S : Nat → Int → Int) (r : Nat → Int) : Nat := match i with | 0 => rxmPU_0 S0 ws S (r 8) (r 9) | 1 => rxmPU_1 S0 ws S (r 8) (r 9) (r 10) (r 11) | _ => 0
def rxPPU (S0 : Nat → Int → Int) (ws : List Int) : Prop := S0 480 24 ≤ 399
def rxPSPU (S0 : Nat → Int → Int) (ws : List Int) (S : Nat → Int → Int) (w : Option Int) : Prop := w = none ∧ ∃ op at_ : Int, ws = [480, op, at_] ∧ S = bx_up (bx_up (bx_up S0 489 (S0 480 24) op) 490 (S0 480 24) at_) 480 24 (S0 480 24 + 1)
theorem rxcPU_0_0 {S0 : Nat → Int → Int} {ws : List Int} {S : Nat → Int → Int} {op at_ x10 : Int} (hP : rxPPU S0 ws) (hin : bx_same rxL (bx_mdl rxCPU.2.2.1) S0 S) (I0 : bx_Inv rxL S) (hinv : rxIPU_0 S0 ws S op at_) (l8 : 0 ≤ op) (u8 : op ≤ 32) (l9 : 0 ≤ at_) (u9 : at_ ≤ 400) (l10 : 0 ≤ x10) (u10 : x10 ≤ 400) (e0 : S 480 24 = x10) : ((0 ≤ x10 ∧ x10 ≤ 399) ∧ (0 ≤ x10 ∧ x10 ≤ 399) ∧ True) ∧ (True) ∧ rxIPU_1 S0 ws S op at_ x10 x10 ∧ rxmPU_1 S0 ws S op at_ x10 x10 < rxmPU_0 S0 ws S op at_ := by
  obtain ⟨rfl, hw⟩ := hinv
  have hP : S 480 24 ≤ 399 := hP
  exact ⟨⟨by omega, by omega, trivial⟩, trivial, ⟨rfl, hw, e0.symm, rfl⟩, by unfold rxmPU_0 rxmPU_1; omega⟩
theorem rxgPU_0_0 {X : (Nat → Int → Int) → Prop} {S0 : Nat → Int → Int} {ws : List Int} (hP : rxPPU S0 ws) : bx_obC rxL X S0 rxCPU.2.2.1 (rxIPU S0 ws) (rxmPU S0 ws) 0 rxzPU_0 rxoPU_0_0 := by
  intro S S_p r r_p hinv hX hin hsm_ hseg
  obtain ⟨I0, I1, h0_, hr_, b_, f_, d_⟩ := bx_cl (evs := [(0, (0, 480), (0, 24), .inr (0, (10, 0)))]) (fvs := []) hseg (by decide +kernel) (by decide +kernel)
  have hinv : rxIPU_0 S0 ws S (r 8) (r 9) := hinv
  rw [← hr_ 8 (by decide), ← hr_ 9 (by decide)] at hinv
  obtain ⟨⟨l8, u8⟩, ⟨l9, u9⟩, ⟨l10, u10⟩, -⟩ := b_
  obtain ⟨e0, w_⟩ := d_
  subst w_
  have g := rxcPU_0_0 hP hin I0 hinv l8 u8 l9 u9 l10 u10 e0
  refine ⟨bx_narP_ok (l := [(10, 0, 399), (10, 0, 399)]) g.1, bx_nfP_ok h0_ (fvs := []) (by decide +kernel) g.2.1, ?_, ?_⟩
  · show rxIPU_1 S0 ws S_p (bx_val [(0, 0), (0, 0), (0, 0), (0, 0), (0, 0), (0, 0), (0, 0), (0, 0), (8, 0), (9, 0), (10, 0), (10, 0)] r_p 8) (bx_val [(0, 0), (0, 0), (0, 0), (0, 0), (0, 0), (0, 0), (0, 0), (0, 0), (8, 0), (9, 0), (10, 0), (10, 0)] r_p 9) (bx_val [(0, 0), (0, 0), (0, 0), (0, 0), (0, 0), (0, 0), (0, 0), (0, 0), (8, 0), (9, 0), (10, 0), (10, 0)] r_p 10) (bx_val [(0, 0), (0, 0), (0, 0), (0, 0), (0, 0), (0, 0), (0, 0), (0, 0), (8, 0), (9, 0), (10, 0), (10, 0)] r_p 11)
    rw [bx_val_x (n := 8) (e := (8, 0)) h0_ rfl, bx_val_x (n := 9) (e := (9, 0)) h0_ rfl, bx_val_x (n := 10) (e := (10, 0)) h0_ rfl, bx_val_x (n := 11) (e := (10, 0)) h0_ rfl]
    exact g.2.2.1
  · show rxmPU_1 S0 ws S_p (bx_val [(0, 0), (0, 0), (0, 0), (0, 0), (0, 0), (0, 0), (0, 0), (0, 0), (8, 0), (9, 0), (10, 0), (10, 0)] r_p 8) (bx_val [(0, 0), (0, 0), (0, 0), (0, 0), (0, 0), (0, 0), (0, 0), (0, 0), (8, 0), (9, 0), (10, 0), (10, 0)] r_p 9) (bx_val [(0, 0), (0, 0), (0, 0), (0, 0), (0, 0), (0, 0), (0, 0), (0, 0), (8, 0), (9, 0), (10, 0), (10, 0)] r_p 10) (bx_val [(0, 0), (0, 0), (0, 0), (0, 0), (0, 0), (0, 0), (0, 0), (0, 0), (8, 0), (9, 0), (10, 0), (10, 0)] r_p 11) < rxmPU_0 S0 ws S_p (r 8) (r 9)
    rw [bx_val_x (n := 8) (e := (8, 0)) h0_ rfl, bx_val_x (n := 9) (e := (9, 0)) h0_ rfl, bx_val_x (n := 10) (e := (10, 0)) h0_ rfl, bx_val_x (n := 11) (e := (10, 0)) h0_ rfl, ← hr_ 8 (by decide), ← hr_ 9 (by decide)]
    exact g.2.2.2
theorem rxdPU_1_0 {S0 : Nat → Int → Int} {ws : List Int} {S : Nat → Int → Int} {op at_ n n2 : Int} (hP : rxPPU S0 ws) (hin : bx_same rxL (bx_mdl rxCPU.2.2.1) S0 S) (hin2 : bx_same rxL (bx_mdl rxCPU.2.2.1) S (bx_up (bx_up (bx_up S 489 n op) 490 n2 at_) 480 24 (n2 + 1))) (I0 : bx_Inv rxL S) (I1 : bx_Inv rxL (bx_up (bx_up (bx_up S 489 n op) 490 n2 at_) 480 24 (n2 + 1))) (hinv : rxIPU_1 S0 ws S op at_ n n2) (l8 : 0 ≤ op) (u8 : op ≤ 32) (l9 : 0 ≤ at_) (u9 : at_ ≤ 400) (l10 : 0 ≤ n) (u10 : n ≤ 399) (l11 : 0 ≤ n2) (u11 : n2 ≤ 399) : (True) ∧ rxPSPU S0 ws (bx_up (bx_up (bx_up S 489 n op) 490 n2 at_) 480 24 (n2 + 1)) none := by
  obtain ⟨rfl, hw, h1, h2⟩ := hinv
  exact ⟨trivial, rfl, op, at_, hw, by rw [← h1, h2]⟩
theorem rxfPU_1_0 {X : (Nat → Int → Int) → Prop} {S0 : Nat → Int → Int} {ws : List Int} (hP : rxPPU S0 ws) : bx_obE rxL X S0 rxCPU.2.2.1 (rxIPU S0 ws) (rxPSPU S0 ws) 1 rxzPU_1 rxePU_1_0 := by
  intro S S_p r r_p hinv hX hin hsm_ hseg
  obtain ⟨I0, I1, h0_, hr_, b_, f_, d_⟩ := bx_cl (evs := [(1, (0, 480), (0, 24), .inr (0, (11, 1))), (1, (0, 490), (11, 0), .inr (0, (9, 0))), (1, (0, 489), (10, 0), .inr (0, (8, 0)))]) (fvs := []) hseg (by decide +kernel) (by decide +kernel)
  have hinv : rxIPU_1 S0 ws S (r 8) (r 9) (r 10) (r 11) := hinv
  rw [← hr_ 8 (by decide), ← hr_ 9 (by decide), ← hr_ 10 (by decide), ← hr_ 11 (by decide)] at hinv
  obtain ⟨⟨l8, u8⟩, ⟨l9, u9⟩, ⟨l10, u10⟩, ⟨l11, u11⟩, -⟩ := b_
  obtain ⟨T0, ⟨T1, ⟨T2, w_, w2⟩, w1⟩, w0⟩ := d_
  subst w0
  subst w1
  subst w2
  subst w_
  have g := rxdPU_1_0 hP hin hsm_ I0 I1 hinv l8 u8 l9 u9 l10 u10 l11 u11
  refine ⟨bx_narP_ok (l := []) g.1, ?_⟩
  exact g.2
theorem rxgCPU {X : (Nat → Int → Int) → Prop} {S0 : Nat → Int → Int} {ws : List Int} (hP : rxPPU S0 ws) : bx_allI (fun i q => rxUPU q = true ∨ bx_allP (fun o => bx_obC rxL X S0 rxCPU.2.2.1 (rxIPU S0 ws) (rxmPU S0 ws) i q.1 o) q.2.1) 0 rxYPU := ⟨Or.inr ⟨rxgPU_0_0 hP, trivial⟩, Or.inr trivial, trivial⟩
theorem rxgEPU {X : (Nat → Int → Int) → Prop} {S0 : Nat → Int → Int} {ws : List Int} (hP : rxPPU S0 ws) : bx_allI (fun i q => rxUPU q = true ∨ bx_allP (fun E => bx_obE rxL X S0 rxCPU.2.2.1 (rxIPU S0 ws) (rxPSPU S0 ws) i q.1 E) q.2.2) 0 rxYPU := ⟨Or.inr trivial, Or.inr ⟨rxfPU_1_0 hP, trivial⟩, trivial⟩
theorem rxQPU {PX : State → Prop} {Dg : va_G} {A : Nat → Prop} {ad xa : Nat → Nat} {l : Launch} {X : (Nat → Int → Int) → Prop} (hPX : rx_PXOK rxNW A PX) (hsl : ∀ s : State, PX s → ∀ o idx n : Nat, rxSl o idx = some n → ∃ tx : String, vk_R (rxNm o) idx tx (ad n) s)
    (hX : ∀ S S_p : Nat → Int → Int, X S → bx_same rxL (bx_mdl rxCPU.2.2.1) S S_p → X S_p)
    (ih : ∀ (j2 : Nat) (ct2 : bx_Ct) (M2 : rx_Mt), ct2 ∈ rxCnE j2 → ct2.2.2.2.1 + 1 ≤ rxCPU.2.2.2.1 → rxT.2.2.2.2.2 j2 = some M2 → bx_Con rxG rxNW rxAO PX Dg rxL X vwCl A ad l M2 ct2) : bx_ConP rxG rxNW rxAO PX Dg rxL X vwCl A ad l rxM268 rxCPU rxPPU rxPSPU :=
  rxQof (xa := xa) (Cn := rxCnE) (f := 30000) (j := 268) (tab := rxYPU) (us := rxUPU) hPX hsl hX ih rfl rxYcPU rxIPU rxmPU
    (fun S0 ws r I0 I ht0 ht as he he1 hX0 hI0 hP hs ha => by
      have e := he.symm.trans (show bx_ent0 rxNP rxCPU.1 bx_I0 [] = some ([(0, 0), (0, 0), (0, 0), (0, 0), (0, 0), (0, 0), (0, 0), (0, 0), (0, 32), (0, 400)], [], [.inr (3, (0, 480)), .inr (0, (8, 0)), .inr (0, (9, 0))]) from rfl)
      cases e
      subst ha
      have h0 : r 0 = 0 := hs.1
      show rxIPU_0 S0 _ S0 (r 8) (r 9)
      refine ⟨rfl, ?_⟩
      simp only [List.map_cons, List.map_nil, bx_xv_ok h0]
      rfl)
    (fun S0 ws hP => fun i q hq hus => absurd (show false = true from hus) Bool.false_ne_true) (fun S0 ws hP => rxgCPU hP) (fun S0 ws hP => rxgEPU hP)
