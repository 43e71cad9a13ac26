/-! CONTRACT BY HAND, by program (wip/sim/genhand.py): DeadUnderstudiesModel.binds -/
def rxCBI : bx_Ct := ([(0, (0, 20, 24))], some (0, (0, 5, 6)), [], 0, [])
def rxIBI_0 (S0 : Nat → Int → Int) (ws : List Int) (S : Nat → Int → Int) (op : Int) : Prop := S = S0 ∧ ws = [op]
def rxmBI_0 (S0 : Nat → Int → Int) (ws : List Int) (S : Nat → Int → Int) (op : Int) : Nat := 100
def rxzBI_0 : rx_Z := ([(0, 0), (0, 0), (0, 0), (0, 0), (0, 0), (0, 0), (0, 0), (0, 0), (20, 24)], [], [], 0, 0, 0, [(0, .inr (0, (8, 0)))], [])
def rxeBI_0_0 : rx_End × List (Nat × Int × Int) := (([(0, 0), (0, 0), (0, 0), (0, 0), (0, 0), (0, 0), (0, 0), (0, 0), (22, 24)], [(3, (8, 0), (0, 28)), (3, (8, 0), (0, 29)), (3, (8, 0), (0, 30))], [], some (.inr (0, (0, 6)))), [])
def rxeBI_0_1 : rx_End × List (Nat × Int × Int) := (([(0, 0), (0, 0), (0, 0), (0, 0), (0, 0), (0, 0), (0, 0), (0, 0), (20, 21)], [(3, (8, 0), (0, 28)), (3, (8, 0), (0, 29)), (3, (8, 0), (0, 30))], [], some (.inr (0, (0, 5)))), [])
def rxYBI : List bx_HE := [(rxzBI_0, [], [rxeBI_0_0, rxeBI_0_1])]
def rxUBI (q : bx_HE) : Bool := false
def rxYBBI : bx_B := (rxV, rxNP, rxDmf, bx_mdH rxCBI.2.2.1)
set_option maxRecDepth 100000 in
theorem rxYcBI : bx_chkH rxYBBI rxM24 rxCBI rxYBI (rxUBI, fun cut z => rx_ex2 (rxCT rxYBBI rxCnE) cut 30000 rxCBI.2.2.2.1 24 z) = true := by decide +kernel
def rxIBI (S0 : Nat → Int → Int) (ws : List Int) (i : Nat) : bx_SP := fun S r => match i with | 0 => rxIBI_0 S0 ws S (r 8) | _ => False
def rxmBI (S0 : Nat → Int → Int) (ws : List Int) (i : Nat) (S : Nat → Int → Int) (r : Nat → Int) : Nat := match i with | 0 => rxmBI_0 S0 ws S (r 8) | _ => 0
def rxPBI (S0 : Nat → Int → Int) (ws : List Int) : Prop := True
def rxPSBI (S0 : Nat → Int → Int) (ws : List Int) (S : Nat → Int → Int) (w : Option Int) : Prop := S = S0
theorem rxdBI_0_0 {S0 : Nat → Int → Int} {ws : List Int} {S : Nat → Int → Int} {op : Int} (hP : rxPBI S0 ws) (hin : bx_same rxL (bx_mdl rxCBI.2.2.1) S0 S) (hin2 : bx_same rxL (bx_mdl rxCBI.2.2.1) S S) (I0 : bx_Inv rxL S) (I1 : bx_Inv rxL S) (hinv : rxIBI_0 S0 ws S op) (l8 : 22 ≤ op) (u8 : op ≤ 24) (f0 : op ≠ 28) (f1 : op ≠ 29) (f2 : op ≠ 30) : (True) ∧ rxPSBI S0 ws S (some 6) := by
  exact ⟨trivial, hinv.1⟩
theorem rxfBI_0_0 {X : (Nat → Int → Int) → Prop} {S0 : Nat → Int → Int} {ws : List Int} (hP : rxPBI S0 ws) : bx_obE rxL X S0 rxCBI.2.2.1 (rxIBI S0 ws) (rxPSBI S0 ws) 0 rxzBI_0 rxeBI_0_0 := by
  intro S S_p r r_p hinv hX hin hsm_ hseg
  obtain ⟨I0, I1, h0_, hr_, b_, f_, d_⟩ := bx_cl (evs := []) (fvs := [(3, (8, 0), (0, 28), (0, 0)), (3, (8, 0), (0, 29), (0, 0)), (3, (8, 0), (0, 30), (0, 0))]) hseg (by decide +kernel) (by decide +kernel)
  have hinv : rxIBI_0 S0 ws S (r 8) := hinv
  rw [← hr_ 8 (by decide)] at hinv
  obtain ⟨⟨l8, u8⟩, -⟩ := b_
  obtain ⟨f0, f1, f2, -⟩ := f_
  have w_ := d_
  subst w_
  have g := rxdBI_0_0 hP hin hsm_ I0 I1 hinv l8 u8 f0 f1 f2
  refine ⟨bx_narP_ok (l := []) g.1, ?_⟩
  show rxPSBI S0 ws S_p (some (bx_num r_p (.inr (0, (0, 6)))))
  rw [bx_xv_ok h0_]
  exact g.2
theorem rxdBI_0_1 {S0 : Nat → Int → Int} {ws : List Int} {S : Nat → Int → Int} {op : Int} (hP : rxPBI S0 ws) (hin : bx_same rxL (bx_mdl rxCBI.2.2.1) S0 S) (hin2 : bx_same rxL (bx_mdl rxCBI.2.2.1) S S) (I0 : bx_Inv rxL S) (I1 : bx_Inv rxL S) (hinv : rxIBI_0 S0 ws S op) (l8 : 20 ≤ op) (u8 : op ≤ 21) (f0 : op ≠ 28) (f1 : op ≠ 29) (f2 : op ≠ 30) : (True) ∧ rxPSBI S0 ws S (some 5) := by
  exact ⟨trivial, hinv.1⟩
theorem rxfBI_0_1 {X : (Nat → Int → Int) → Prop} {S0 : Nat → Int → Int} {ws : List Int} (hP : rxPBI S0 ws) : bx_obE rxL X S0 rxCBI.2.2.1 (rxIBI S0 ws) (rxPSBI S0 ws) 0 rxzBI_0 rxeBI_0_1 := by
  intro S S_p r r_p hinv hX hin hsm_ hseg
  obtain ⟨I0, I1, h0_, hr_, b_, f_, d_⟩ := bx_cl (evs := []) (fvs := [(3, (8, 0), (0, 28), (0, 0)), (3, (8, 0), (0, 29), (0, 0)), (3, (8, 0), (0, 30), (0, 0))]) hseg (by decide +kernel) (by decide +kernel)
  have hinv : rxIBI_0 S0 ws S (r 8) := hinv
  rw [← hr_ 8 (by decide)] at hinv
  obtain ⟨⟨l8, u8⟩, -⟩ := b_
  obtain ⟨f0, f1, f2, -⟩ := f_
  have w_ := d_
  subst w_
  have g := rxdBI_0_1 hP hin hsm_ I0 I1 hinv l8 u8 f0 f1 f2
  refine ⟨bx_narP_ok (l := []) g.1, ?_⟩
  show rxPSBI S0 ws S_p (some (bx_num r_p (.inr (0, (0, 5)))))
  rw [bx_xv_ok h0_]
  exact g.2
theorem rxgCBI {X : (Nat → Int → Int) → Prop} {S0 : Nat → Int → Int} {ws : List Int} (hP : rxPBI S0 ws) : bx_allI (fun i q => rxUBI q = true ∨ bx_allP (fun o => bx_obC rxL X S0 rxCBI.2.2.1 (rxIBI S0 ws) (rxmBI S0 ws) i q.1 o) q.2.1) 0 rxYBI := ⟨Or.inr trivial, trivial⟩
theorem rxgEBI {X : (Nat → Int → Int) → Prop} {S0 : Nat → Int → Int} {ws : List Int} (hP : rxPBI S0 ws) : bx_allI (fun i q => rxUBI q = true ∨ bx_allP (fun E => bx_obE rxL X S0 rxCBI.2.2.1 (rxIBI S0 ws) (rxPSBI S0 ws) i q.1 E) q.2.2) 0 rxYBI := ⟨Or.inr ⟨rxfBI_0_0 hP, rxfBI_0_1 hP, trivial⟩, trivial⟩
theorem rxQBI {PX : State → Prop} {Dg : va_G} {A : Nat → Prop} {ad xa : Nat → Nat} {l : Launch} {X : (Nat → Int → Int) → Prop} (hPX : rx_PXOK rxNW A PX) (hsl : ∀ s : State, PX s → ∀ o idx n : Nat, rxSl o idx = some n → ∃ tx : String, vk_R (rxNm o) idx tx (ad n) s)
    (hX : ∀ S S_p : Nat → Int → Int, X S → bx_same rxL (bx_mdl rxCBI.2.2.1) S S_p → X S_p)
    (ih : ∀ (j2 : Nat) (ct2 : bx_Ct) (M2 : rx_Mt), ct2 ∈ rxCnE j2 → ct2.2.2.2.1 + 1 ≤ rxCBI.2.2.2.1 → rxT.2.2.2.2.2 j2 = some M2 → bx_Con rxG rxNW rxAO PX Dg rxL X vwCl A ad l M2 ct2) : bx_ConP rxG rxNW rxAO PX Dg rxL X vwCl A ad l rxM24 rxCBI rxPBI rxPSBI :=
  rxQof (xa := xa) (Cn := rxCnE) (f := 30000) (j := 24) (tab := rxYBI) (us := rxUBI) hPX hsl hX ih rfl rxYcBI rxIBI rxmBI
    (fun S0 ws r I0 I ht0 ht as he he1 hX0 hI0 hP hs ha => by
      have e := he.symm.trans (show bx_ent0 rxNP rxCBI.1 bx_I0 [] = some ([(0, 0), (0, 0), (0, 0), (0, 0), (0, 0), (0, 0), (0, 0), (0, 0), (20, 24)], [], [.inr (0, (8, 0))]) from rfl)
      cases e
      subst ha
      have h0 : r 0 = 0 := hs.1
      show rxIBI_0 S0 _ S0 (r 8)
      refine ⟨rfl, ?_⟩
      simp only [List.map_cons, List.map_nil, bx_xv_ok h0]
      rfl)
    (fun S0 ws hP => fun i q hq hus => absurd (show false = true from hus) Bool.false_ne_true) (fun S0 ws hP => rxgCBI hP) (fun S0 ws hP => rxgEBI hP)
