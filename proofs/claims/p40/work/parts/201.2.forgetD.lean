/-! CONTRACT BY HAND, by program (wip/sim/genhand.py): DeadUnderstudies.forget -/
def rxI195_0 (S0 : Nat → Int → Int) (ws : List Int) (S : Nat → Int → Int) : Prop := S = S0 ∧ ws = [0]
def rxm195_0 (S0 : Nat → Int → Int) (ws : List Int) (S : Nat → Int → Int) : Nat := 100
def rxz195_0 : rx_Z := ([(0, 0), (0, 0), (0, 0), (0, 0), (0, 0), (0, 0), (0, 0), (0, 0)], [], [], 0, 0, 0, [(0, .inr (3, (0, 0)))], [])
def rxe195_0_0 : rx_End × List (Nat × Int × Int) := (([(0, 0), (0, 0), (0, 0), (0, 0), (0, 0), (0, 0), (0, 0), (0, 0), (0, 12)], [], [(((0, 0), 1851192626986356797424340330377019318111018015026043177561620483000000), .inr (0, (0, 0))), (((0, 14), 0), .inr (0, (0, 0))), (((0, 0), 1851192626986356797424340330377019318111018015026043177561620480000000), .inr (0, (8, 0))), (((0, 1), 12), .inr (3, (0, 14))), (((0, 0), 0), .inr (3, (0, 1)))], some (.inr (0, (8, 0)))), [])
def rxY195 : List bx_HE := [(rxz195_0, [], [rxe195_0_0])]
def rxU195 (q : bx_HE) : Bool := false
def rxYB195 : bx_B := (rxV, rxNP, rxDmf, bx_mdH rxC195.2.2.1)
set_option maxRecDepth 100000 in
theorem rxYc195 : bx_chkH rxYB195 rxM195 rxC195 rxY195 (rxU195, fun cut z => rx_ex2 (rxCT rxYB195 rxCnE) cut 30000 rxC195.2.2.2.1 195 z) = true := by decide +kernel
def rxI195 (S0 : Nat → Int → Int) (ws : List Int) (i : Nat) : bx_SP := fun S r => match i with | 0 => rxI195_0 S0 ws S | _ => False
def rxm195 (S0 : Nat → Int → Int) (ws : List Int) (i : Nat) (S : Nat → Int → Int) (r : Nat → Int) : Nat := match i with | 0 => rxm195_0 S0 ws S | _ => 0
def rxP195 (S0 : Nat → Int → Int) (ws : List Int) : Prop := True
def rxPS195 (S0 : Nat → Int → Int) (ws : List Int) (S : Nat → Int → Int) (w : Option Int) : Prop := ws = [0] ∧ ((w = some (S0 14 0) ∧ S 14 0 = 0 ∧ S 151 0 = S0 151 0 ∧ S 287 0 = S0 287 0))
theorem rxd195_0_0 {S0 : Nat → Int → Int} {ws : List Int} {S : Nat → Int → Int} {x8 : Int} (hP : rxP195 S0 ws) (hin : bx_same rxL (bx_mdl rxC195.2.2.1) S0 S) (hin2 : bx_same rxL (bx_mdl rxC195.2.2.1) S (bx_up S 14 0 0)) (I0 : bx_Inv rxL S) (I1 : bx_Inv rxL (bx_up S 14 0 0)) (hinv : rxI195_0 S0 ws S) (l8 : 0 ≤ x8) (u8 : x8 ≤ 12) (e1 : S 14 0 = x8) : (True) ∧ rxPS195 S0 ws (bx_up S 14 0 0) (some x8) := by
  obtain ⟨rfl, hw⟩ := hinv
  refine ⟨trivial, hw, ⟨?_, (bx_up_at).trans (by omega), (bx_up_ne (by omega)), (bx_up_ne (by omega))⟩⟩ <;> first | omega | exact hin2 | exact congrArg some (by omega) | (intro i i0 i1; simp only [bx_up]; (repeat' split) <;> first | rfl | omega | (simp_all; done) | (simp_all; omega)) | ((repeat (first | rw [bx_up_at] | rw [bx_up_ne (by omega)])); omega) | exact True.intro
theorem rxf195_0_0 {X : (Nat → Int → Int) → Prop} {S0 : Nat → Int → Int} {ws : List Int} (hP : rxP195 S0 ws) : bx_obE rxL X S0 rxC195.2.2.1 (rxI195 S0 ws) (rxPS195 S0 ws) 0 rxz195_0 rxe195_0_0 := by
  intro S S' r r' hinv hX hin hsm_ hseg
  obtain ⟨I0, I1, h0_, hr_, b_, f_, d_⟩ := bx_cl (evs := [(1, (0, 14), (0, 0), .inr (0, (0, 0))), (0, (0, 14), (0, 0), .inr (0, (8, 0)))]) (fvs := []) hseg (by decide +kernel) (by decide +kernel)
  have hinv : rxI195_0 S0 ws S := hinv
  obtain ⟨⟨l8, u8⟩, -⟩ := b_
  obtain ⟨T0, ⟨e1, w_⟩, w0⟩ := d_
  subst w0
  subst w_
  have g := rxd195_0_0 hP hin hsm_ I0 I1 hinv l8 u8 e1
  refine ⟨bx_narP_ok (l := []) g.1, ?_⟩
  show rxPS195 S0 ws (bx_up T0 14 (0) (0)) (some (bx_num r' (.inr (0, (8, 0)))))
  rw [bx_xv_ok h0_]
  exact g.2
theorem rxgC195 {X : (Nat → Int → Int) → Prop} {S0 : Nat → Int → Int} {ws : List Int} (hP : rxP195 S0 ws) : bx_allI (fun i q => rxU195 q = true ∨ bx_allP (fun o => bx_obC rxL X S0 rxC195.2.2.1 (rxI195 S0 ws) (rxm195 S0 ws) i q.1 o) q.2.1) 0 rxY195 := ⟨Or.inr trivial, trivial⟩
theorem rxgE195 {X : (Nat → Int → Int) → Prop} {S0 : Nat → Int → Int} {ws : List Int} (hP : rxP195 S0 ws) : bx_allI (fun i q => rxU195 q = true ∨ bx_allP (fun E => bx_obE rxL X S0 rxC195.2.2.1 (rxI195 S0 ws) (rxPS195 S0 ws) i q.1 E) q.2.2) 0 rxY195 := ⟨Or.inr ⟨rxf195_0_0 hP, trivial⟩, trivial⟩
theorem rxQ195 {PX : State → Prop} {Dg : va_G} {A : Nat → Prop} {ad xa : Nat → Nat} {l : Launch} {X : (Nat → Int → Int) → Prop} (hPX : rx_PXOK rxNW A PX) (hsl : ∀ s : State, PX s → ∀ o idx n : Nat, rxSl o idx = some n → ∃ tx : String, vk_R (rxNm o) idx tx (ad n) s)
    (hX : ∀ S S' : Nat → Int → Int, X S → bx_same rxL (bx_mdl rxC195.2.2.1) S S' → X S')
    (ih : ∀ (j2 : Nat) (ct2 : bx_Ct) (M2 : rx_Mt), ct2 ∈ rxCnE j2 → ct2.2.2.2.1 + 1 ≤ rxC195.2.2.2.1 → rxT.2.2.2.2.2 j2 = some M2 → bx_Con rxG rxNW rxAO PX Dg rxL X vwCl A ad l M2 ct2) : bx_ConP rxG rxNW rxAO PX Dg rxL X vwCl A ad l rxM195 rxC195 rxP195 rxPS195 :=
  rxQof (xa := xa) (Cn := rxCnE) (f := 30000) (j := 195) (tab := rxY195) (us := rxU195) hPX hsl hX ih rfl rxYc195 rxI195 rxm195
    (fun S0 ws r I0 I ht0 ht as he he1 hX0 hI0 hP hs ha => by
      have e := he.symm.trans (show bx_ent0 rxNP rxC195.1 bx_I0 [] = some ([(0, 0), (0, 0), (0, 0), (0, 0), (0, 0), (0, 0), (0, 0), (0, 0)], [], [.inr (3, (0, 0))]) from rfl)
      cases e
      subst ha
      have h0 : r 0 = 0 := hs.1
      show rxI195_0 S0 _ S0
      refine ⟨rfl, ?_⟩
      simp only [List.map_cons, List.map_nil, bx_xv_ok h0]
      rfl)
    (fun S0 ws hP => fun i q hq hus => absurd (show false = true from hus) Bool.false_ne_true) (fun S0 ws hP => rxgC195 hP) (fun S0 ws hP => rxgE195 hP)
set_option maxHeartbeats 1000000 in
theorem rzQ195 {PX : State → Prop} {Dg : va_G} {A : Nat → Prop} {ad : Nat → Nat} {l : Launch} (hPX : rx_PXOK rxNW A PX) (hsl : ∀ s : State, PX s → ∀ o idx n : Nat, rxSl o idx = some n → ∃ tx : String, vk_R (rxNm o) idx tx (ad n) s) (ih : ∀ (j : Nat) (ct : bx_Ct) (M : rx_Mt), ct ∈ rxCn j → rxT.2.2.2.2.2 j = some M → bx_Con rxG rxNW rxAO PX Dg rxL rxX vwCl A ad l M ct) : bx_ConP rxG rxNW rxAO PX Dg rxL rxX vwCl A ad l rxM195 rxC195 (fun _ _ => True) rxPS195 := by
  have q195 := rxQ195 (PX := PX) (Dg := Dg) (A := A) (ad := ad) (xa := fun n => n) (l := l) (X := rxX) hPX hsl (fun _ _ h hm => rxX_of (by decide +kernel) h hm) (fun _ _ _ h => absurd h List.not_mem_nil)
  exact fun S0 ws h1 h2 h3 _ => q195 S0 ws h1 h2 h3 trivial
