/-! CONTRACT BY HAND, by program (wip/sim/genhand.py): DeadUnderstudiesModel.forget -/
def rxI196_0 (S0 : Nat → Int → Int) (ws : List Int) (S : Nat → Int → Int) : Prop := S = S0 ∧ ws = [480]
def rxm196_0 (S0 : Nat → Int → Int) (ws : List Int) (S : Nat → Int → Int) : Nat := 100
def rxz196_0 : rx_Z := ([(0, 0), (0, 0), (0, 0), (0, 0), (0, 0), (0, 0), (0, 0), (0, 0)], [], [], 0, 0, 0, [(0, .inr (3, (0, 480)))], [])
def rxe196_0_0 : rx_End × List (Nat × Int × Int) := (([(0, 0), (0, 0), (0, 0), (0, 0), (0, 0), (0, 0), (0, 0), (0, 0), (0, 12)], [], [(((0, 0), 1851192626986356798628580571097672967753946801749054699160600579000000), .inr (0, (0, 0))), (((0, 482), 6), .inr (0, (0, 0))), (((0, 0), 1851192626986356798628580571097672967753946801749054699160600576000000), .inr (0, (8, 0))), (((0, 480), 3), .inr (3, (0, 482))), (((0, 0), 1851192626986356797424340330377019318111018015026043177836478467000000), .inr (0, (0, 0))), (((0, 480), 0), .inr (0, (0, 0)))], some (.inr (0, (8, 0)))), [])
def rxY196 : List bx_HE := [(rxz196_0, [], [rxe196_0_0])]
def rxU196 (q : bx_HE) : Bool := false
def rxYB196 : bx_B := (rxV, rxNP, rxDmf, bx_mdH rxC196.2.2.1)
set_option maxRecDepth 100000 in
theorem rxYc196 : bx_chkH rxYB196 rxM196 rxC196 rxY196 (rxU196, fun cut z => rx_ex2 (rxCT rxYB196 rxCnE) cut 30000 rxC196.2.2.2.1 196 z) = true := by decide +kernel
def rxI196 (S0 : Nat → Int → Int) (ws : List Int) (i : Nat) : bx_SP := fun S r => match i with | 0 => rxI196_0 S0 ws S | _ => False
def rxm196 (S0 : Nat → Int → Int) (ws : List Int) (i : Nat) (S : Nat → Int → Int) (r : Nat → Int) : Nat := match i with | 0 => rxm196_0 S0 ws S | _ => 0
def rxP196 (S0 : Nat → Int → Int) (ws : List Int) : Prop := True
def rxPS196 (S0 : Nat → Int → Int) (ws : List Int) (S : Nat → Int → Int) (w : Option Int) : Prop := ws = [480] ∧ ((w = some (S0 482 6) ∧ S 482 6 = 0))
theorem rxd196_0_0 {S0 : Nat → Int → Int} {ws : List Int} {S : Nat → Int → Int} {x8 : Int} (hP : rxP196 S0 ws) (hin : bx_same rxL (bx_mdl rxC196.2.2.1) S0 S) (hin2 : bx_same rxL (bx_mdl rxC196.2.2.1) S (bx_up (bx_up S 480 0 0) 482 6 0)) (I0 : bx_Inv rxL S) (I1 : bx_Inv rxL (bx_up (bx_up S 480 0 0) 482 6 0)) (hinv : rxI196_0 S0 ws S) (l8 : 0 ≤ x8) (u8 : x8 ≤ 12) (e1 : (bx_up S 480 0 0) 482 6 = x8) : (True) ∧ rxPS196 S0 ws (bx_up (bx_up S 480 0 0) 482 6 0) (some x8) := by
  obtain ⟨rfl, hw⟩ := hinv
  have e1 := (show _ = S 482 6 from (bx_up_ne (by omega))).symm.trans e1
  refine ⟨trivial, hw, ⟨?_, (bx_up_at).trans (by omega)⟩⟩ <;> first | omega | exact hin2 | exact congrArg some (by omega) | (intro i i0 i1; simp only [bx_up]; (repeat' split) <;> first | rfl | omega | (simp_all; done) | (simp_all; omega)) | ((repeat (first | rw [bx_up_at] | rw [bx_up_ne (by omega)])); omega) | exact True.intro
theorem rxf196_0_0 {X : (Nat → Int → Int) → Prop} {S0 : Nat → Int → Int} {ws : List Int} (hP : rxP196 S0 ws) : bx_obE rxL X S0 rxC196.2.2.1 (rxI196 S0 ws) (rxPS196 S0 ws) 0 rxz196_0 rxe196_0_0 := by
  intro S S' r r' hinv hX hin hsm_ hseg
  obtain ⟨I0, I1, h0_, hr_, b_, f_, d_⟩ := bx_cl (evs := [(1, (0, 482), (0, 6), .inr (0, (0, 0))), (0, (0, 482), (0, 6), .inr (0, (8, 0))), (1, (0, 480), (0, 0), .inr (0, (0, 0)))]) (fvs := []) hseg (by decide +kernel) (by decide +kernel)
  have hinv : rxI196_0 S0 ws S := hinv
  obtain ⟨⟨l8, u8⟩, -⟩ := b_
  obtain ⟨T0, ⟨e1, ⟨T2, w_, w2⟩⟩, w0⟩ := d_
  subst w0
  subst w2
  subst w_
  have g := rxd196_0_0 hP hin hsm_ I0 I1 hinv l8 u8 e1
  refine ⟨bx_narP_ok (l := []) g.1, ?_⟩
  show rxPS196 S0 ws (bx_up (bx_up T2 480 (0) (0)) 482 (6) (0)) (some (bx_num r' (.inr (0, (8, 0)))))
  rw [bx_xv_ok h0_]
  exact g.2
theorem rxgC196 {X : (Nat → Int → Int) → Prop} {S0 : Nat → Int → Int} {ws : List Int} (hP : rxP196 S0 ws) : bx_allI (fun i q => rxU196 q = true ∨ bx_allP (fun o => bx_obC rxL X S0 rxC196.2.2.1 (rxI196 S0 ws) (rxm196 S0 ws) i q.1 o) q.2.1) 0 rxY196 := ⟨Or.inr trivial, trivial⟩
theorem rxgE196 {X : (Nat → Int → Int) → Prop} {S0 : Nat → Int → Int} {ws : List Int} (hP : rxP196 S0 ws) : bx_allI (fun i q => rxU196 q = true ∨ bx_allP (fun E => bx_obE rxL X S0 rxC196.2.2.1 (rxI196 S0 ws) (rxPS196 S0 ws) i q.1 E) q.2.2) 0 rxY196 := ⟨Or.inr ⟨rxf196_0_0 hP, trivial⟩, trivial⟩
theorem rxQ196 {PX : State → Prop} {Dg : va_G} {A : Nat → Prop} {ad xa : Nat → Nat} {l : Launch} {X : (Nat → Int → Int) → Prop} (hPX : rx_PXOK rxNW A PX) (hsl : ∀ s : State, PX s → ∀ o idx n : Nat, rxSl o idx = some n → ∃ tx : String, vk_R (rxNm o) idx tx (ad n) s)
    (hX : ∀ S S' : Nat → Int → Int, X S → bx_same rxL (bx_mdl rxC196.2.2.1) S S' → X S')
    (ih : ∀ (j2 : Nat) (ct2 : bx_Ct) (M2 : rx_Mt), ct2 ∈ rxCnE j2 → ct2.2.2.2.1 + 1 ≤ rxC196.2.2.2.1 → rxT.2.2.2.2.2 j2 = some M2 → bx_Con rxG rxNW rxAO PX Dg rxL X vwCl A ad l M2 ct2) : bx_ConP rxG rxNW rxAO PX Dg rxL X vwCl A ad l rxM196 rxC196 rxP196 rxPS196 :=
  rxQof (xa := xa) (Cn := rxCnE) (f := 30000) (j := 196) (tab := rxY196) (us := rxU196) hPX hsl hX ih rfl rxYc196 rxI196 rxm196
    (fun S0 ws r I0 I ht0 ht as he he1 hX0 hI0 hP hs ha => by
      have e := he.symm.trans (show bx_ent0 rxNP rxC196.1 bx_I0 [] = some ([(0, 0), (0, 0), (0, 0), (0, 0), (0, 0), (0, 0), (0, 0), (0, 0)], [], [.inr (3, (0, 480))]) from rfl)
      cases e
      subst ha
      have h0 : r 0 = 0 := hs.1
      show rxI196_0 S0 _ S0
      refine ⟨rfl, ?_⟩
      simp only [List.map_cons, List.map_nil, bx_xv_ok h0]
      rfl)
    (fun S0 ws hP => fun i q hq hus => absurd (show false = true from hus) Bool.false_ne_true) (fun S0 ws hP => rxgC196 hP) (fun S0 ws hP => rxgE196 hP)
set_option maxHeartbeats 1000000 in
theorem rzQ196 {PX : State → Prop} {Dg : va_G} {A : Nat → Prop} {ad : Nat → Nat} {l : Launch} (hPX : rx_PXOK rxNW A PX) (hsl : ∀ s : State, PX s → ∀ o idx n : Nat, rxSl o idx = some n → ∃ tx : String, vk_R (rxNm o) idx tx (ad n) s) : bx_ConP rxG rxNW rxAO PX Dg rxL rxX vwCl A ad l rxM196 rxC196 (fun _ _ => True) rxPS196 := by
  have q196 := rxQ196 (PX := PX) (Dg := Dg) (A := A) (ad := ad) (xa := fun n => n) (l := l) (X := rxX) hPX hsl (fun _ _ h hm => rxX_of (by decide +kernel) h hm) (fun _ _ _ h => absurd h List.not_mem_nil)
  exact fun S0 ws h1 h2 h3 _ => q196 S0 ws h1 h2 h3 trivial
