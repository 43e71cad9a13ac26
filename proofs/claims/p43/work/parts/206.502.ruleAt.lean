/-! CONTRACT BY HAND, by program (wip/sim/genhand.py): DeadUnderstudies$Least.ruleAt -/
def rxCLRA : bx_Ct := ([(0, (0, 0, 2)), (0, (0, 0, 5))], some (0, (0, 0, 17)), [], 0, [])
def rxILRA_0 (S0 : Nat → Int → Int) (ws : List Int) (S : Nat → Int → Int) (s c : Int) : Prop := S = S0 ∧ ws = [s, c]
def rxmLRA_0 (S0 : Nat → Int → Int) (ws : List Int) (S : Nat → Int → Int) (s c : Int) : Nat := 10
def rxzLRA_0 : rx_Z := ([(0, 0), (0, 0), (0, 0), (0, 0), (0, 0), (0, 0), (0, 0), (0, 0), (0, 2), (0, 5)], [], [], 0, 0, 0, [(0, .inr (0, (8, 0))), (1, .inr (0, (9, 0)))], [])
def rxeLRA_0_0 : rx_End × List (Nat × Int × Int) := (([(0, 0), (0, 0), (0, 0), (0, 0), (0, 0), (0, 0), (0, 0), (0, 0), (0, 2), (0, 5), (0, 12), (0, 17)], [(604462909807314587353097000000, (11, 0), (10, 0)), (10, (10, 0), (8, 0))], [], some (.inr (0, (11, 0)))), [])
def rxYLRA : List bx_HE := [(rxzLRA_0, [], [rxeLRA_0_0])]
def rxULRA (q : bx_HE) : Bool := false
def rxYBLRA : bx_B := (rxV, rxNP, rxDmf, bx_mdH rxCLRA.2.2.1)
set_option maxRecDepth 100000 in
theorem rxYcLRA : bx_chkH rxYBLRA rxM1 rxCLRA rxYLRA (rxULRA, fun cut z => rx_ex2 (rxCT rxYBLRA rxCnE) cut 30000 rxCLRA.2.2.2.1 1 z) = true := by decide +kernel
def rxILRA (S0 : Nat → Int → Int) (ws : List Int) (i : Nat) : bx_SP := fun S r => match i with | 0 => rxILRA_0 S0 ws S (r 8) (r 9) | _ => False
def rxmLRA (S0 : Nat → Int → Int) (ws : List Int) (i : Nat) (S : Nat → Int → Int) (r : Nat → Int) : Nat := match i with | 0 => rxmLRA_0 S0 ws S (r 8) (r 9) | _ => 0
def rxPLRA (S0 : Nat → Int → Int) (ws : List Int) : Prop := True
def rxPSLRA (S0 : Nat → Int → Int) (ws : List Int) (S : Nat → Int → Int) (w : Option Int) : Prop := S = S0 ∧ ∃ s c : Int, ws = [s, c] ∧ w = some (6 * s + c)
theorem rxdLRA_0_0 {S0 : Nat → Int → Int} {ws : List Int} {S : Nat → Int → Int} {s c x10 x11 : Int} (hP : rxPLRA S0 ws) (hin : bx_same rxL (bx_mdl rxCLRA.2.2.1) S0 S) (hin2 : bx_same rxL (bx_mdl rxCLRA.2.2.1) S S) (I0 : bx_Inv rxL S) (I1 : bx_Inv rxL S) (hinv : rxILRA_0 S0 ws S s c) (l8 : 0 ≤ s) (u8 : s ≤ 2) (l9 : 0 ≤ c) (u9 : c ≤ 5) (l10 : 0 ≤ x10) (u10 : x10 ≤ 12) (l11 : 0 ≤ x11) (u11 : x11 ≤ 17) (f0 : x11 = x10 + c) (f1 : x10 = 6 * (s)) : (True) ∧ rxPSLRA S0 ws S (some x11) := by
  obtain ⟨rfl, hw⟩ := hinv
  exact ⟨by first | trivial | exact ⟨⟨by omega, by omega⟩, trivial⟩, rfl, s, c, hw, congrArg some (by omega)⟩
theorem rxfLRA_0_0 {X : (Nat → Int → Int) → Prop} {S0 : Nat → Int → Int} {ws : List Int} (hP : rxPLRA S0 ws) : bx_obE rxL X S0 rxCLRA.2.2.1 (rxILRA S0 ws) (rxPSLRA S0 ws) 0 rxzLRA_0 rxeLRA_0_0 := by
  intro S S' r r' hinv hX hin hsm_ hseg
  obtain ⟨I0, I1, h0_, hr_, b_, f_, d_⟩ := bx_cl (evs := []) (fvs := [(5, (11, 0), (10, 0), (9, 0)), (4, (10, 0), (8, 0), (0, 6))]) hseg (by decide +kernel) (by decide +kernel)
  have hinv : rxILRA_0 S0 ws S (r 8) (r 9) := hinv
  rw [← hr_ 8 (by decide), ← hr_ 9 (by decide)] at hinv
  obtain ⟨⟨l8, u8⟩, ⟨l9, u9⟩, ⟨l10, u10⟩, ⟨l11, u11⟩, -⟩ := b_
  obtain ⟨f0, f1, -⟩ := f_
  have w_ := d_
  subst w_
  have g := rxdLRA_0_0 hP hin hsm_ I0 I1 hinv l8 u8 l9 u9 l10 u10 l11 u11 f0 f1
  refine ⟨bx_narP_ok (l := []) g.1, ?_⟩
  show rxPSLRA S0 ws S' (some (bx_num r' (.inr (0, (11, 0)))))
  rw [bx_xv_ok h0_]
  exact g.2
theorem rxgCLRA {X : (Nat → Int → Int) → Prop} {S0 : Nat → Int → Int} {ws : List Int} (hP : rxPLRA S0 ws) : bx_allI (fun i q => rxULRA q = true ∨ bx_allP (fun o => bx_obC rxL X S0 rxCLRA.2.2.1 (rxILRA S0 ws) (rxmLRA S0 ws) i q.1 o) q.2.1) 0 rxYLRA := ⟨Or.inr trivial, trivial⟩
theorem rxgELRA {X : (Nat → Int → Int) → Prop} {S0 : Nat → Int → Int} {ws : List Int} (hP : rxPLRA S0 ws) : bx_allI (fun i q => rxULRA q = true ∨ bx_allP (fun E => bx_obE rxL X S0 rxCLRA.2.2.1 (rxILRA S0 ws) (rxPSLRA S0 ws) i q.1 E) q.2.2) 0 rxYLRA := ⟨Or.inr ⟨rxfLRA_0_0 hP, trivial⟩, trivial⟩
theorem rxQLRA {PX : State → Prop} {Dg : va_G} {A : Nat → Prop} {ad xa : Nat → Nat} {l : Launch} {X : (Nat → Int → Int) → Prop} (hPX : rx_PXOK rxNW A PX) (hsl : ∀ s : State, PX s → ∀ o idx n : Nat, rxSl o idx = some n → ∃ tx : String, vk_R (rxNm o) idx tx (ad n) s)
    (hX : ∀ S S' : Nat → Int → Int, X S → bx_same rxL (bx_mdl rxCLRA.2.2.1) S S' → X S')
    (ih : ∀ (j2 : Nat) (ct2 : bx_Ct) (M2 : rx_Mt), ct2 ∈ rxCnE j2 → ct2.2.2.2.1 + 1 ≤ rxCLRA.2.2.2.1 → rxT.2.2.2.2.2 j2 = some M2 → bx_Con rxG rxNW rxAO PX Dg rxL X vwCl A ad l M2 ct2) : bx_ConP rxG rxNW rxAO PX Dg rxL X vwCl A ad l rxM1 rxCLRA rxPLRA rxPSLRA :=
  rxQof (xa := xa) (Cn := rxCnE) (f := 30000) (j := 1) (tab := rxYLRA) (us := rxULRA) hPX hsl hX ih rfl rxYcLRA rxILRA rxmLRA
    (fun S0 ws r I0 I ht0 ht as he he1 hX0 hI0 hP hs ha => by
      have e := he.symm.trans (show bx_ent0 rxNP rxCLRA.1 bx_I0 [] = some ([(0, 0), (0, 0), (0, 0), (0, 0), (0, 0), (0, 0), (0, 0), (0, 0), (0, 2), (0, 5)], [], [.inr (0, (8, 0)), .inr (0, (9, 0))]) from rfl)
      cases e
      subst ha
      have h0 : r 0 = 0 := hs.1
      show rxILRA_0 S0 _ S0 (r 8) (r 9)
      refine ⟨rfl, ?_⟩
      simp only [List.map_cons, List.map_nil, bx_xv_ok h0]
      rfl)
    (fun S0 ws hP => fun i q hq hus => absurd (show false = true from hus) Bool.false_ne_true) (fun S0 ws hP => rxgCLRA hP) (fun S0 ws hP => rxgELRA hP)
/-! LEAST, the developers': what their rows tell of the tree -/
theorem ldBx {S : Nat → Int → Int} (h : bx_Inv rxL S) {p n : Nat} {t : bx_T} (hk : ∀ i : Fin n, rxL.2.2.1 p (i.1 : Int) = t) (hp : p < 522) (hw : bx_wd (rxL.1 p) = n) {j : Int} (h0 : 0 ≤ j) (h1 : j < (n : Int)) : bx_okT rxL t (S p j) := by
  have q : rxL.2.2.1 p ((j.toNat : Nat) : Int) = t := hk ⟨j.toNat, by omega⟩
  rw [show ((j.toNat : Nat) : Int) = j by omega] at q
  exact rx_inv h hp hw h0 h1 q
theorem ld_ok {lo hi v : Int} (h : bx_okT rxL (0, lo, hi) v) : lo ≤ v ∧ v ≤ hi := h
theorem ld452 {S : Nat → Int → Int} (h : bx_Inv rxL S) {j : Int} (h0 : 0 ≤ j) (h1 : j < 12) : 0 ≤ S 452 j ∧ S 452 j ≤ 3 := ld_ok (ldBx h (p := 452) (n := 12) (t := (0, 0, 3)) (by decide +kernel) (by omega) rfl h0 h1)
theorem ld453 {S : Nat → Int → Int} (h : bx_Inv rxL S) {j : Int} (h0 : 0 ≤ j) (h1 : j < 12) : 0 ≤ S 453 j ∧ S 453 j ≤ 5 := ld_ok (ldBx h (p := 453) (n := 12) (t := (0, 0, 5)) (by decide +kernel) (by omega) rfl h0 h1)
theorem ld454 {S : Nat → Int → Int} (h : bx_Inv rxL S) {j : Int} (h0 : 0 ≤ j) (h1 : j < 12) : 0 ≤ S 454 j ∧ S 454 j ≤ 9 := ld_ok (ldBx h (p := 454) (n := 12) (t := (0, 0, 9)) (by decide +kernel) (by omega) rfl h0 h1)
theorem ld455 {S : Nat → Int → Int} (h : bx_Inv rxL S) {j : Int} (h0 : 0 ≤ j) (h1 : j < 4) : -1 ≤ S 455 j ∧ S 455 j ≤ 11 := ld_ok (ldBx h (p := 455) (n := 4) (t := (0, -1, 11)) (by decide +kernel) (by omega) rfl h0 h1)
theorem ld456 {S : Nat → Int → Int} (h : bx_Inv rxL S) {j : Int} (h0 : 0 ≤ j) (h1 : j < 12) : 0 ≤ S 456 j ∧ S 456 j ≤ 2 := ld_ok (ldBx h (p := 456) (n := 12) (t := (0, 0, 2)) (by decide +kernel) (by omega) rfl h0 h1)
theorem ld457 {S : Nat → Int → Int} (h : bx_Inv rxL S) {j : Int} (h0 : 0 ≤ j) (h1 : j < 18) : -1 ≤ S 457 j ∧ S 457 j ≤ 9 := ld_ok (ldBx h (p := 457) (n := 18) (t := (0, -1, 9)) (by decide +kernel) (by omega) rfl h0 h1)
theorem ld458 {S : Nat → Int → Int} (h : bx_Inv rxL S) {j : Int} (h0 : 0 ≤ j) (h1 : j < 18) : -1 ≤ S 458 j ∧ S 458 j ≤ 2 := ld_ok (ldBx h (p := 458) (n := 18) (t := (0, -1, 2)) (by decide +kernel) (by omega) rfl h0 h1)
theorem ld451 {S : Nat → Int → Int} (h : bx_Inv rxL S) : (0 ≤ S 451 0 ∧ S 451 0 ≤ 12) ∧ (0 ≤ S 451 5 ∧ S 451 5 ≤ 3) ∧ (-1 ≤ S 451 6 ∧ S 451 6 ≤ 3) ∧ (-1 ≤ S 451 7 ∧ S 451 7 ≤ 5) ∧ (0 ≤ S 451 8 ∧ S 451 8 ≤ 1) :=
  ⟨ld_ok (rx_inv h (p := 451) (j := 0) (t := (0, 0, 12)) (by omega) rfl (by omega) (by decide) (by decide +kernel)), ld_ok (rx_inv h (p := 451) (j := 5) (t := (0, 0, 3)) (by omega) rfl (by omega) (by decide) (by decide +kernel)), ld_ok (rx_inv h (p := 451) (j := 6) (t := (0, -1, 3)) (by omega) rfl (by omega) (by decide) (by decide +kernel)), ld_ok (rx_inv h (p := 451) (j := 7) (t := (0, -1, 5)) (by omega) rfl (by omega) (by decide) (by decide +kernel)), ld_ok (rx_inv h (p := 451) (j := 8) (t := (0, 0, 1)) (by omega) rfl (by omega) (by decide) (by decide +kernel))⟩
def ldEs (S : Nat → Int → Int) (k : Int) : Prop := k + 1 = S 451 0 ∨ S 452 (k + 1) ≠ S 452 k
def ldh (S : Nat → Int → Int) (x : Int) : Nat := ((if 0 < x then ldg (S 451 5) (S 451 7) (-1) (S 457) 0 else 0) ||| (if 1 < x then ldg (S 451 5) (S 451 7) (-1) (S 457) 1 else 0)) ||| (if 2 < x then ldg (S 451 5) (S 451 7) (-1) (S 457) 2 else 0)
theorem ldh_0 {S : Nat → Int → Int} : ldh S 0 = 0 := by simp [ldh]
theorem ldh_s {S : Nat → Int → Int} {x : Int} (h0 : 0 ≤ x) (h1 : x ≤ 2) (h : x < S 451 5) : ldh S (x + 1) = ldh S x ||| ldw (S 457 (6 * x + S 451 7)) := by
  have e : ldg (S 451 5) (S 451 7) (-1) (S 457) x = ldw (S 457 (6 * x + S 451 7)) := if_pos ⟨h, Or.inl rfl⟩
  rw [← e]
  have hx : x = 0 ∨ x = 1 ∨ x = 2 := by omega
  rcases hx with rfl | rfl | rfl <;> unfold ldh <;> simp
theorem ldh_e {S : Nat → Int → Int} {x z : Int} {C g p : Int → Int} (h : S 451 5 ≤ x) (hst : lds z C g p = -1) : ldh S x = ldl (S 451 5) (S 451 7) z C (S 457) g p := by
  have key : ∀ y : Int, (if y < x then ldg (S 451 5) (S 451 7) (-1) (S 457) y else 0) = ldg (S 451 5) (S 451 7) (lds z C g p) (S 457) y := fun y => by
    rw [hst]
    by_cases hy : y < x
    · rw [if_pos hy]
    · rw [if_neg hy]
      exact (if_neg (by omega)).symm
  unfold ldh ldl
  rw [key, key, key]
theorem ldl_st {m cue z st : Int} {C a g p : Int → Int} (h : lds z C g p = st) (h0 : 0 ≤ st) (h2 : st ≤ 2) (hm : st < m) : ldl m cue z C a g p = ldw (a (6 * st + cue)) := by
  unfold ldl
  rw [h]
  have e : ∀ y : Int, y ≠ st → ldg m cue st a y = 0 := fun y hy => if_neg (by omega)
  have e1 : ldg m cue st a st = ldw (a (6 * st + cue)) := if_pos ⟨hm, Or.inr rfl⟩
  have hs : st = 0 ∨ st = 1 ∨ st = 2 := by omega
  rcases hs with rfl | rfl | rfl
  · rw [e1, e 1 (by omega), e 2 (by omega), Nat.or_zero, Nat.or_zero]
  · rw [e1, e 0 (by omega), e 2 (by omega), Nat.or_zero, Nat.zero_or]
  · rw [e1, e 0 (by omega), e 1 (by omega), Nat.or_zero, Nat.zero_or]
/-! CONTRACT BY HAND, by program (wip/sim/genhand.py): DeadUnderstudies$Least.endsRow -/
def rxCLER : bx_Ct := ([(3, (1, 451, 0)), (0, (0, 0, 11))], some (0, (0, 0, 1)), [], 0, [])
def rxILER_0 (S0 : Nat → Int → Int) (ws : List Int) (S : Nat → Int → Int) (k : Int) : Prop := S = S0 ∧ ws = [451, k]
def rxmLER_0 (S0 : Nat → Int → Int) (ws : List Int) (S : Nat → Int → Int) (k : Int) : Nat := 10
def rxzLER_0 : rx_Z := ([(0, 0), (0, 0), (0, 0), (0, 0), (0, 0), (0, 0), (0, 0), (0, 0), (0, 11)], [], [], 0, 0, 0, [(0, .inr (3, (0, 451))), (1, .inr (0, (8, 0)))], [])
def rxeLER_0_0 : rx_End × List (Nat × Int × Int) := (([(0, 0), (0, 0), (0, 0), (0, 0), (0, 0), (0, 0), (0, 0), (0, 0), (0, 10), (2, 12), (0, 3), (0, 3)], [(3, (10, 0), (11, 0)), (0, (8, 1), (9, 0))], [(((0, 0), 1851192626986356797424364830707437625680387377997778265131188224000000), .inr (0, (11, 0))), (((0, 0), 1851192626986356797625071537494213233954208842451613518685011968000000), .inr (0, (10, 0))), (((0, 451), 1), .inr (3, (0, 452))), (((0, 0), 1851192626986356797424340330377019318111018015026043177819373568000000), .inr (0, (9, 0))), (((0, 451), 0), .inr (0, (9, 0)))], some (.inr (0, (0, 1)))), [])
def rxeLER_0_1 : rx_End × List (Nat × Int × Int) := (([(0, 0), (0, 0), (0, 0), (0, 0), (0, 0), (0, 0), (0, 0), (0, 0), (0, 10), (2, 12), (0, 3), (0, 3)], [(2, (10, 0), (11, 0)), (0, (8, 1), (9, 0))], [(((0, 0), 1851192626986356797424364830707437625680387377997778265131188224000000), .inr (0, (11, 0))), (((0, 0), 1851192626986356797625071537494213233954208842451613518685011968000000), .inr (0, (10, 0))), (((0, 451), 1), .inr (3, (0, 452))), (((0, 0), 1851192626986356797424340330377019318111018015026043177819373568000000), .inr (0, (9, 0))), (((0, 451), 0), .inr (0, (9, 0)))], some (.inr (0, (0, 0)))), [])
def rxeLER_0_2 : rx_End × List (Nat × Int × Int) := (([(0, 0), (0, 0), (0, 0), (0, 0), (0, 0), (0, 0), (0, 0), (0, 0), (0, 11), (0, 12)], [(1, (9, 0), (8, 1))], [(((0, 0), 1851192626986356797424340330377019318111018015026043177819373568000000), .inr (0, (9, 0))), (((0, 451), 0), .inr (0, (9, 0)))], some (.inr (0, (0, 1)))), [])
def rxYLER : List bx_HE := [(rxzLER_0, [], [rxeLER_0_0, rxeLER_0_1, rxeLER_0_2])]
def rxULER (q : bx_HE) : Bool := false
def rxYBLER : bx_B := (rxV, rxNP, rxDmf, bx_mdH rxCLER.2.2.1)
set_option maxRecDepth 100000 in
theorem rxYcLER : bx_chkH rxYBLER rxM56 rxCLER rxYLER (rxULER, fun cut z => rx_ex2 (rxCT rxYBLER rxCnE) cut 30000 rxCLER.2.2.2.1 56 z) = true := by decide +kernel
def rxILER (S0 : Nat → Int → Int) (ws : List Int) (i : Nat) : bx_SP := fun S r => match i with | 0 => rxILER_0 S0 ws S (r 8) | _ => False
def rxmLER (S0 : Nat → Int → Int) (ws : List Int) (i : Nat) (S : Nat → Int → Int) (r : Nat → Int) : Nat := match i with | 0 => rxmLER_0 S0 ws S (r 8) | _ => 0
def rxPLER (S0 : Nat → Int → Int) (ws : List Int) : Prop := ∃ k : Int, ws = [451, k] ∧ k < S0 451 0
def rxPSLER (S0 : Nat → Int → Int) (ws : List Int) (S : Nat → Int → Int) (w : Option Int) : Prop := S = S0 ∧ ∃ k : Int, ws = [451, k] ∧ ((w = some 1 ∧ ldEs S0 k) ∨ (w = some 0 ∧ ¬ ldEs S0 k))
theorem rxdLER_0_0 {S0 : Nat → Int → Int} {ws : List Int} {S : Nat → Int → Int} {k x9 x10 x11 : Int} (hP : rxPLER S0 ws) (hin : bx_same rxL (bx_mdl rxCLER.2.2.1) S0 S) (hin2 : bx_same rxL (bx_mdl rxCLER.2.2.1) S S) (I0 : bx_Inv rxL S) (I1 : bx_Inv rxL S) (hinv : rxILER_0 S0 ws S k) (l8 : 0 ≤ k) (u8 : k ≤ 10) (l9 : 2 ≤ x9) (u9 : x9 ≤ 12) (l10 : 0 ≤ x10) (u10 : x10 ≤ 3) (l11 : 0 ≤ x11) (u11 : x11 ≤ 3) (f0 : x10 ≠ x11) (f1 : k + 1 < x9) (e2 : S 451 0 = x9) (e1 : S 452 (k + 1) = x10) (e0 : S 452 k = x11) : (True) ∧ rxPSLER S0 ws S (some 1) := by
  obtain ⟨rfl, hw⟩ := hinv
  exact ⟨trivial, rfl, k, hw, Or.inl ⟨rfl, Or.inr (by rw [e1, e0]; exact f0)⟩⟩
theorem rxfLER_0_0 {X : (Nat → Int → Int) → Prop} {S0 : Nat → Int → Int} {ws : List Int} (hP : rxPLER S0 ws) : bx_obE rxL X S0 rxCLER.2.2.1 (rxILER S0 ws) (rxPSLER S0 ws) 0 rxzLER_0 rxeLER_0_0 := by
  intro S S' r r' hinv hX hin hsm_ hseg
  obtain ⟨I0, I1, h0_, hr_, b_, f_, d_⟩ := bx_cl (evs := [(0, (0, 452), (8, 0), .inr (0, (11, 0))), (0, (0, 452), (8, 1), .inr (0, (10, 0))), (0, (0, 451), (0, 0), .inr (0, (9, 0)))]) (fvs := [(3, (10, 0), (11, 0), (0, 0)), (0, (8, 1), (9, 0), (0, 0))]) hseg (by decide +kernel) (by decide +kernel)
  have hinv : rxILER_0 S0 ws S (r 8) := hinv
  rw [← hr_ 8 (by decide)] at hinv
  obtain ⟨⟨l8, u8⟩, ⟨l9, u9⟩, ⟨l10, u10⟩, ⟨l11, u11⟩, -⟩ := b_
  obtain ⟨f0, f1, -⟩ := f_
  obtain ⟨e0, ⟨e1, ⟨e2, w_⟩⟩⟩ := d_
  subst w_
  have g := rxdLER_0_0 hP hin hsm_ I0 I1 hinv l8 u8 l9 u9 l10 u10 l11 u11 f0 f1 e2 e1 e0
  refine ⟨bx_narP_ok (l := []) g.1, ?_⟩
  show rxPSLER S0 ws S' (some (bx_num r' (.inr (0, (0, 1)))))
  rw [bx_xv_ok h0_]
  exact g.2
theorem rxdLER_0_1 {S0 : Nat → Int → Int} {ws : List Int} {S : Nat → Int → Int} {k x9 x10 x11 : Int} (hP : rxPLER S0 ws) (hin : bx_same rxL (bx_mdl rxCLER.2.2.1) S0 S) (hin2 : bx_same rxL (bx_mdl rxCLER.2.2.1) S S) (I0 : bx_Inv rxL S) (I1 : bx_Inv rxL S) (hinv : rxILER_0 S0 ws S k) (l8 : 0 ≤ k) (u8 : k ≤ 10) (l9 : 2 ≤ x9) (u9 : x9 ≤ 12) (l10 : 0 ≤ x10) (u10 : x10 ≤ 3) (l11 : 0 ≤ x11) (u11 : x11 ≤ 3) (f0 : x10 = x11) (f1 : k + 1 < x9) (e2 : S 451 0 = x9) (e1 : S 452 (k + 1) = x10) (e0 : S 452 k = x11) : (True) ∧ rxPSLER S0 ws S (some 0) := by
  obtain ⟨rfl, hw⟩ := hinv
  obtain ⟨k2, hw2, hk⟩ := hP
  have hke : k = k2 := Option.some.inj (congrArg (fun l => l[1]?) (hw.symm.trans hw2))
  subst hke
  exact ⟨trivial, rfl, k, hw, Or.inr ⟨rfl, fun h => by
    rcases h with h | h
    · omega
    · rw [e1, e0] at h
      exact h f0⟩⟩
theorem rxfLER_0_1 {X : (Nat → Int → Int) → Prop} {S0 : Nat → Int → Int} {ws : List Int} (hP : rxPLER S0 ws) : bx_obE rxL X S0 rxCLER.2.2.1 (rxILER S0 ws) (rxPSLER S0 ws) 0 rxzLER_0 rxeLER_0_1 := by
  intro S S' r r' hinv hX hin hsm_ hseg
  obtain ⟨I0, I1, h0_, hr_, b_, f_, d_⟩ := bx_cl (evs := [(0, (0, 452), (8, 0), .inr (0, (11, 0))), (0, (0, 452), (8, 1), .inr (0, (10, 0))), (0, (0, 451), (0, 0), .inr (0, (9, 0)))]) (fvs := [(2, (10, 0), (11, 0), (0, 0)), (0, (8, 1), (9, 0), (0, 0))]) hseg (by decide +kernel) (by decide +kernel)
  have hinv : rxILER_0 S0 ws S (r 8) := hinv
  rw [← hr_ 8 (by decide)] at hinv
  obtain ⟨⟨l8, u8⟩, ⟨l9, u9⟩, ⟨l10, u10⟩, ⟨l11, u11⟩, -⟩ := b_
  obtain ⟨f0, f1, -⟩ := f_
  obtain ⟨e0, ⟨e1, ⟨e2, w_⟩⟩⟩ := d_
  subst w_
  have g := rxdLER_0_1 hP hin hsm_ I0 I1 hinv l8 u8 l9 u9 l10 u10 l11 u11 f0 f1 e2 e1 e0
  refine ⟨bx_narP_ok (l := []) g.1, ?_⟩
  show rxPSLER S0 ws S' (some (bx_num r' (.inr (0, (0, 0)))))
  rw [bx_xv_ok h0_]
  exact g.2
theorem rxdLER_0_2 {S0 : Nat → Int → Int} {ws : List Int} {S : Nat → Int → Int} {k x9 : Int} (hP : rxPLER S0 ws) (hin : bx_same rxL (bx_mdl rxCLER.2.2.1) S0 S) (hin2 : bx_same rxL (bx_mdl rxCLER.2.2.1) S S) (I0 : bx_Inv rxL S) (I1 : bx_Inv rxL S) (hinv : rxILER_0 S0 ws S k) (l8 : 0 ≤ k) (u8 : k ≤ 11) (l9 : 0 ≤ x9) (u9 : x9 ≤ 12) (f0 : x9 ≤ k + 1) (e0 : S 451 0 = x9) : (True) ∧ rxPSLER S0 ws S (some 1) := by
  obtain ⟨rfl, hw⟩ := hinv
  obtain ⟨k2, hw2, hk⟩ := hP
  have hke : k = k2 := Option.some.inj (congrArg (fun l => l[1]?) (hw.symm.trans hw2))
  subst hke
  exact ⟨trivial, rfl, k, hw, Or.inl ⟨rfl, Or.inl (by omega)⟩⟩
theorem rxfLER_0_2 {X : (Nat → Int → Int) → Prop} {S0 : Nat → Int → Int} {ws : List Int} (hP : rxPLER S0 ws) : bx_obE rxL X S0 rxCLER.2.2.1 (rxILER S0 ws) (rxPSLER S0 ws) 0 rxzLER_0 rxeLER_0_2 := by
  intro S S' r r' hinv hX hin hsm_ hseg
  obtain ⟨I0, I1, h0_, hr_, b_, f_, d_⟩ := bx_cl (evs := [(0, (0, 451), (0, 0), .inr (0, (9, 0)))]) (fvs := [(1, (9, 0), (8, 1), (0, 0))]) hseg (by decide +kernel) (by decide +kernel)
  have hinv : rxILER_0 S0 ws S (r 8) := hinv
  rw [← hr_ 8 (by decide)] at hinv
  obtain ⟨⟨l8, u8⟩, ⟨l9, u9⟩, -⟩ := b_
  obtain ⟨f0, -⟩ := f_
  obtain ⟨e0, w_⟩ := d_
  subst w_
  have g := rxdLER_0_2 hP hin hsm_ I0 I1 hinv l8 u8 l9 u9 f0 e0
  refine ⟨bx_narP_ok (l := []) g.1, ?_⟩
  show rxPSLER S0 ws S' (some (bx_num r' (.inr (0, (0, 1)))))
  rw [bx_xv_ok h0_]
  exact g.2
theorem rxgCLER {X : (Nat → Int → Int) → Prop} {S0 : Nat → Int → Int} {ws : List Int} (hP : rxPLER S0 ws) : bx_allI (fun i q => rxULER q = true ∨ bx_allP (fun o => bx_obC rxL X S0 rxCLER.2.2.1 (rxILER S0 ws) (rxmLER S0 ws) i q.1 o) q.2.1) 0 rxYLER := ⟨Or.inr trivial, trivial⟩
theorem rxgELER {X : (Nat → Int → Int) → Prop} {S0 : Nat → Int → Int} {ws : List Int} (hP : rxPLER S0 ws) : bx_allI (fun i q => rxULER q = true ∨ bx_allP (fun E => bx_obE rxL X S0 rxCLER.2.2.1 (rxILER S0 ws) (rxPSLER S0 ws) i q.1 E) q.2.2) 0 rxYLER := ⟨Or.inr ⟨rxfLER_0_0 hP, rxfLER_0_1 hP, rxfLER_0_2 hP, trivial⟩, trivial⟩
theorem rxQLER {PX : State → Prop} {Dg : va_G} {A : Nat → Prop} {ad xa : Nat → Nat} {l : Launch} {X : (Nat → Int → Int) → Prop} (hPX : rx_PXOK rxNW A PX) (hsl : ∀ s : State, PX s → ∀ o idx n : Nat, rxSl o idx = some n → ∃ tx : String, vk_R (rxNm o) idx tx (ad n) s)
    (hX : ∀ S S' : Nat → Int → Int, X S → bx_same rxL (bx_mdl rxCLER.2.2.1) S S' → X S')
    (ih : ∀ (j2 : Nat) (ct2 : bx_Ct) (M2 : rx_Mt), ct2 ∈ rxCnE j2 → ct2.2.2.2.1 + 1 ≤ rxCLER.2.2.2.1 → rxT.2.2.2.2.2 j2 = some M2 → bx_Con rxG rxNW rxAO PX Dg rxL X vwCl A ad l M2 ct2) : bx_ConP rxG rxNW rxAO PX Dg rxL X vwCl A ad l rxM56 rxCLER rxPLER rxPSLER :=
  rxQof (xa := xa) (Cn := rxCnE) (f := 30000) (j := 56) (tab := rxYLER) (us := rxULER) hPX hsl hX ih rfl rxYcLER rxILER rxmLER
    (fun S0 ws r I0 I ht0 ht as he he1 hX0 hI0 hP hs ha => by
      have e := he.symm.trans (show bx_ent0 rxNP rxCLER.1 bx_I0 [] = some ([(0, 0), (0, 0), (0, 0), (0, 0), (0, 0), (0, 0), (0, 0), (0, 0), (0, 11)], [], [.inr (3, (0, 451)), .inr (0, (8, 0))]) from rfl)
      cases e
      subst ha
      have h0 : r 0 = 0 := hs.1
      show rxILER_0 S0 _ S0 (r 8)
      refine ⟨rfl, ?_⟩
      simp only [List.map_cons, List.map_nil, bx_xv_ok h0]
      rfl)
    (fun S0 ws hP => fun i q hq hus => absurd (show false = true from hus) Bool.false_ne_true) (fun S0 ws hP => rxgCLER hP) (fun S0 ws hP => rxgELER hP)
/-! CONTRACT BY HAND, by program (wip/sim/genhand.py): DeadUnderstudies$Least.wordsOf -/
def rxCLWO : bx_Ct := ([(3, (1, 451, 0)), (0, (0, 0, 2))], some (0, (0, 0, 1023)), [], 1, [])
def rxILWO_0 (S0 : Nat → Int → Int) (ws : List Int) (S : Nat → Int → Int) (s : Int) : Prop := S = S0 ∧ ws = [451, s]
def rxmLWO_0 (S0 : Nat → Int → Int) (ws : List Int) (S : Nat → Int → Int) (s : Int) : Nat := 100
def rxzLWO_0 : rx_Z := ([(0, 0), (0, 0), (0, 0), (0, 0), (0, 0), (0, 0), (0, 0), (0, 0), (0, 2)], [], [], 0, 0, 0, [(0, .inr (3, (0, 451))), (1, .inr (0, (8, 0)))], [])
def rxILWO_1 (S0 : Nat → Int → Int) (ws : List Int) (S : Nat → Int → Int) (s s2 cq : Int) : Prop := S = S0 ∧ ws = [451, s] ∧ s2 = s ∧ cq = S 451 7
def rxmLWO_1 (S0 : Nat → Int → Int) (ws : List Int) (S : Nat → Int → Int) (s s2 cq : Int) : Nat := 90
def rxzLWO_1 : rx_Z := ([(0, 0), (0, 0), (0, 0), (0, 0), (0, 0), (0, 0), (0, 0), (0, 0), (0, 2), (0, 2), (0, 5)], [], [], 0, 0, 5, [(0, .inr (3, (0, 451))), (1, .inr (0, (8, 0)))], [.inr (0, (10, 0)), .inr (0, (9, 0))])
def rxILWO_2 (S0 : Nat → Int → Int) (ws : List Int) (S : Nat → Int → Int) (s s2 cq r : Int) : Prop := S = S0 ∧ ws = [451, s] ∧ r = 6 * s + S 451 7
def rxmLWO_2 (S0 : Nat → Int → Int) (ws : List Int) (S : Nat → Int → Int) (s s2 cq r : Int) : Nat := 80
def rxzLWO_2 : rx_Z := ([(0, 0), (0, 0), (0, 0), (0, 0), (0, 0), (0, 0), (0, 0), (0, 0), (0, 2), (0, 2), (0, 5), (0, 17)], [], [], 0, 0, 8, [(0, .inr (3, (0, 451))), (1, .inr (0, (8, 0)))], [.inr (0, (11, 0))])
def rxILWO_3 (S0 : Nat → Int → Int) (ws : List Int) (S : Nat → Int → Int) (s r x : Int) : Prop := S = S0 ∧ ws = [451, s] ∧ r = 6 * s + S 451 7 ∧ x = S 457 r
def rxmLWO_3 (S0 : Nat → Int → Int) (ws : List Int) (S : Nat → Int → Int) (s r x : Int) : Nat := 70
def rxzLWO_3 : rx_Z := ([(0, 0), (0, 0), (0, 0), (0, 0), (0, 0), (0, 0), (0, 0), (0, 0), (0, 2), (0, 17), (0, 9)], [], [], 0, 0, 35, [(0, .inr (3, (0, 451))), (1, .inr (0, (8, 0))), (2, .inr (0, (9, 0)))], [.inr (0, (10, 0)), .inr (0, (0, 1))])
def rxILWO_4 (S0 : Nat → Int → Int) (ws : List Int) (S : Nat → Int → Int) (s r x y : Int) : Prop := S = S0 ∧ ws = [451, s] ∧ y = (ldw (S 457 (6 * s + S 451 7)) : Nat)
def rxmLWO_4 (S0 : Nat → Int → Int) (ws : List Int) (S : Nat → Int → Int) (s r x y : Int) : Nat := 60
def rxzLWO_4 : rx_Z := ([(0, 0), (0, 0), (0, 0), (0, 0), (0, 0), (0, 0), (0, 0), (0, 0), (0, 2), (0, 17), (0, 9), (1, 512)], [], [], 0, 0, 36, [(0, .inr (3, (0, 451))), (1, .inr (0, (8, 0))), (2, .inr (0, (9, 0)))], [.inr (0, (11, 0))])
def rxoLWO_0_0 : bx_HO := (([(0, 0), (0, 0), (0, 0), (0, 0), (0, 0), (0, 0), (0, 0), (0, 0), (0, 2), ((-1), 5)], [], [(((0, 0), 1851192626986356798829287277884448576027768266202889952696139776000000), .inr (0, (9, 0))), (((0, 451), 7), .inr (0, (9, 0)))], 0, 0, 5, [(0, .inr (3, (0, 451))), (1, .inr (0, (8, 0)))], [.inr (0, (9, 0)), .inr (0, (8, 0))]), [(9, 0, 5)], [], [(0, 0), (0, 0), (0, 0), (0, 0), (0, 0), (0, 0), (0, 0), (0, 0), (8, 0), (8, 0), (9, 0)], 1)
def rxoLWO_2_0 : bx_HO := (([(0, 0), (0, 0), (0, 0), (0, 0), (0, 0), (0, 0), (0, 0), (0, 0), (0, 2), (0, 2), (0, 5), (0, 17), (0, 9), ((-1), 9)], [], [(((0, 0), 1851192626986356797424374018331344491018900889112178922875846656000000), .inr (0, (13, 0))), (((0, 0), 1851192626986356797424374018331344491018900889112178922875846656000000), .inr (0, (12, 0))), (((0, 451), 12), .inr (3, (0, 457)))], 0, 0, 35, [(2, .inr (0, (11, 0))), (0, .inr (3, (0, 451))), (1, .inr (0, (8, 0)))], [.inr (0, (13, 0)), .inr (0, (0, 1))]), [(13, 0, 9)], [], [(0, 0), (0, 0), (0, 0), (0, 0), (0, 0), (0, 0), (0, 0), (0, 0), (8, 0), (11, 0), (13, 0)], 3)
def rxeLWO_2_0 : rx_End × List (Nat × Int × Int) := (([(0, 0), (0, 0), (0, 0), (0, 0), (0, 0), (0, 0), (0, 0), (0, 0), (0, 2), (0, 2), (0, 5), (0, 17), ((-1), (-1))], [], [(((0, 0), 1851192626986356797424374018331344491018900889112178922875846656000000), .inr (0, (12, 0))), (((0, 451), 12), .inr (3, (0, 457)))], some (.inr (0, (0, 1023)))), [])
def rxeLWO_4_0 : rx_End × List (Nat × Int × Int) := (([(0, 0), (0, 0), (0, 0), (0, 0), (0, 0), (0, 0), (0, 0), (0, 0), (0, 2), (0, 17), (0, 9), (1, 512)], [], [], some (.inr (0, (11, 0)))), [])
def rxYLWO : List bx_HE := [(rxzLWO_0, [rxoLWO_0_0], []), (rxzLWO_1, [], []), (rxzLWO_2, [rxoLWO_2_0], [rxeLWO_2_0]), (rxzLWO_3, [], []), (rxzLWO_4, [], [rxeLWO_4_0])]
def rxULWO (q : bx_HE) : Bool := Nat.beq (rx_zpc q.1) 5 || Nat.beq (rx_zpc q.1) 35
def rxYBLWO : bx_B := (rxV, rxNP, rxDmf, bx_mdH rxCLWO.2.2.1)
set_option maxRecDepth 100000 in
theorem rxYcLWO : bx_chkH rxYBLWO rxM51 rxCLWO rxYLWO (rxULWO, fun cut z => rx_ex2 (rxCT rxYBLWO rxCnE) cut 30000 rxCLWO.2.2.2.1 51 z) = true := by decide +kernel
def rxILWO (S0 : Nat → Int → Int) (ws : List Int) (i : Nat) : bx_SP := fun S r => match i with | 0 => rxILWO_0 S0 ws S (r 8) | 1 => rxILWO_1 S0 ws S (r 8) (r 9) (r 10) | 2 => rxILWO_2 S0 ws S (r 8) (r 9) (r 10) (r 11) | 3 => rxILWO_3 S0 ws S (r 8) (r 9) (r 10) | 4 => rxILWO_4 S0 ws S (r 8) (r 9) (r 10) (r 11) | _ => False
def rxmLWO (S0 : Nat → Int → Int) (ws : List Int) (i : Nat) (S : Nat → Int → Int) (r : Nat → Int) : Nat := match i with | 0 => rxmLWO_0 S0 ws S (r 8) | 1 => rxmLWO_1 S0 ws S (r 8) (r 9) (r 10) | 2 => rxmLWO_2 S0 ws S (r 8) (r 9) (r 10) (r 11) | 3 => rxmLWO_3 S0 ws S (r 8) (r 9) (r 10) | 4 => rxmLWO_4 S0 ws S (r 8) (r 9) (r 10) (r 11) | _ => 0
def rxPLWO (S0 : Nat → Int → Int) (ws : List Int) : Prop := 0 ≤ S0 451 7
def rxPSLWO (S0 : Nat → Int → Int) (ws : List Int) (S : Nat → Int → Int) (w : Option Int) : Prop := S = S0 ∧ ∃ s : Int, ws = [451, s] ∧ w = some ((ldw (S0 457 (6 * s + S0 451 7)) : Nat) : Int)
theorem rxkLWO_1 {S0 : Nat → Int → Int} {ws : List Int} {S : Nat → Int → Int} {s s2 cq : Int} (hP : rxPLWO S0 ws) (hin : bx_same rxL (bx_mdl rxCLWO.2.2.1) S0 S) (I0 : bx_Inv rxL S) (hinv : rxILWO_1 S0 ws S s s2 cq) (l8 : 0 ≤ s) (u8 : s ≤ 2) (l9 : 0 ≤ s2) (u9 : s2 ≤ 2) (l10 : 0 ≤ cq) (u10 : cq ≤ 5) : rxPLRA S [s2, cq] ∧ ∀ (S' : Nat → Int → Int) (r : Int), 0 ≤ r → r ≤ 17 → rxPSLRA S [s2, cq] S' (some r) → bx_Inv rxL S' → bx_same rxL (bx_mdl rxCLRA.2.2.1) S S' → rxILWO_2 S0 ws S' s s2 cq r ∧ rxmLWO_2 S0 ws S' s s2 cq r < rxmLWO_1 S0 ws S s s2 cq := by
  obtain ⟨h1, hw, h2, h3⟩ := hinv
  refine ⟨trivial, fun S' r g0 g1 hq I1 hsm => ?_⟩
  obtain ⟨e, s', c', hw2, hr⟩ := hq
  simp only [List.cons.injEq, and_true] at hw2
  obtain ⟨q1, q2⟩ := hw2
  have hr := Option.some.inj hr
  refine ⟨⟨e.trans h1, hw, ?_⟩, by unfold rxmLWO_1 rxmLWO_2; omega⟩
  rw [e]
  omega
theorem rxsLWO_1 {X : (Nat → Int → Int) → Prop} {S0 : Nat → Int → Int} {ws : List Int} (hP : rxPLWO S0 ws) : rx_obK X S0 rxCLWO.2.2.1 rxCLRA.2.2.1 (rxILWO S0 ws) (rxmLWO S0 ws) 1 2 rxzLWO_1 rxzLWO_2 [.inr (0, (9, 0)), .inr (0, (10, 0))] (some 11) rxPLRA rxPSLRA := by
  intro S r hinv hXS I0 hin hs_ hf_
  have b_ := bx_bds_sat hs_
  have f_ := bx_fcl_ok hs_.1 hf_
  obtain ⟨⟨l8, u8⟩, ⟨l9, u9⟩, ⟨l10, u10⟩, -⟩ := b_
  have g := rxkLWO_1 hP hin I0 hinv l8 u8 l9 u9 l10 u10
  have ea : List.map (bx_num r) [.inr (0, (9, 0)), .inr (0, (10, 0))] = [(r 9), (r 10)] := by
    simp only [List.map_cons, List.map_nil, bx_xv_ok hs_.1]
    rfl
  rw [ea]
  refine ⟨g.1, fun S' w r' hPS hX' I1 hsm hr hw hs' => ?_⟩
  have hw := hw _ rfl
  subst hw
  have b' := hs'.2.2 11 _ _ rfl
  have g2 := g.2 S' (r' 11) b'.1 b'.2 hPS I1 hsm
  show rxILWO_2 S0 ws S' (r' 8) (r' 9) (r' 10) (r' 11) ∧ rxmLWO_2 S0 ws S' (r' 8) (r' 9) (r' 10) (r' 11) < _
  rw [hr 8 (by decide), hr 9 (by decide), hr 10 (by decide)]
  exact g2
theorem rxbLWO_3 {S0 : Nat → Int → Int} {ws : List Int} {S : Nat → Int → Int} {s r x : Int} (hP : rxPLWO S0 ws) (hin : bx_same rxL (bx_mdl rxCLWO.2.2.1) S0 S) (I0 : bx_Inv rxL S) (hinv : rxILWO_3 S0 ws S s r x) (l8 : 0 ≤ s) (u8 : s ≤ 2) (l9 : 0 ≤ r) (u9 : r ≤ 17) (l10 : 0 ≤ x) (u10 : x ≤ 9) : bx_opcS 35 1 x ∧ ∀ y : Int, y = bx_opvS 35 1 x → (1 ≤ y ∧ y ≤ 512) ∧ rxILWO_4 S0 ws S s r x y ∧ rxmLWO_4 S0 ws S s r x y < rxmLWO_3 S0 ws S s r x := by
  obtain ⟨h1, hw, hr, hx⟩ := hinv
  have p1 : 2 ^ x.toNat ≤ 512 := Nat.pow_le_pow_right (by omega) (show x.toNat ≤ 9 by omega)
  have p2 : 1 ≤ 2 ^ x.toNat := Nat.one_le_two_pow
  refine ⟨⟨rfl, by omega, by omega⟩, fun y hy => ?_⟩
  have hy : y = ((2 ^ x.toNat : Nat) : Int) := hy
  refine ⟨⟨by omega, by omega⟩, ⟨h1, hw, ?_⟩, by unfold rxmLWO_3 rxmLWO_4; omega⟩
  rw [← hr, ← hx, hy]
  unfold ldw
  rw [if_pos ⟨by omega, by omega⟩]
theorem rxsLWO_3 {X : (Nat → Int → Int) → Prop} {S0 : Nat → Int → Int} {ws : List Int} (hP : rxPLWO S0 ws) : rx_obBS X S0 rxCLWO.2.2.1 (rxILWO S0 ws) (rxmLWO S0 ws) 3 4 rxzLWO_3 35 (0, 1) (10, 0) 1 512 := by
  intro S r hinv hXS I0 hin hs_ hf_
  have b_ := bx_bds_sat hs_
  have f_ := bx_fcl_ok hs_.1 hf_
  obtain ⟨⟨l8, u8⟩, ⟨l9, u9⟩, ⟨l10, u10⟩, -⟩ := b_
  have g := rxbLWO_3 hP hin I0 hinv l8 u8 l9 u9 l10 u10
  rw [bx_x_ok hs_.1, bx_x_ok hs_.1]
  refine ⟨g.1, fun r' hr h0_ hv => ?_⟩
  have g2 := g.2 (r' 11) hv
  show _ ∧ rxILWO_4 S0 ws S (r' 8) (r' 9) (r' 10) (r' 11) ∧ rxmLWO_4 S0 ws S (r' 8) (r' 9) (r' 10) (r' 11) < _
  rw [hr 8 (by decide), hr 9 (by decide), hr 10 (by decide)]
  exact g2
theorem rxcLWO_0_0 {S0 : Nat → Int → Int} {ws : List Int} {S : Nat → Int → Int} {s x9 : Int} (hP : rxPLWO S0 ws) (hin : bx_same rxL (bx_mdl rxCLWO.2.2.1) S0 S) (I0 : bx_Inv rxL S) (hinv : rxILWO_0 S0 ws S s) (l8 : 0 ≤ s) (u8 : s ≤ 2) (l9 : (-1) ≤ x9) (u9 : x9 ≤ 5) (e0 : S 451 7 = x9) : ((0 ≤ x9 ∧ x9 ≤ 5) ∧ True) ∧ (True) ∧ rxILWO_1 S0 ws S s s x9 ∧ rxmLWO_1 S0 ws S s s x9 < rxmLWO_0 S0 ws S s := by
  obtain ⟨rfl, hw⟩ := hinv
  have h7 : 0 ≤ S 451 7 := hP
  exact ⟨⟨by omega, trivial⟩, trivial, ⟨rfl, hw, rfl, e0.symm⟩, by unfold rxmLWO_0 rxmLWO_1; omega⟩
theorem rxgLWO_0_0 {X : (Nat → Int → Int) → Prop} {S0 : Nat → Int → Int} {ws : List Int} (hP : rxPLWO S0 ws) : bx_obC rxL X S0 rxCLWO.2.2.1 (rxILWO S0 ws) (rxmLWO S0 ws) 0 rxzLWO_0 rxoLWO_0_0 := by
  intro S S' r r' hinv hX hin hsm_ hseg
  obtain ⟨I0, I1, h0_, hr_, b_, f_, d_⟩ := bx_cl (evs := [(0, (0, 451), (0, 7), .inr (0, (9, 0)))]) (fvs := []) hseg (by decide +kernel) (by decide +kernel)
  have hinv : rxILWO_0 S0 ws S (r 8) := hinv
  rw [← hr_ 8 (by decide)] at hinv
  obtain ⟨⟨l8, u8⟩, ⟨l9, u9⟩, -⟩ := b_
  obtain ⟨e0, w_⟩ := d_
  subst w_
  have g := rxcLWO_0_0 hP hin I0 hinv l8 u8 l9 u9 e0
  refine ⟨bx_narP_ok (l := [(9, 0, 5)]) g.1, bx_nfP_ok h0_ (fvs := []) (by decide +kernel) g.2.1, ?_, ?_⟩
  · show rxILWO_1 S0 ws S' (bx_val [(0, 0), (0, 0), (0, 0), (0, 0), (0, 0), (0, 0), (0, 0), (0, 0), (8, 0), (8, 0), (9, 0)] r' 8) (bx_val [(0, 0), (0, 0), (0, 0), (0, 0), (0, 0), (0, 0), (0, 0), (0, 0), (8, 0), (8, 0), (9, 0)] r' 9) (bx_val [(0, 0), (0, 0), (0, 0), (0, 0), (0, 0), (0, 0), (0, 0), (0, 0), (8, 0), (8, 0), (9, 0)] r' 10)
    rw [bx_val_x (n := 8) (e := (8, 0)) h0_ rfl, bx_val_x (n := 9) (e := (8, 0)) h0_ rfl, bx_val_x (n := 10) (e := (9, 0)) h0_ rfl]
    exact g.2.2.1
  · show rxmLWO_1 S0 ws S' (bx_val [(0, 0), (0, 0), (0, 0), (0, 0), (0, 0), (0, 0), (0, 0), (0, 0), (8, 0), (8, 0), (9, 0)] r' 8) (bx_val [(0, 0), (0, 0), (0, 0), (0, 0), (0, 0), (0, 0), (0, 0), (0, 0), (8, 0), (8, 0), (9, 0)] r' 9) (bx_val [(0, 0), (0, 0), (0, 0), (0, 0), (0, 0), (0, 0), (0, 0), (0, 0), (8, 0), (8, 0), (9, 0)] r' 10) < rxmLWO_0 S0 ws S' (r 8)
    rw [bx_val_x (n := 8) (e := (8, 0)) h0_ rfl, bx_val_x (n := 9) (e := (8, 0)) h0_ rfl, bx_val_x (n := 10) (e := (9, 0)) h0_ rfl, ← hr_ 8 (by decide)]
    exact g.2.2.2
theorem rxcLWO_2_0 {S0 : Nat → Int → Int} {ws : List Int} {S : Nat → Int → Int} {s s2 cq r x12 x13 : Int} (hP : rxPLWO S0 ws) (hin : bx_same rxL (bx_mdl rxCLWO.2.2.1) S0 S) (I0 : bx_Inv rxL S) (hinv : rxILWO_2 S0 ws S s s2 cq r) (l8 : 0 ≤ s) (u8 : s ≤ 2) (l9 : 0 ≤ s2) (u9 : s2 ≤ 2) (l10 : 0 ≤ cq) (u10 : cq ≤ 5) (l11 : 0 ≤ r) (u11 : r ≤ 17) (l12 : 0 ≤ x12) (u12 : x12 ≤ 9) (l13 : (-1) ≤ x13) (u13 : x13 ≤ 9) (e1 : S 457 r = x12) (e0 : S 457 r = x13) : ((0 ≤ x13 ∧ x13 ≤ 9) ∧ True) ∧ (True) ∧ rxILWO_3 S0 ws S s r x13 ∧ rxmLWO_3 S0 ws S s r x13 < rxmLWO_2 S0 ws S s s2 cq r := by
  obtain ⟨h1, hw, hr⟩ := hinv
  exact ⟨⟨by omega, trivial⟩, trivial, ⟨h1, hw, hr, e0.symm⟩, by unfold rxmLWO_2 rxmLWO_3; omega⟩
theorem rxgLWO_2_0 {X : (Nat → Int → Int) → Prop} {S0 : Nat → Int → Int} {ws : List Int} (hP : rxPLWO S0 ws) : bx_obC rxL X S0 rxCLWO.2.2.1 (rxILWO S0 ws) (rxmLWO S0 ws) 2 rxzLWO_2 rxoLWO_2_0 := by
  intro S S' r r' hinv hX hin hsm_ hseg
  obtain ⟨I0, I1, h0_, hr_, b_, f_, d_⟩ := bx_cl (evs := [(0, (0, 457), (11, 0), .inr (0, (13, 0))), (0, (0, 457), (11, 0), .inr (0, (12, 0)))]) (fvs := []) hseg (by decide +kernel) (by decide +kernel)
  have hinv : rxILWO_2 S0 ws S (r 8) (r 9) (r 10) (r 11) := hinv
  rw [← hr_ 8 (by decide), ← hr_ 9 (by decide), ← hr_ 10 (by decide), ← hr_ 11 (by decide)] at hinv
  obtain ⟨⟨l8, u8⟩, ⟨l9, u9⟩, ⟨l10, u10⟩, ⟨l11, u11⟩, ⟨l12, u12⟩, ⟨l13, u13⟩, -⟩ := b_
  obtain ⟨e0, ⟨e1, w_⟩⟩ := d_
  subst w_
  have g := rxcLWO_2_0 hP hin I0 hinv l8 u8 l9 u9 l10 u10 l11 u11 l12 u12 l13 u13 e1 e0
  refine ⟨bx_narP_ok (l := [(13, 0, 9)]) g.1, bx_nfP_ok h0_ (fvs := []) (by decide +kernel) g.2.1, ?_, ?_⟩
  · show rxILWO_3 S0 ws S' (bx_val [(0, 0), (0, 0), (0, 0), (0, 0), (0, 0), (0, 0), (0, 0), (0, 0), (8, 0), (11, 0), (13, 0)] r' 8) (bx_val [(0, 0), (0, 0), (0, 0), (0, 0), (0, 0), (0, 0), (0, 0), (0, 0), (8, 0), (11, 0), (13, 0)] r' 9) (bx_val [(0, 0), (0, 0), (0, 0), (0, 0), (0, 0), (0, 0), (0, 0), (0, 0), (8, 0), (11, 0), (13, 0)] r' 10)
    rw [bx_val_x (n := 8) (e := (8, 0)) h0_ rfl, bx_val_x (n := 9) (e := (11, 0)) h0_ rfl, bx_val_x (n := 10) (e := (13, 0)) h0_ rfl]
    exact g.2.2.1
  · show rxmLWO_3 S0 ws S' (bx_val [(0, 0), (0, 0), (0, 0), (0, 0), (0, 0), (0, 0), (0, 0), (0, 0), (8, 0), (11, 0), (13, 0)] r' 8) (bx_val [(0, 0), (0, 0), (0, 0), (0, 0), (0, 0), (0, 0), (0, 0), (0, 0), (8, 0), (11, 0), (13, 0)] r' 9) (bx_val [(0, 0), (0, 0), (0, 0), (0, 0), (0, 0), (0, 0), (0, 0), (0, 0), (8, 0), (11, 0), (13, 0)] r' 10) < rxmLWO_2 S0 ws S' (r 8) (r 9) (r 10) (r 11)
    rw [bx_val_x (n := 8) (e := (8, 0)) h0_ rfl, bx_val_x (n := 9) (e := (11, 0)) h0_ rfl, bx_val_x (n := 10) (e := (13, 0)) h0_ rfl, ← hr_ 8 (by decide), ← hr_ 9 (by decide), ← hr_ 10 (by decide), ← hr_ 11 (by decide)]
    exact g.2.2.2
theorem rxdLWO_2_0 {S0 : Nat → Int → Int} {ws : List Int} {S : Nat → Int → Int} {s s2 cq r x12 : Int} (hP : rxPLWO S0 ws) (hin : bx_same rxL (bx_mdl rxCLWO.2.2.1) S0 S) (hin2 : bx_same rxL (bx_mdl rxCLWO.2.2.1) S S) (I0 : bx_Inv rxL S) (I1 : bx_Inv rxL S) (hinv : rxILWO_2 S0 ws S s s2 cq r) (l8 : 0 ≤ s) (u8 : s ≤ 2) (l9 : 0 ≤ s2) (u9 : s2 ≤ 2) (l10 : 0 ≤ cq) (u10 : cq ≤ 5) (l11 : 0 ≤ r) (u11 : r ≤ 17) (l12 : (-1) ≤ x12) (u12 : x12 ≤ (-1)) (e0 : S 457 r = x12) : (True) ∧ rxPSLWO S0 ws S (some 1023) := by
  obtain ⟨rfl, hw, hr⟩ := hinv
  refine ⟨trivial, rfl, s, hw, congrArg some ?_⟩
  rw [← hr, e0, show x12 = -1 by omega]
  rfl
theorem rxfLWO_2_0 {X : (Nat → Int → Int) → Prop} {S0 : Nat → Int → Int} {ws : List Int} (hP : rxPLWO S0 ws) : bx_obE rxL X S0 rxCLWO.2.2.1 (rxILWO S0 ws) (rxPSLWO S0 ws) 2 rxzLWO_2 rxeLWO_2_0 := by
  intro S S' r r' hinv hX hin hsm_ hseg
  obtain ⟨I0, I1, h0_, hr_, b_, f_, d_⟩ := bx_cl (evs := [(0, (0, 457), (11, 0), .inr (0, (12, 0)))]) (fvs := []) hseg (by decide +kernel) (by decide +kernel)
  have hinv : rxILWO_2 S0 ws S (r 8) (r 9) (r 10) (r 11) := hinv
  rw [← hr_ 8 (by decide), ← hr_ 9 (by decide), ← hr_ 10 (by decide), ← hr_ 11 (by decide)] at hinv
  obtain ⟨⟨l8, u8⟩, ⟨l9, u9⟩, ⟨l10, u10⟩, ⟨l11, u11⟩, ⟨l12, u12⟩, -⟩ := b_
  obtain ⟨e0, w_⟩ := d_
  subst w_
  have g := rxdLWO_2_0 hP hin hsm_ I0 I1 hinv l8 u8 l9 u9 l10 u10 l11 u11 l12 u12 e0
  refine ⟨bx_narP_ok (l := []) g.1, ?_⟩
  show rxPSLWO S0 ws S' (some (bx_num r' (.inr (0, (0, 1023)))))
  rw [bx_xv_ok h0_]
  exact g.2
theorem rxdLWO_4_0 {S0 : Nat → Int → Int} {ws : List Int} {S : Nat → Int → Int} {s r x y : Int} (hP : rxPLWO S0 ws) (hin : bx_same rxL (bx_mdl rxCLWO.2.2.1) S0 S) (hin2 : bx_same rxL (bx_mdl rxCLWO.2.2.1) S S) (I0 : bx_Inv rxL S) (I1 : bx_Inv rxL S) (hinv : rxILWO_4 S0 ws S s r x y) (l8 : 0 ≤ s) (u8 : s ≤ 2) (l9 : 0 ≤ r) (u9 : r ≤ 17) (l10 : 0 ≤ x) (u10 : x ≤ 9) (l11 : 1 ≤ y) (u11 : y ≤ 512) : (True) ∧ rxPSLWO S0 ws S (some y) := by
  obtain ⟨rfl, hw, hy⟩ := hinv
  exact ⟨trivial, rfl, s, hw, congrArg some hy⟩
theorem rxfLWO_4_0 {X : (Nat → Int → Int) → Prop} {S0 : Nat → Int → Int} {ws : List Int} (hP : rxPLWO S0 ws) : bx_obE rxL X S0 rxCLWO.2.2.1 (rxILWO S0 ws) (rxPSLWO S0 ws) 4 rxzLWO_4 rxeLWO_4_0 := by
  intro S S' r r' hinv hX hin hsm_ hseg
  obtain ⟨I0, I1, h0_, hr_, b_, f_, d_⟩ := bx_cl (evs := []) (fvs := []) hseg (by decide +kernel) (by decide +kernel)
  have hinv : rxILWO_4 S0 ws S (r 8) (r 9) (r 10) (r 11) := hinv
  rw [← hr_ 8 (by decide), ← hr_ 9 (by decide), ← hr_ 10 (by decide), ← hr_ 11 (by decide)] at hinv
  obtain ⟨⟨l8, u8⟩, ⟨l9, u9⟩, ⟨l10, u10⟩, ⟨l11, u11⟩, -⟩ := b_
  have w_ := d_
  subst w_
  have g := rxdLWO_4_0 hP hin hsm_ I0 I1 hinv l8 u8 l9 u9 l10 u10 l11 u11
  refine ⟨bx_narP_ok (l := []) g.1, ?_⟩
  show rxPSLWO S0 ws S' (some (bx_num r' (.inr (0, (11, 0)))))
  rw [bx_xv_ok h0_]
  exact g.2
theorem rxgCLWO {X : (Nat → Int → Int) → Prop} {S0 : Nat → Int → Int} {ws : List Int} (hP : rxPLWO S0 ws) : bx_allI (fun i q => rxULWO q = true ∨ bx_allP (fun o => bx_obC rxL X S0 rxCLWO.2.2.1 (rxILWO S0 ws) (rxmLWO S0 ws) i q.1 o) q.2.1) 0 rxYLWO := ⟨Or.inr ⟨rxgLWO_0_0 hP, trivial⟩, Or.inl rfl, Or.inr ⟨rxgLWO_2_0 hP, trivial⟩, Or.inl rfl, Or.inr trivial, trivial⟩
theorem rxgELWO {X : (Nat → Int → Int) → Prop} {S0 : Nat → Int → Int} {ws : List Int} (hP : rxPLWO S0 ws) : bx_allI (fun i q => rxULWO q = true ∨ bx_allP (fun E => bx_obE rxL X S0 rxCLWO.2.2.1 (rxILWO S0 ws) (rxPSLWO S0 ws) i q.1 E) q.2.2) 0 rxYLWO := ⟨Or.inr trivial, Or.inl rfl, Or.inr ⟨rxfLWO_2_0 hP, trivial⟩, Or.inl rfl, Or.inr ⟨rxfLWO_4_0 hP, trivial⟩, trivial⟩
theorem rxuLWO {PX : State → Prop} {Dg : va_G} {A : Nat → Prop} {ad xa : Nat → Nat} {l : Launch} {X : (Nat → Int → Int) → Prop} (hPX : rx_PXOK rxNW A PX) (hX : ∀ S S1 : Nat → Int → Int, X S → bx_same rxL (bx_mdl rxCLWO.2.2.1) S S1 → X S1) (hQLRA : bx_ConP rxG rxNW rxAO PX Dg rxL X vwCl A ad l rxM1 rxCLRA rxPLRA rxPSLRA) {S0 : Nat → Int → Int} {ws : List Int} (hP : rxPLWO S0 ws) : ∀ (i : Nat) (q : bx_HE), rxYLWO[i]? = some q → rxULWO q = true → ∀ {p : Program} {e : Env} {R : Room} {s : State} {m : MethodId} {args : Array Value} {below : List Frame} {meth : Method} {c : Code} {Q : State → Prop} {H0 : Heap}, rx_Fr rxG rxNW rxAO PX p s m args meth c rxM51 → (∀ q, H0.size ≤ q → A q) → H0 = s.heap → rxM51.2.2.2.2.2.2.1 ≤ R.cells → rxM51.2.2.2.2.2.2.2 ≤ R.slots → rxCLWO.2.2.2.1 ≤ R.frames → rxCLWO.2.2.2.1 * 40 ≤ R.locals → bx_Step p l e R s m args below meth c Q Dg rxL X vwCl A xa H0 ad rxM51 rxYLWO (rxILWO S0 ws) (rxmLWO S0 ws) S0 rxCLWO.2.2.1 i q := by
  intro i q hq hus p e R s m args below meth c Q H0 hF hA hH0 hmc hms hd hdl
  match i, hq with
  | 0, hq =>
    cases hq
    exact absurd (show false = true from hus) Bool.false_ne_true
  | 1, hq =>
    cases hq
    exact rx_stepC (ins := .invokestatic 86) (len := 3) (i' := 2) (M' := rxM1) (d := rxCLWO.2.2.2.1) (as := [.inr (0, (9, 0)), .inr (0, (10, 0))]) (t := []) (ct := rxCLRA) hPX hF rfl hA hH0 hmc hms hd hdl (by decide +kernel) rfl rfl (by decide +kernel) (by decide +kernel) hQLRA (by decide +kernel) rfl (Or.inr ⟨_, _, _, 1, rfl, rfl, by omega, rfl, rfl, rfl⟩) (rxsLWO_1 hP)
  | 2, hq =>
    cases hq
    exact absurd (show false = true from hus) Bool.false_ne_true
  | 3, hq =>
    cases hq
    exact rx_stepBS (i' := 4) (o := 35) (a := (0, 1)) (b := (10, 0)) (lo := 1) (hi := 512) (t := []) hF (⟨rfl, rfl⟩) (by decide +kernel) rfl rfl rfl rfl (rxsLWO_3 hP)
  | 4, hq =>
    cases hq
    exact absurd (show false = true from hus) Bool.false_ne_true
  | n + 5, hq => cases hq
theorem rxQLWO {PX : State → Prop} {Dg : va_G} {A : Nat → Prop} {ad xa : Nat → Nat} {l : Launch} {X : (Nat → Int → Int) → Prop} (hPX : rx_PXOK rxNW A PX) (hsl : ∀ s : State, PX s → ∀ o idx n : Nat, rxSl o idx = some n → ∃ tx : String, vk_R (rxNm o) idx tx (ad n) s)
    (hX : ∀ S S' : Nat → Int → Int, X S → bx_same rxL (bx_mdl rxCLWO.2.2.1) S S' → X S')
    (ih : ∀ (j2 : Nat) (ct2 : bx_Ct) (M2 : rx_Mt), ct2 ∈ rxCnE j2 → ct2.2.2.2.1 + 1 ≤ rxCLWO.2.2.2.1 → rxT.2.2.2.2.2 j2 = some M2 → bx_Con rxG rxNW rxAO PX Dg rxL X vwCl A ad l M2 ct2) (hQLRA : bx_ConP rxG rxNW rxAO PX Dg rxL X vwCl A ad l rxM1 rxCLRA rxPLRA rxPSLRA) : bx_ConP rxG rxNW rxAO PX Dg rxL X vwCl A ad l rxM51 rxCLWO rxPLWO rxPSLWO :=
  rxQof (xa := xa) (Cn := rxCnE) (f := 30000) (j := 51) (tab := rxYLWO) (us := rxULWO) hPX hsl hX ih rfl rxYcLWO rxILWO rxmLWO
    (fun S0 ws r I0 I ht0 ht as he he1 hX0 hI0 hP hs ha => by
      have e := he.symm.trans (show bx_ent0 rxNP rxCLWO.1 bx_I0 [] = some ([(0, 0), (0, 0), (0, 0), (0, 0), (0, 0), (0, 0), (0, 0), (0, 0), (0, 2)], [], [.inr (3, (0, 451)), .inr (0, (8, 0))]) from rfl)
      cases e
      subst ha
      have h0 : r 0 = 0 := hs.1
      show rxILWO_0 S0 _ S0 (r 8)
      refine ⟨rfl, ?_⟩
      simp only [List.map_cons, List.map_nil, bx_xv_ok h0]
      rfl)
    (fun S0 ws hP => rxuLWO (xa := xa) hPX hX hQLRA hP) (fun S0 ws hP => rxgCLWO hP) (fun S0 ws hP => rxgELWO hP)
/-! CONTRACT BY HAND, by program (wip/sim/genhand.py): DeadUnderstudies$Least.stateBehindRow -/
def rxCLSB : bx_Ct := ([(3, (1, 451, 0))], some (0, (0, (-1), 2)), [], 1, [])
def rxILSB_0 (S0 : Nat → Int → Int) (ws : List Int) (S : Nat → Int → Int) : Prop := S = S0 ∧ ws = [451]
def rxmLSB_0 (S0 : Nat → Int → Int) (ws : List Int) (S : Nat → Int → Int) : Nat := 100
def rxzLSB_0 : rx_Z := ([(0, 0), (0, 0), (0, 0), (0, 0), (0, 0), (0, 0), (0, 0), (0, 0)], [], [], 0, 0, 0, [(0, .inr (3, (0, 451)))], [])
def rxILSB_1 (S0 : Nat → Int → Int) (ws : List Int) (S : Nat → Int → Int) (l a b : Int) : Prop := S = S0 ∧ l = (S 455 (S 451 6)) ∧ a = S 456 l ∧ b = S 453 l
def rxmLSB_1 (S0 : Nat → Int → Int) (ws : List Int) (S : Nat → Int → Int) (l a b : Int) : Nat := 90
def rxzLSB_1 : rx_Z := ([(0, 0), (0, 0), (0, 0), (0, 0), (0, 0), (0, 0), (0, 0), (0, 0), (0, 11), (0, 2), (0, 5)], [], [], 0, 0, 53, [(0, .inr (3, (0, 451))), (1, .inr (0, (8, 0)))], [.inr (0, (10, 0)), .inr (0, (9, 0))])
def rxILSB_2 (S0 : Nat → Int → Int) (ws : List Int) (S : Nat → Int → Int) (l a b r : Int) : Prop := S = S0 ∧ l = (S 455 (S 451 6)) ∧ r = 6 * S 456 l + S 453 l
def rxmLSB_2 (S0 : Nat → Int → Int) (ws : List Int) (S : Nat → Int → Int) (l a b r : Int) : Nat := 80
def rxzLSB_2 : rx_Z := ([(0, 0), (0, 0), (0, 0), (0, 0), (0, 0), (0, 0), (0, 0), (0, 0), (0, 11), (0, 2), (0, 5), (0, 17)], [], [], 0, 0, 56, [(0, .inr (3, (0, 451))), (1, .inr (0, (8, 0)))], [.inr (0, (11, 0))])
def rxoLSB_0_0 : bx_HO := (([(0, 0), (0, 0), (0, 0), (0, 0), (0, 0), (0, 0), (0, 0), (0, 0), (0, 3), (0, 11), (0, 2), (0, 5)], [], [(((0, 0), 1851192626986356797424367893248739914126558548369245151045681152000000), .inr (0, (11, 0))), (((0, 451), 2), .inr (3, (0, 453))), (((0, 0), 1851192626986356797424367893248739914126558548369245151047450624000000), .inr (0, (10, 0))), (((0, 451), 11), .inr (3, (0, 456))), (((0, 0), 1851192626986356797424364830707437625680387377997778265132957696000000), .inr (0, (9, 0))), (((0, 451), 4), .inr (3, (0, 455))), (((0, 0), 1851192626986356798628580571097672967753946801749054699142316032000000), .inr (0, (8, 0))), (((0, 451), 6), .inr (0, (8, 0)))], 0, 0, 53, [(1, .inr (0, (9, 0))), (0, .inr (3, (0, 451)))], [.inr (0, (11, 0)), .inr (0, (10, 0))]), [], [], [(0, 0), (0, 0), (0, 0), (0, 0), (0, 0), (0, 0), (0, 0), (0, 0), (9, 0), (10, 0), (11, 0)], 1)
def rxeLSB_0_0 : rx_End × List (Nat × Int × Int) := (([(0, 0), (0, 0), (0, 0), (0, 0), (0, 0), (0, 0), (0, 0), (0, 0), (0, 3), ((-1), (-1))], [], [(((0, 0), 1851192626986356797424364830707437625680387377997778265132957696000000), .inr (0, (9, 0))), (((0, 451), 4), .inr (3, (0, 455))), (((0, 0), 1851192626986356798628580571097672967753946801749054699142316032000000), .inr (0, (8, 0))), (((0, 451), 6), .inr (0, (8, 0)))], some (.inr (0, (0, 0)))), [])
def rxeLSB_0_1 : rx_End × List (Nat × Int × Int) := (([(0, 0), (0, 0), (0, 0), (0, 0), (0, 0), (0, 0), (0, 0), (0, 0), ((-1), (-1))], [], [(((0, 0), 1851192626986356798628580571097672967753946801749054699142316032000000), .inr (0, (8, 0))), (((0, 451), 6), .inr (0, (8, 0)))], some (.inr (0, (0, 0)))), [])
def rxeLSB_2_0 : rx_End × List (Nat × Int × Int) := (([(0, 0), (0, 0), (0, 0), (0, 0), (0, 0), (0, 0), (0, 0), (0, 0), (0, 11), (0, 2), (0, 5), (0, 17), ((-1), 2)], [], [(((0, 0), 1851192626986356797424374018331344491018900889112178922876436480000000), .inr (0, (12, 0))), (((0, 451), 13), .inr (3, (0, 458)))], some (.inr (0, (12, 0)))), [])
def rxYLSB : List bx_HE := [(rxzLSB_0, [rxoLSB_0_0], [rxeLSB_0_0, rxeLSB_0_1]), (rxzLSB_1, [], []), (rxzLSB_2, [], [rxeLSB_2_0])]
def rxULSB (q : bx_HE) : Bool := Nat.beq (rx_zpc q.1) 53
def rxYBLSB : bx_B := (rxV, rxNP, rxDmf, bx_mdH rxCLSB.2.2.1)
set_option maxRecDepth 100000 in
theorem rxYcLSB : bx_chkH rxYBLSB rxM57 rxCLSB rxYLSB (rxULSB, fun cut z => rx_ex2 (rxCT rxYBLSB rxCnE) cut 30000 rxCLSB.2.2.2.1 57 z) = true := by decide +kernel
def rxILSB (S0 : Nat → Int → Int) (ws : List Int) (i : Nat) : bx_SP := fun S r => match i with | 0 => rxILSB_0 S0 ws S | 1 => rxILSB_1 S0 ws S (r 8) (r 9) (r 10) | 2 => rxILSB_2 S0 ws S (r 8) (r 9) (r 10) (r 11) | _ => False
def rxmLSB (S0 : Nat → Int → Int) (ws : List Int) (i : Nat) (S : Nat → Int → Int) (r : Nat → Int) : Nat := match i with | 0 => rxmLSB_0 S0 ws S | 1 => rxmLSB_1 S0 ws S (r 8) (r 9) (r 10) | 2 => rxmLSB_2 S0 ws S (r 8) (r 9) (r 10) (r 11) | _ => 0
def rxPLSB (S0 : Nat → Int → Int) (ws : List Int) : Prop := 0 ≤ S0 451 6
def rxPSLSB (S0 : Nat → Int → Int) (ws : List Int) (S : Nat → Int → Int) (w : Option Int) : Prop := S = S0 ∧ w = some (lds (S0 455 (S0 451 6)) (S0 453) (S0 458) (S0 456))
theorem rxkLSB_1 {S0 : Nat → Int → Int} {ws : List Int} {S : Nat → Int → Int} {l a b : Int} (hP : rxPLSB S0 ws) (hin : bx_same rxL (bx_mdl rxCLSB.2.2.1) S0 S) (I0 : bx_Inv rxL S) (hinv : rxILSB_1 S0 ws S l a b) (l8 : 0 ≤ l) (u8 : l ≤ 11) (l9 : 0 ≤ a) (u9 : a ≤ 2) (l10 : 0 ≤ b) (u10 : b ≤ 5) : rxPLRA S [a, b] ∧ ∀ (S' : Nat → Int → Int) (r : Int), 0 ≤ r → r ≤ 17 → rxPSLRA S [a, b] S' (some r) → bx_Inv rxL S' → bx_same rxL (bx_mdl rxCLRA.2.2.1) S S' → rxILSB_2 S0 ws S' l a b r ∧ rxmLSB_2 S0 ws S' l a b r < rxmLSB_1 S0 ws S l a b := by
  obtain ⟨h1, hl, ha, hb⟩ := hinv
  refine ⟨trivial, fun S' r g0 g1 hq I1 hsm => ?_⟩
  obtain ⟨e, s', c', hw2, hr⟩ := hq
  simp only [List.cons.injEq, and_true] at hw2
  obtain ⟨q1, q2⟩ := hw2
  have hr := Option.some.inj hr
  refine ⟨⟨e.trans h1, by rw [e]; exact hl, ?_⟩, by unfold rxmLSB_1 rxmLSB_2; omega⟩
  rw [e]
  omega
theorem rxsLSB_1 {X : (Nat → Int → Int) → Prop} {S0 : Nat → Int → Int} {ws : List Int} (hP : rxPLSB S0 ws) : rx_obK X S0 rxCLSB.2.2.1 rxCLRA.2.2.1 (rxILSB S0 ws) (rxmLSB S0 ws) 1 2 rxzLSB_1 rxzLSB_2 [.inr (0, (9, 0)), .inr (0, (10, 0))] (some 11) rxPLRA rxPSLRA := by
  intro S r hinv hXS I0 hin hs_ hf_
  have b_ := bx_bds_sat hs_
  have f_ := bx_fcl_ok hs_.1 hf_
  obtain ⟨⟨l8, u8⟩, ⟨l9, u9⟩, ⟨l10, u10⟩, -⟩ := b_
  have g := rxkLSB_1 hP hin I0 hinv l8 u8 l9 u9 l10 u10
  have ea : List.map (bx_num r) [.inr (0, (9, 0)), .inr (0, (10, 0))] = [(r 9), (r 10)] := by
    simp only [List.map_cons, List.map_nil, bx_xv_ok hs_.1]
    rfl
  rw [ea]
  refine ⟨g.1, fun S' w r' hPS hX' I1 hsm hr hw hs' => ?_⟩
  have hw := hw _ rfl
  subst hw
  have b' := hs'.2.2 11 _ _ rfl
  have g2 := g.2 S' (r' 11) b'.1 b'.2 hPS I1 hsm
  show rxILSB_2 S0 ws S' (r' 8) (r' 9) (r' 10) (r' 11) ∧ rxmLSB_2 S0 ws S' (r' 8) (r' 9) (r' 10) (r' 11) < _
  rw [hr 8 (by decide), hr 9 (by decide), hr 10 (by decide)]
  exact g2
theorem rxcLSB_0_0 {S0 : Nat → Int → Int} {ws : List Int} {S : Nat → Int → Int} {x8 x9 x10 x11 : Int} (hP : rxPLSB S0 ws) (hin : bx_same rxL (bx_mdl rxCLSB.2.2.1) S0 S) (I0 : bx_Inv rxL S) (hinv : rxILSB_0 S0 ws S) (l8 : 0 ≤ x8) (u8 : x8 ≤ 3) (l9 : 0 ≤ x9) (u9 : x9 ≤ 11) (l10 : 0 ≤ x10) (u10 : x10 ≤ 2) (l11 : 0 ≤ x11) (u11 : x11 ≤ 5) (e3 : S 451 6 = x8) (e2 : S 455 x8 = x9) (e1 : S 456 x9 = x10) (e0 : S 453 x9 = x11) : (True) ∧ (True) ∧ rxILSB_1 S0 ws S x9 x10 x11 ∧ rxmLSB_1 S0 ws S x9 x10 x11 < rxmLSB_0 S0 ws S := by
  obtain ⟨rfl, hw⟩ := hinv
  exact ⟨trivial, trivial, ⟨rfl, by rw [e3, e2], e1.symm, e0.symm⟩, by unfold rxmLSB_0 rxmLSB_1; omega⟩
theorem rxgLSB_0_0 {X : (Nat → Int → Int) → Prop} {S0 : Nat → Int → Int} {ws : List Int} (hP : rxPLSB S0 ws) : bx_obC rxL X S0 rxCLSB.2.2.1 (rxILSB S0 ws) (rxmLSB S0 ws) 0 rxzLSB_0 rxoLSB_0_0 := by
  intro S S' r r' hinv hX hin hsm_ hseg
  obtain ⟨I0, I1, h0_, hr_, b_, f_, d_⟩ := bx_cl (evs := [(0, (0, 453), (9, 0), .inr (0, (11, 0))), (0, (0, 456), (9, 0), .inr (0, (10, 0))), (0, (0, 455), (8, 0), .inr (0, (9, 0))), (0, (0, 451), (0, 6), .inr (0, (8, 0)))]) (fvs := []) hseg (by decide +kernel) (by decide +kernel)
  have hinv : rxILSB_0 S0 ws S := hinv
  obtain ⟨⟨l8, u8⟩, ⟨l9, u9⟩, ⟨l10, u10⟩, ⟨l11, u11⟩, -⟩ := b_
  obtain ⟨e0, ⟨e1, ⟨e2, ⟨e3, w_⟩⟩⟩⟩ := d_
  subst w_
  have g := rxcLSB_0_0 hP hin I0 hinv l8 u8 l9 u9 l10 u10 l11 u11 e3 e2 e1 e0
  refine ⟨bx_narP_ok (l := []) g.1, bx_nfP_ok h0_ (fvs := []) (by decide +kernel) g.2.1, ?_, ?_⟩
  · show rxILSB_1 S0 ws S' (bx_val [(0, 0), (0, 0), (0, 0), (0, 0), (0, 0), (0, 0), (0, 0), (0, 0), (9, 0), (10, 0), (11, 0)] r' 8) (bx_val [(0, 0), (0, 0), (0, 0), (0, 0), (0, 0), (0, 0), (0, 0), (0, 0), (9, 0), (10, 0), (11, 0)] r' 9) (bx_val [(0, 0), (0, 0), (0, 0), (0, 0), (0, 0), (0, 0), (0, 0), (0, 0), (9, 0), (10, 0), (11, 0)] r' 10)
    rw [bx_val_x (n := 8) (e := (9, 0)) h0_ rfl, bx_val_x (n := 9) (e := (10, 0)) h0_ rfl, bx_val_x (n := 10) (e := (11, 0)) h0_ rfl]
    exact g.2.2.1
  · show rxmLSB_1 S0 ws S' (bx_val [(0, 0), (0, 0), (0, 0), (0, 0), (0, 0), (0, 0), (0, 0), (0, 0), (9, 0), (10, 0), (11, 0)] r' 8) (bx_val [(0, 0), (0, 0), (0, 0), (0, 0), (0, 0), (0, 0), (0, 0), (0, 0), (9, 0), (10, 0), (11, 0)] r' 9) (bx_val [(0, 0), (0, 0), (0, 0), (0, 0), (0, 0), (0, 0), (0, 0), (0, 0), (9, 0), (10, 0), (11, 0)] r' 10) < rxmLSB_0 S0 ws S'
    rw [bx_val_x (n := 8) (e := (9, 0)) h0_ rfl, bx_val_x (n := 9) (e := (10, 0)) h0_ rfl, bx_val_x (n := 10) (e := (11, 0)) h0_ rfl]
    exact g.2.2.2
theorem rxdLSB_0_0 {S0 : Nat → Int → Int} {ws : List Int} {S : Nat → Int → Int} {x8 x9 : Int} (hP : rxPLSB S0 ws) (hin : bx_same rxL (bx_mdl rxCLSB.2.2.1) S0 S) (hin2 : bx_same rxL (bx_mdl rxCLSB.2.2.1) S S) (I0 : bx_Inv rxL S) (I1 : bx_Inv rxL S) (hinv : rxILSB_0 S0 ws S) (l8 : 0 ≤ x8) (u8 : x8 ≤ 3) (l9 : (-1) ≤ x9) (u9 : x9 ≤ (-1)) (e1 : S 451 6 = x8) (e0 : S 455 x8 = x9) : (True) ∧ rxPSLSB S0 ws S (some 0) := by
  obtain ⟨rfl, hw⟩ := hinv
  refine ⟨trivial, rfl, congrArg some ?_⟩
  unfold lds
  rw [e1, e0, if_pos (by omega)]
theorem rxfLSB_0_0 {X : (Nat → Int → Int) → Prop} {S0 : Nat → Int → Int} {ws : List Int} (hP : rxPLSB S0 ws) : bx_obE rxL X S0 rxCLSB.2.2.1 (rxILSB S0 ws) (rxPSLSB S0 ws) 0 rxzLSB_0 rxeLSB_0_0 := by
  intro S S' r r' hinv hX hin hsm_ hseg
  obtain ⟨I0, I1, h0_, hr_, b_, f_, d_⟩ := bx_cl (evs := [(0, (0, 455), (8, 0), .inr (0, (9, 0))), (0, (0, 451), (0, 6), .inr (0, (8, 0)))]) (fvs := []) hseg (by decide +kernel) (by decide +kernel)
  have hinv : rxILSB_0 S0 ws S := hinv
  obtain ⟨⟨l8, u8⟩, ⟨l9, u9⟩, -⟩ := b_
  obtain ⟨e0, ⟨e1, w_⟩⟩ := d_
  subst w_
  have g := rxdLSB_0_0 hP hin hsm_ I0 I1 hinv l8 u8 l9 u9 e1 e0
  refine ⟨bx_narP_ok (l := []) g.1, ?_⟩
  show rxPSLSB S0 ws S' (some (bx_num r' (.inr (0, (0, 0)))))
  rw [bx_xv_ok h0_]
  exact g.2
theorem rxdLSB_0_1 {S0 : Nat → Int → Int} {ws : List Int} {S : Nat → Int → Int} {x8 : Int} (hP : rxPLSB S0 ws) (hin : bx_same rxL (bx_mdl rxCLSB.2.2.1) S0 S) (hin2 : bx_same rxL (bx_mdl rxCLSB.2.2.1) S S) (I0 : bx_Inv rxL S) (I1 : bx_Inv rxL S) (hinv : rxILSB_0 S0 ws S) (l8 : (-1) ≤ x8) (u8 : x8 ≤ (-1)) (e0 : S 451 6 = x8) : (True) ∧ rxPSLSB S0 ws S (some 0) := by
  obtain ⟨rfl, hw⟩ := hinv
  have h6 : 0 ≤ S 451 6 := hP
  exact absurd h6 (by omega)
theorem rxfLSB_0_1 {X : (Nat → Int → Int) → Prop} {S0 : Nat → Int → Int} {ws : List Int} (hP : rxPLSB S0 ws) : bx_obE rxL X S0 rxCLSB.2.2.1 (rxILSB S0 ws) (rxPSLSB S0 ws) 0 rxzLSB_0 rxeLSB_0_1 := by
  intro S S' r r' hinv hX hin hsm_ hseg
  obtain ⟨I0, I1, h0_, hr_, b_, f_, d_⟩ := bx_cl (evs := [(0, (0, 451), (0, 6), .inr (0, (8, 0)))]) (fvs := []) hseg (by decide +kernel) (by decide +kernel)
  have hinv : rxILSB_0 S0 ws S := hinv
  obtain ⟨⟨l8, u8⟩, -⟩ := b_
  obtain ⟨e0, w_⟩ := d_
  subst w_
  have g := rxdLSB_0_1 hP hin hsm_ I0 I1 hinv l8 u8 e0
  refine ⟨bx_narP_ok (l := []) g.1, ?_⟩
  show rxPSLSB S0 ws S' (some (bx_num r' (.inr (0, (0, 0)))))
  rw [bx_xv_ok h0_]
  exact g.2
theorem rxdLSB_2_0 {S0 : Nat → Int → Int} {ws : List Int} {S : Nat → Int → Int} {l a b r x12 : Int} (hP : rxPLSB S0 ws) (hin : bx_same rxL (bx_mdl rxCLSB.2.2.1) S0 S) (hin2 : bx_same rxL (bx_mdl rxCLSB.2.2.1) S S) (I0 : bx_Inv rxL S) (I1 : bx_Inv rxL S) (hinv : rxILSB_2 S0 ws S l a b r) (l8 : 0 ≤ l) (u8 : l ≤ 11) (l9 : 0 ≤ a) (u9 : a ≤ 2) (l10 : 0 ≤ b) (u10 : b ≤ 5) (l11 : 0 ≤ r) (u11 : r ≤ 17) (l12 : (-1) ≤ x12) (u12 : x12 ≤ 2) (e0 : S 458 r = x12) : (True) ∧ rxPSLSB S0 ws S (some x12) := by
  obtain ⟨rfl, hl, hr⟩ := hinv
  refine ⟨trivial, rfl, congrArg some ?_⟩
  unfold lds
  rw [← hl, if_neg (by omega), ← hr, e0]
theorem rxfLSB_2_0 {X : (Nat → Int → Int) → Prop} {S0 : Nat → Int → Int} {ws : List Int} (hP : rxPLSB S0 ws) : bx_obE rxL X S0 rxCLSB.2.2.1 (rxILSB S0 ws) (rxPSLSB S0 ws) 2 rxzLSB_2 rxeLSB_2_0 := by
  intro S S' r r' hinv hX hin hsm_ hseg
  obtain ⟨I0, I1, h0_, hr_, b_, f_, d_⟩ := bx_cl (evs := [(0, (0, 458), (11, 0), .inr (0, (12, 0)))]) (fvs := []) hseg (by decide +kernel) (by decide +kernel)
  have hinv : rxILSB_2 S0 ws S (r 8) (r 9) (r 10) (r 11) := hinv
  rw [← hr_ 8 (by decide), ← hr_ 9 (by decide), ← hr_ 10 (by decide), ← hr_ 11 (by decide)] at hinv
  obtain ⟨⟨l8, u8⟩, ⟨l9, u9⟩, ⟨l10, u10⟩, ⟨l11, u11⟩, ⟨l12, u12⟩, -⟩ := b_
  obtain ⟨e0, w_⟩ := d_
  subst w_
  have g := rxdLSB_2_0 hP hin hsm_ I0 I1 hinv l8 u8 l9 u9 l10 u10 l11 u11 l12 u12 e0
  refine ⟨bx_narP_ok (l := []) g.1, ?_⟩
  show rxPSLSB S0 ws S' (some (bx_num r' (.inr (0, (12, 0)))))
  rw [bx_xv_ok h0_]
  exact g.2
theorem rxgCLSB {X : (Nat → Int → Int) → Prop} {S0 : Nat → Int → Int} {ws : List Int} (hP : rxPLSB S0 ws) : bx_allI (fun i q => rxULSB q = true ∨ bx_allP (fun o => bx_obC rxL X S0 rxCLSB.2.2.1 (rxILSB S0 ws) (rxmLSB S0 ws) i q.1 o) q.2.1) 0 rxYLSB := ⟨Or.inr ⟨rxgLSB_0_0 hP, trivial⟩, Or.inl rfl, Or.inr trivial, trivial⟩
theorem rxgELSB {X : (Nat → Int → Int) → Prop} {S0 : Nat → Int → Int} {ws : List Int} (hP : rxPLSB S0 ws) : bx_allI (fun i q => rxULSB q = true ∨ bx_allP (fun E => bx_obE rxL X S0 rxCLSB.2.2.1 (rxILSB S0 ws) (rxPSLSB S0 ws) i q.1 E) q.2.2) 0 rxYLSB := ⟨Or.inr ⟨rxfLSB_0_0 hP, rxfLSB_0_1 hP, trivial⟩, Or.inl rfl, Or.inr ⟨rxfLSB_2_0 hP, trivial⟩, trivial⟩
theorem rxuLSB {PX : State → Prop} {Dg : va_G} {A : Nat → Prop} {ad xa : Nat → Nat} {l : Launch} {X : (Nat → Int → Int) → Prop} (hPX : rx_PXOK rxNW A PX) (hX : ∀ S S1 : Nat → Int → Int, X S → bx_same rxL (bx_mdl rxCLSB.2.2.1) S S1 → X S1) (hQLRA : bx_ConP rxG rxNW rxAO PX Dg rxL X vwCl A ad l rxM1 rxCLRA rxPLRA rxPSLRA) {S0 : Nat → Int → Int} {ws : List Int} (hP : rxPLSB S0 ws) : ∀ (i : Nat) (q : bx_HE), rxYLSB[i]? = some q → rxULSB q = true → ∀ {p : Program} {e : Env} {R : Room} {s : State} {m : MethodId} {args : Array Value} {below : List Frame} {meth : Method} {c : Code} {Q : State → Prop} {H0 : Heap}, rx_Fr rxG rxNW rxAO PX p s m args meth c rxM57 → (∀ q, H0.size ≤ q → A q) → H0 = s.heap → rxM57.2.2.2.2.2.2.1 ≤ R.cells → rxM57.2.2.2.2.2.2.2 ≤ R.slots → rxCLSB.2.2.2.1 ≤ R.frames → rxCLSB.2.2.2.1 * 40 ≤ R.locals → bx_Step p l e R s m args below meth c Q Dg rxL X vwCl A xa H0 ad rxM57 rxYLSB (rxILSB S0 ws) (rxmLSB S0 ws) S0 rxCLSB.2.2.1 i q := by
  intro i q hq hus p e R s m args below meth c Q H0 hF hA hH0 hmc hms hd hdl
  match i, hq with
  | 0, hq =>
    cases hq
    exact absurd (show false = true from hus) Bool.false_ne_true
  | 1, hq =>
    cases hq
    exact rx_stepC (ins := .invokestatic 86) (len := 3) (i' := 2) (M' := rxM1) (d := rxCLSB.2.2.2.1) (as := [.inr (0, (9, 0)), .inr (0, (10, 0))]) (t := []) (ct := rxCLRA) hPX hF rfl hA hH0 hmc hms hd hdl (by decide +kernel) rfl rfl (by decide +kernel) (by decide +kernel) hQLRA (by decide +kernel) rfl (Or.inr ⟨_, _, _, 1, rfl, rfl, by omega, rfl, rfl, rfl⟩) (rxsLSB_1 hP)
  | 2, hq =>
    cases hq
    exact absurd (show false = true from hus) Bool.false_ne_true
  | n + 3, hq => cases hq
theorem rxQLSB {PX : State → Prop} {Dg : va_G} {A : Nat → Prop} {ad xa : Nat → Nat} {l : Launch} {X : (Nat → Int → Int) → Prop} (hPX : rx_PXOK rxNW A PX) (hsl : ∀ s : State, PX s → ∀ o idx n : Nat, rxSl o idx = some n → ∃ tx : String, vk_R (rxNm o) idx tx (ad n) s)
    (hX : ∀ S S' : Nat → Int → Int, X S → bx_same rxL (bx_mdl rxCLSB.2.2.1) S S' → X S')
    (ih : ∀ (j2 : Nat) (ct2 : bx_Ct) (M2 : rx_Mt), ct2 ∈ rxCnE j2 → ct2.2.2.2.1 + 1 ≤ rxCLSB.2.2.2.1 → rxT.2.2.2.2.2 j2 = some M2 → bx_Con rxG rxNW rxAO PX Dg rxL X vwCl A ad l M2 ct2) (hQLRA : bx_ConP rxG rxNW rxAO PX Dg rxL X vwCl A ad l rxM1 rxCLRA rxPLRA rxPSLRA) : bx_ConP rxG rxNW rxAO PX Dg rxL X vwCl A ad l rxM57 rxCLSB rxPLSB rxPSLSB :=
  rxQof (xa := xa) (Cn := rxCnE) (f := 30000) (j := 57) (tab := rxYLSB) (us := rxULSB) hPX hsl hX ih rfl rxYcLSB rxILSB rxmLSB
    (fun S0 ws r I0 I ht0 ht as he he1 hX0 hI0 hP hs ha => by
      have e := he.symm.trans (show bx_ent0 rxNP rxCLSB.1 bx_I0 [] = some ([(0, 0), (0, 0), (0, 0), (0, 0), (0, 0), (0, 0), (0, 0), (0, 0)], [], [.inr (3, (0, 451))]) from rfl)
      cases e
      subst ha
      have h0 : r 0 = 0 := hs.1
      show rxILSB_0 S0 _ S0
      refine ⟨rfl, ?_⟩
      simp only [List.map_cons, List.map_nil, bx_xv_ok h0]
      rfl)
    (fun S0 ws hP => rxuLSB (xa := xa) hPX hX hQLRA hP) (fun S0 ws hP => rxgCLSB hP) (fun S0 ws hP => rxgELSB hP)
