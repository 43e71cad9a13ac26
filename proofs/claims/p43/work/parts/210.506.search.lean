/-! LEAST: a whole search -/
def ldFq (S0 S : Nat → Int → Int) : Prop := S 451 0 = S0 451 0 ∧ (∀ j : Int, 0 ≤ j → j < 12 → S 452 j = S0 452 j) ∧ (∀ j : Int, 0 ≤ j → j < 12 → S 453 j = S0 453 j) ∧ (∀ j : Int, 0 ≤ j → j < 12 → S 454 j = S0 454 j) ∧ (∀ j : Int, 0 ≤ j → j < 4 → S 455 j = S0 455 j)
theorem ldFq_of {S0 S : Nat → Int → Int} (h : bx_same rxL (bx_mdl [(4, 5), (4, 6), (4, 7), (4, 8), (4, 9), (4, 10), (1047, 0), (1048, 0), (1049, 0)]) S0 S) : ldFq S0 S :=
  ⟨h 451 0 (by decide) (by decide) (by decide +kernel),
   fun j h0 h1 => rx_sameR2 h (tc := 0) (n := 12) (g := 43) rfl (by omega) (by decide +kernel) (by decide +kernel) h0 h1, fun j h0 h1 => rx_sameR2 h (tc := 0) (n := 12) (g := 44) rfl (by omega) (by decide +kernel) (by decide +kernel) h0 h1, fun j h0 h1 => rx_sameR2 h (tc := 0) (n := 12) (g := 45) rfl (by omega) (by decide +kernel) (by decide +kernel) h0 h1, fun j h0 h1 => rx_sameR2 h (tc := 0) (n := 4) (g := 46) rfl (by omega) (by decide +kernel) (by decide +kernel) h0 h1⟩
def ldDm (S : Nat → Int → Int) (m row cue : Int) : ldD := (m, S 451 0, ldt (S 451 0) (S 453), ldt (S 451 0) (S 454), ldt (S 451 0) (S 452), ldl m cue (ldt 4 (S 455) row) (ldt (S 451 0) (S 453)))
def ldNs (S : Nat → Int → Int) (m : Int) : Nat := (ldA (m, S 451 0, ldt (S 451 0) (S 453), ldt (S 451 0) (S 454), ldt (S 451 0) (S 452), fun _ _ _ => 0)).length
theorem ldNs_m {S : Nat → Int → Int} {m row cue : Int} : (ldA (ldDm S m row cue)).length = ldNs S m := ldT_lenf _ _ _ _ _ _ _
theorem ldDm_fr {S0 S : Nat → Int → Int} {m row cue : Int} (hn : S0 451 0 ≤ 12) (h : ldFq S0 S) : ldDm S m row cue = ldDm S0 m row cue := by
  obtain ⟨a0, b2, b3, b4, b5⟩ := h
  unfold ldDm
  rw [a0, ldt_cg (f := S 452) (g := S0 452) (fun j x y => b2 j x (by omega)), ldt_cg (f := S 453) (g := S0 453) (fun j x y => b3 j x (by omega)), ldt_cg (f := S 454) (g := S0 454) (fun j x y => b4 j x (by omega)), ldt_cg (f := S 455) (g := S0 455) b5]
theorem ldNs_fr {S0 S : Nat → Int → Int} {m : Int} (hn : S0 451 0 ≤ 12) (h : ldFq S0 S) : ldNs S m = ldNs S0 m := by
  rw [← ldNs_m (S := S) (row := 0) (cue := 0), ← ldNs_m (S := S0) (row := 0) (cue := 0), ldDm_fr hn h]
theorem ldA_len {D : ldD} (h : D.2.1 ≤ 12) : (ldA D).length ≤ 531441 := Nat.le_trans (ldT_len _ _ _ _ _ _ _) (Nat.le_trans (Nat.pow_le_pow_right (by omega) (show D.2.1.toNat ≤ 12 by omega)) (by decide))
theorem ldTS_A {S0 S : Nat → Int → Int} {m row cue : Int} (hn : S0 451 0 ≤ 12) (h : ldFq S0 S) (h5 : S 451 5 = m) (h6 : S 451 6 = row) (h7 : S 451 7 = cue) (ha : ∀ j : Int, 0 ≤ j → j < 18 → S 457 j = -1) (hg : ∀ j : Int, 0 ≤ j → j < 18 → S 458 j = -1) : ldTS S 0 0 1 = ldA (ldDm S0 m row cue) := by
  rw [← ldDm_fr hn h]
  unfold ldTS ldA
  rw [ldt_cg (f := S 457) (g := fun _ => -1) ha, ldt_cg (f := S 458) (g := fun _ => -1) hg, ldt_0 (f := S 456) (g := fun _ => 0), Int.sub_zero, ← h5, ← h6, ← h7]
  rfl
theorem ldNe {T : List Nat} : T ≠ [] ↔ T.length ≠ 0 := by cases T <;> simp
/-! CONTRACT BY HAND, by program (wip/sim/genhand.py): java/util/Arrays.fill -/
def rxCLFA : bx_Ct := ([(3, (1, 457, 0)), (0, (0, (-1), (-1)))], none, [(1048, 0)], 0, [])
def rxILFA_0 (S0 : Nat → Int → Int) (ws : List Int) (S : Nat → Int → Int) (x : Int) : Prop := S = S0 ∧ ws = [457, x]
def rxmLFA_0 (S0 : Nat → Int → Int) (ws : List Int) (S : Nat → Int → Int) (x : Int) : Nat := 1000
def rxzLFA_0 : rx_Z := ([(0, 0), (0, 0), (0, 0), (0, 0), (0, 0), (0, 0), (0, 0), (0, 0), ((-1), (-1))], [], [], 0, 0, 0, [(0, .inr (3, (0, 457))), (1, .inr (0, (8, 0)))], [])
def rxILFA_1 (S0 : Nat → Int → Int) (ws : List Int) (S : Nat → Int → Int) (x i : Int) : Prop := ∀ j : Int, 0 ≤ j → j < i → S 457 j = -1
def rxmLFA_1 (S0 : Nat → Int → Int) (ws : List Int) (S : Nat → Int → Int) (x i : Int) : Nat := 10 * (20 - i).toNat
def rxzLFA_1 : rx_Z := ([(0, 0), (0, 0), (0, 0), (0, 0), (0, 0), (0, 0), (0, 0), (0, 0), ((-1), (-1)), (0, 18)], [], [], 0, 0, 5, [(0, .inr (3, (0, 457))), (1, .inr (0, (8, 0))), (2, .inr (0, (9, 0))), (3, .inr (0, (0, 18)))], [])
def rxoLFA_0_0 : bx_HO := (([(0, 0), (0, 0), (0, 0), (0, 0), (0, 0), (0, 0), (0, 0), (0, 0), ((-1), (-1))], [], [], 0, 0, 5, [(3, .inr (0, (0, 18))), (2, .inr (0, (0, 0))), (0, .inr (3, (0, 457))), (1, .inr (0, (8, 0)))], []), [], [], [(0, 0), (0, 0), (0, 0), (0, 0), (0, 0), (0, 0), (0, 0), (0, 0), (8, 0), (0, 0)], 1)
def rxoLFA_1_0 : bx_HO := (([(0, 0), (0, 0), (0, 0), (0, 0), (0, 0), (0, 0), (0, 0), (0, 0), ((-1), (-1)), (0, 17)], [], [(((0, 0), 1851192626986356797424367893248739914126558548369245151048040451000000), .inr (0, (8, 0)))], 0, 0, 5, [(2, .inr (0, (9, 1))), (0, .inr (3, (0, 457))), (1, .inr (0, (8, 0))), (3, .inr (0, (0, 18)))], []), [], [], [(0, 0), (0, 0), (0, 0), (0, 0), (0, 0), (0, 0), (0, 0), (0, 0), (8, 0), (9, 1)], 1)
def rxeLFA_1_0 : rx_End × List (Nat × Int × Int) := (([(0, 0), (0, 0), (0, 0), (0, 0), (0, 0), (0, 0), (0, 0), (0, 0), ((-1), (-1)), (18, 18)], [], [], none), [])
def rxYLFA : List bx_HE := [(rxzLFA_0, [rxoLFA_0_0], []), (rxzLFA_1, [rxoLFA_1_0], [rxeLFA_1_0])]
def rxULFA (q : bx_HE) : Bool := false
def rxYBLFA : bx_B := (rxV, rxNP, rxDmf, bx_mdH rxCLFA.2.2.1)
set_option maxRecDepth 100000 in
theorem rxYcLFA : bx_chkH rxYBLFA rxM0 rxCLFA rxYLFA (rxULFA, fun cut z => rx_ex2 (rxCT rxYBLFA rxCnE) cut 30000 rxCLFA.2.2.2.1 0 z) = true := by decide +kernel
def rxILFA (S0 : Nat → Int → Int) (ws : List Int) (i : Nat) : bx_SP := fun S r => match i with | 0 => rxILFA_0 S0 ws S (r 8) | 1 => rxILFA_1 S0 ws S (r 8) (r 9) | _ => False
def rxmLFA (S0 : Nat → Int → Int) (ws : List Int) (i : Nat) (S : Nat → Int → Int) (r : Nat → Int) : Nat := match i with | 0 => rxmLFA_0 S0 ws S (r 8) | 1 => rxmLFA_1 S0 ws S (r 8) (r 9) | _ => 0
def rxPLFA (S0 : Nat → Int → Int) (ws : List Int) : Prop := True
def rxPSLFA (S0 : Nat → Int → Int) (ws : List Int) (S : Nat → Int → Int) (w : Option Int) : Prop := w = none ∧ ∀ j : Int, 0 ≤ j → j < 18 → S 457 j = -1
theorem rxcLFA_0_0 {S0 : Nat → Int → Int} {ws : List Int} {S : Nat → Int → Int} {x : Int} (hP : rxPLFA S0 ws) (hin : bx_same rxL (bx_mdl rxCLFA.2.2.1) S0 S) (I0 : bx_Inv rxL S) (hinv : rxILFA_0 S0 ws S x) (l8 : (-1) ≤ x) (u8 : x ≤ (-1)) : (True) ∧ (True) ∧ rxILFA_1 S0 ws S x 0 ∧ rxmLFA_1 S0 ws S x 0 < rxmLFA_0 S0 ws S x := by
  exact ⟨trivial, trivial, fun j h0 h1 => by omega, by unfold rxmLFA_0 rxmLFA_1; omega⟩
theorem rxgLFA_0_0 {X : (Nat → Int → Int) → Prop} {S0 : Nat → Int → Int} {ws : List Int} (hP : rxPLFA S0 ws) : bx_obC rxL X S0 rxCLFA.2.2.1 (rxILFA S0 ws) (rxmLFA S0 ws) 0 rxzLFA_0 rxoLFA_0_0 := by
  intro S S' r r' hinv hX hin hsm_ hseg
  obtain ⟨I0, I1, h0_, hr_, b_, f_, d_⟩ := bx_cl (evs := []) (fvs := []) hseg (by decide +kernel) (by decide +kernel)
  have hinv : rxILFA_0 S0 ws S (r 8) := hinv
  rw [← hr_ 8 (by decide)] at hinv
  obtain ⟨⟨l8, u8⟩, -⟩ := b_
  have w_ := d_
  subst w_
  have g := rxcLFA_0_0 hP hin I0 hinv l8 u8
  refine ⟨bx_narP_ok (l := []) g.1, bx_nfP_ok h0_ (fvs := []) (by decide +kernel) g.2.1, ?_, ?_⟩
  · show rxILFA_1 S0 ws S' (bx_val [(0, 0), (0, 0), (0, 0), (0, 0), (0, 0), (0, 0), (0, 0), (0, 0), (8, 0), (0, 0)] r' 8) (bx_val [(0, 0), (0, 0), (0, 0), (0, 0), (0, 0), (0, 0), (0, 0), (0, 0), (8, 0), (0, 0)] r' 9)
    rw [bx_val_x (n := 8) (e := (8, 0)) h0_ rfl, bx_val_x (n := 9) (e := (0, 0)) h0_ rfl]
    exact g.2.2.1
  · show rxmLFA_1 S0 ws S' (bx_val [(0, 0), (0, 0), (0, 0), (0, 0), (0, 0), (0, 0), (0, 0), (0, 0), (8, 0), (0, 0)] r' 8) (bx_val [(0, 0), (0, 0), (0, 0), (0, 0), (0, 0), (0, 0), (0, 0), (0, 0), (8, 0), (0, 0)] r' 9) < rxmLFA_0 S0 ws S' (r 8)
    rw [bx_val_x (n := 8) (e := (8, 0)) h0_ rfl, bx_val_x (n := 9) (e := (0, 0)) h0_ rfl, ← hr_ 8 (by decide)]
    exact g.2.2.2
theorem rxcLFA_1_0 {S0 : Nat → Int → Int} {ws : List Int} {S : Nat → Int → Int} {x i : Int} (hP : rxPLFA S0 ws) (hin : bx_same rxL (bx_mdl rxCLFA.2.2.1) S0 S) (I0 : bx_Inv rxL S) (hinv : rxILFA_1 S0 ws S x i) (l8 : (-1) ≤ x) (u8 : x ≤ (-1)) (l9 : 0 ≤ i) (u9 : i ≤ 17) : (True) ∧ (True) ∧ rxILFA_1 S0 ws (bx_up S 457 i x) x (i + 1) ∧ rxmLFA_1 S0 ws (bx_up S 457 i x) x (i + 1) < rxmLFA_1 S0 ws S x i := by
  refine ⟨trivial, trivial, fun j h0 h1 => ?_, by unfold rxmLFA_1; omega⟩
  by_cases hj : j = i
  · rw [hj, bx_up_at]
    first | rfl | omega
  · rw [bx_up_ne (by omega)]
    exact hinv j h0 (by omega)
theorem rxgLFA_1_0 {X : (Nat → Int → Int) → Prop} {S0 : Nat → Int → Int} {ws : List Int} (hP : rxPLFA S0 ws) : bx_obC rxL X S0 rxCLFA.2.2.1 (rxILFA S0 ws) (rxmLFA S0 ws) 1 rxzLFA_1 rxoLFA_1_0 := by
  intro S S' r r' hinv hX hin hsm_ hseg
  obtain ⟨I0, I1, h0_, hr_, b_, f_, d_⟩ := bx_cl (evs := [(1, (0, 457), (9, 0), .inr (0, (8, 0)))]) (fvs := []) hseg (by decide +kernel) (by decide +kernel)
  have hinv : rxILFA_1 S0 ws S (r 8) (r 9) := hinv
  rw [← hr_ 8 (by decide), ← hr_ 9 (by decide)] at hinv
  obtain ⟨⟨l8, u8⟩, ⟨l9, u9⟩, -⟩ := b_
  obtain ⟨T0, w_, w0⟩ := d_
  subst w0
  subst w_
  have g := rxcLFA_1_0 hP hin I0 hinv l8 u8 l9 u9
  refine ⟨bx_narP_ok (l := []) g.1, bx_nfP_ok h0_ (fvs := []) (by decide +kernel) g.2.1, ?_, ?_⟩
  · show rxILFA_1 S0 ws (bx_up T0 457 (r' 9) (r' 8)) (bx_val [(0, 0), (0, 0), (0, 0), (0, 0), (0, 0), (0, 0), (0, 0), (0, 0), (8, 0), (9, 1)] r' 8) (bx_val [(0, 0), (0, 0), (0, 0), (0, 0), (0, 0), (0, 0), (0, 0), (0, 0), (8, 0), (9, 1)] r' 9)
    rw [bx_val_x (n := 8) (e := (8, 0)) h0_ rfl, bx_val_x (n := 9) (e := (9, 1)) h0_ rfl]
    exact g.2.2.1
  · show rxmLFA_1 S0 ws (bx_up T0 457 (r' 9) (r' 8)) (bx_val [(0, 0), (0, 0), (0, 0), (0, 0), (0, 0), (0, 0), (0, 0), (0, 0), (8, 0), (9, 1)] r' 8) (bx_val [(0, 0), (0, 0), (0, 0), (0, 0), (0, 0), (0, 0), (0, 0), (0, 0), (8, 0), (9, 1)] r' 9) < rxmLFA_1 S0 ws T0 (r 8) (r 9)
    rw [bx_val_x (n := 8) (e := (8, 0)) h0_ rfl, bx_val_x (n := 9) (e := (9, 1)) h0_ rfl, ← hr_ 8 (by decide), ← hr_ 9 (by decide)]
    exact g.2.2.2
theorem rxdLFA_1_0 {S0 : Nat → Int → Int} {ws : List Int} {S : Nat → Int → Int} {x i : Int} (hP : rxPLFA S0 ws) (hin : bx_same rxL (bx_mdl rxCLFA.2.2.1) S0 S) (hin2 : bx_same rxL (bx_mdl rxCLFA.2.2.1) S S) (I0 : bx_Inv rxL S) (I1 : bx_Inv rxL S) (hinv : rxILFA_1 S0 ws S x i) (l8 : (-1) ≤ x) (u8 : x ≤ (-1)) (l9 : 18 ≤ i) (u9 : i ≤ 18) : (True) ∧ rxPSLFA S0 ws S none := by
  exact ⟨trivial, rfl, fun j h0 h1 => hinv j h0 (by omega)⟩
theorem rxfLFA_1_0 {X : (Nat → Int → Int) → Prop} {S0 : Nat → Int → Int} {ws : List Int} (hP : rxPLFA S0 ws) : bx_obE rxL X S0 rxCLFA.2.2.1 (rxILFA S0 ws) (rxPSLFA S0 ws) 1 rxzLFA_1 rxeLFA_1_0 := by
  intro S S' r r' hinv hX hin hsm_ hseg
  obtain ⟨I0, I1, h0_, hr_, b_, f_, d_⟩ := bx_cl (evs := []) (fvs := []) hseg (by decide +kernel) (by decide +kernel)
  have hinv : rxILFA_1 S0 ws S (r 8) (r 9) := hinv
  rw [← hr_ 8 (by decide), ← hr_ 9 (by decide)] at hinv
  obtain ⟨⟨l8, u8⟩, ⟨l9, u9⟩, -⟩ := b_
  have w_ := d_
  subst w_
  have g := rxdLFA_1_0 hP hin hsm_ I0 I1 hinv l8 u8 l9 u9
  refine ⟨bx_narP_ok (l := []) g.1, ?_⟩
  exact g.2
theorem rxgCLFA {X : (Nat → Int → Int) → Prop} {S0 : Nat → Int → Int} {ws : List Int} (hP : rxPLFA S0 ws) : bx_allI (fun i q => rxULFA q = true ∨ bx_allP (fun o => bx_obC rxL X S0 rxCLFA.2.2.1 (rxILFA S0 ws) (rxmLFA S0 ws) i q.1 o) q.2.1) 0 rxYLFA := ⟨Or.inr ⟨rxgLFA_0_0 hP, trivial⟩, Or.inr ⟨rxgLFA_1_0 hP, trivial⟩, trivial⟩
theorem rxgELFA {X : (Nat → Int → Int) → Prop} {S0 : Nat → Int → Int} {ws : List Int} (hP : rxPLFA S0 ws) : bx_allI (fun i q => rxULFA q = true ∨ bx_allP (fun E => bx_obE rxL X S0 rxCLFA.2.2.1 (rxILFA S0 ws) (rxPSLFA S0 ws) i q.1 E) q.2.2) 0 rxYLFA := ⟨Or.inr trivial, Or.inr ⟨rxfLFA_1_0 hP, trivial⟩, trivial⟩
theorem rxQLFA {PX : State → Prop} {Dg : va_G} {A : Nat → Prop} {ad xa : Nat → Nat} {l : Launch} {X : (Nat → Int → Int) → Prop} (hPX : rx_PXOK rxNW A PX) (hsl : ∀ s : State, PX s → ∀ o idx n : Nat, rxSl o idx = some n → ∃ tx : String, vk_R (rxNm o) idx tx (ad n) s)
    (hX : ∀ S S' : Nat → Int → Int, X S → bx_same rxL (bx_mdl rxCLFA.2.2.1) S S' → X S')
    (ih : ∀ (j2 : Nat) (ct2 : bx_Ct) (M2 : rx_Mt), ct2 ∈ rxCnE j2 → ct2.2.2.2.1 + 1 ≤ rxCLFA.2.2.2.1 → rxT.2.2.2.2.2 j2 = some M2 → bx_Con rxG rxNW rxAO PX Dg rxL X vwCl A ad l M2 ct2) : bx_ConP rxG rxNW rxAO PX Dg rxL X vwCl A ad l rxM0 rxCLFA rxPLFA rxPSLFA :=
  rxQof (xa := xa) (Cn := rxCnE) (f := 30000) (j := 0) (tab := rxYLFA) (us := rxULFA) hPX hsl hX ih rfl rxYcLFA rxILFA rxmLFA
    (fun S0 ws r I0 I ht0 ht as he he1 hX0 hI0 hP hs ha => by
      have e := he.symm.trans (show bx_ent0 rxNP rxCLFA.1 bx_I0 [] = some ([(0, 0), (0, 0), (0, 0), (0, 0), (0, 0), (0, 0), (0, 0), (0, 0), ((-1), (-1))], [], [.inr (3, (0, 457)), .inr (0, (8, 0))]) from rfl)
      cases e
      subst ha
      have h0 : r 0 = 0 := hs.1
      show rxILFA_0 S0 _ S0 (r 8)
      refine ⟨rfl, ?_⟩
      simp only [List.map_cons, List.map_nil, bx_xv_ok h0]
      rfl)
    (fun S0 ws hP => fun i q hq hus => absurd (show false = true from hus) Bool.false_ne_true) (fun S0 ws hP => rxgCLFA hP) (fun S0 ws hP => rxgELFA hP)
/-! CONTRACT BY HAND, by program (wip/sim/genhand.py): java/util/Arrays.fill -/
def rxCLFB : bx_Ct := ([(3, (1, 458, 0)), (0, (0, (-1), (-1)))], none, [(1049, 0)], 0, [])
def rxILFB_0 (S0 : Nat → Int → Int) (ws : List Int) (S : Nat → Int → Int) (x : Int) : Prop := S = S0 ∧ ws = [458, x]
def rxmLFB_0 (S0 : Nat → Int → Int) (ws : List Int) (S : Nat → Int → Int) (x : Int) : Nat := 1000
def rxzLFB_0 : rx_Z := ([(0, 0), (0, 0), (0, 0), (0, 0), (0, 0), (0, 0), (0, 0), (0, 0), ((-1), (-1))], [], [], 0, 0, 0, [(0, .inr (3, (0, 458))), (1, .inr (0, (8, 0)))], [])
def rxILFB_1 (S0 : Nat → Int → Int) (ws : List Int) (S : Nat → Int → Int) (x i : Int) : Prop := ∀ j : Int, 0 ≤ j → j < i → S 458 j = -1
def rxmLFB_1 (S0 : Nat → Int → Int) (ws : List Int) (S : Nat → Int → Int) (x i : Int) : Nat := 10 * (20 - i).toNat
def rxzLFB_1 : rx_Z := ([(0, 0), (0, 0), (0, 0), (0, 0), (0, 0), (0, 0), (0, 0), (0, 0), ((-1), (-1)), (0, 18)], [], [], 0, 0, 5, [(0, .inr (3, (0, 458))), (1, .inr (0, (8, 0))), (2, .inr (0, (9, 0))), (3, .inr (0, (0, 18)))], [])
def rxoLFB_0_0 : bx_HO := (([(0, 0), (0, 0), (0, 0), (0, 0), (0, 0), (0, 0), (0, 0), (0, 0), ((-1), (-1))], [], [], 0, 0, 5, [(3, .inr (0, (0, 18))), (2, .inr (0, (0, 0))), (0, .inr (3, (0, 458))), (1, .inr (0, (8, 0)))], []), [], [], [(0, 0), (0, 0), (0, 0), (0, 0), (0, 0), (0, 0), (0, 0), (0, 0), (8, 0), (0, 0)], 1)
def rxoLFB_1_0 : bx_HO := (([(0, 0), (0, 0), (0, 0), (0, 0), (0, 0), (0, 0), (0, 0), (0, 0), ((-1), (-1)), (0, 17)], [], [(((0, 0), 1851192626986356797424367893248739914126558548369245151048630275000000), .inr (0, (8, 0)))], 0, 0, 5, [(2, .inr (0, (9, 1))), (0, .inr (3, (0, 458))), (1, .inr (0, (8, 0))), (3, .inr (0, (0, 18)))], []), [], [], [(0, 0), (0, 0), (0, 0), (0, 0), (0, 0), (0, 0), (0, 0), (0, 0), (8, 0), (9, 1)], 1)
def rxeLFB_1_0 : rx_End × List (Nat × Int × Int) := (([(0, 0), (0, 0), (0, 0), (0, 0), (0, 0), (0, 0), (0, 0), (0, 0), ((-1), (-1)), (18, 18)], [], [], none), [])
def rxYLFB : List bx_HE := [(rxzLFB_0, [rxoLFB_0_0], []), (rxzLFB_1, [rxoLFB_1_0], [rxeLFB_1_0])]
def rxULFB (q : bx_HE) : Bool := false
def rxYBLFB : bx_B := (rxV, rxNP, rxDmf, bx_mdH rxCLFB.2.2.1)
set_option maxRecDepth 100000 in
theorem rxYcLFB : bx_chkH rxYBLFB rxM0 rxCLFB rxYLFB (rxULFB, fun cut z => rx_ex2 (rxCT rxYBLFB rxCnE) cut 30000 rxCLFB.2.2.2.1 0 z) = true := by decide +kernel
def rxILFB (S0 : Nat → Int → Int) (ws : List Int) (i : Nat) : bx_SP := fun S r => match i with | 0 => rxILFB_0 S0 ws S (r 8) | 1 => rxILFB_1 S0 ws S (r 8) (r 9) | _ => False
def rxmLFB (S0 : Nat → Int → Int) (ws : List Int) (i : Nat) (S : Nat → Int → Int) (r : Nat → Int) : Nat := match i with | 0 => rxmLFB_0 S0 ws S (r 8) | 1 => rxmLFB_1 S0 ws S (r 8) (r 9) | _ => 0
def rxPLFB (S0 : Nat → Int → Int) (ws : List Int) : Prop := True
def rxPSLFB (S0 : Nat → Int → Int) (ws : List Int) (S : Nat → Int → Int) (w : Option Int) : Prop := w = none ∧ ∀ j : Int, 0 ≤ j → j < 18 → S 458 j = -1
theorem rxcLFB_0_0 {S0 : Nat → Int → Int} {ws : List Int} {S : Nat → Int → Int} {x : Int} (hP : rxPLFB S0 ws) (hin : bx_same rxL (bx_mdl rxCLFB.2.2.1) S0 S) (I0 : bx_Inv rxL S) (hinv : rxILFB_0 S0 ws S x) (l8 : (-1) ≤ x) (u8 : x ≤ (-1)) : (True) ∧ (True) ∧ rxILFB_1 S0 ws S x 0 ∧ rxmLFB_1 S0 ws S x 0 < rxmLFB_0 S0 ws S x := by
  exact ⟨trivial, trivial, fun j h0 h1 => by omega, by unfold rxmLFB_0 rxmLFB_1; omega⟩
theorem rxgLFB_0_0 {X : (Nat → Int → Int) → Prop} {S0 : Nat → Int → Int} {ws : List Int} (hP : rxPLFB S0 ws) : bx_obC rxL X S0 rxCLFB.2.2.1 (rxILFB S0 ws) (rxmLFB S0 ws) 0 rxzLFB_0 rxoLFB_0_0 := by
  intro S S' r r' hinv hX hin hsm_ hseg
  obtain ⟨I0, I1, h0_, hr_, b_, f_, d_⟩ := bx_cl (evs := []) (fvs := []) hseg (by decide +kernel) (by decide +kernel)
  have hinv : rxILFB_0 S0 ws S (r 8) := hinv
  rw [← hr_ 8 (by decide)] at hinv
  obtain ⟨⟨l8, u8⟩, -⟩ := b_
  have w_ := d_
  subst w_
  have g := rxcLFB_0_0 hP hin I0 hinv l8 u8
  refine ⟨bx_narP_ok (l := []) g.1, bx_nfP_ok h0_ (fvs := []) (by decide +kernel) g.2.1, ?_, ?_⟩
  · show rxILFB_1 S0 ws S' (bx_val [(0, 0), (0, 0), (0, 0), (0, 0), (0, 0), (0, 0), (0, 0), (0, 0), (8, 0), (0, 0)] r' 8) (bx_val [(0, 0), (0, 0), (0, 0), (0, 0), (0, 0), (0, 0), (0, 0), (0, 0), (8, 0), (0, 0)] r' 9)
    rw [bx_val_x (n := 8) (e := (8, 0)) h0_ rfl, bx_val_x (n := 9) (e := (0, 0)) h0_ rfl]
    exact g.2.2.1
  · show rxmLFB_1 S0 ws S' (bx_val [(0, 0), (0, 0), (0, 0), (0, 0), (0, 0), (0, 0), (0, 0), (0, 0), (8, 0), (0, 0)] r' 8) (bx_val [(0, 0), (0, 0), (0, 0), (0, 0), (0, 0), (0, 0), (0, 0), (0, 0), (8, 0), (0, 0)] r' 9) < rxmLFB_0 S0 ws S' (r 8)
    rw [bx_val_x (n := 8) (e := (8, 0)) h0_ rfl, bx_val_x (n := 9) (e := (0, 0)) h0_ rfl, ← hr_ 8 (by decide)]
    exact g.2.2.2
theorem rxcLFB_1_0 {S0 : Nat → Int → Int} {ws : List Int} {S : Nat → Int → Int} {x i : Int} (hP : rxPLFB S0 ws) (hin : bx_same rxL (bx_mdl rxCLFB.2.2.1) S0 S) (I0 : bx_Inv rxL S) (hinv : rxILFB_1 S0 ws S x i) (l8 : (-1) ≤ x) (u8 : x ≤ (-1)) (l9 : 0 ≤ i) (u9 : i ≤ 17) : (True) ∧ (True) ∧ rxILFB_1 S0 ws (bx_up S 458 i x) x (i + 1) ∧ rxmLFB_1 S0 ws (bx_up S 458 i x) x (i + 1) < rxmLFB_1 S0 ws S x i := by
  refine ⟨trivial, trivial, fun j h0 h1 => ?_, by unfold rxmLFB_1; omega⟩
  by_cases hj : j = i
  · rw [hj, bx_up_at]
    first | rfl | omega
  · rw [bx_up_ne (by omega)]
    exact hinv j h0 (by omega)
theorem rxgLFB_1_0 {X : (Nat → Int → Int) → Prop} {S0 : Nat → Int → Int} {ws : List Int} (hP : rxPLFB S0 ws) : bx_obC rxL X S0 rxCLFB.2.2.1 (rxILFB S0 ws) (rxmLFB S0 ws) 1 rxzLFB_1 rxoLFB_1_0 := by
  intro S S' r r' hinv hX hin hsm_ hseg
  obtain ⟨I0, I1, h0_, hr_, b_, f_, d_⟩ := bx_cl (evs := [(1, (0, 458), (9, 0), .inr (0, (8, 0)))]) (fvs := []) hseg (by decide +kernel) (by decide +kernel)
  have hinv : rxILFB_1 S0 ws S (r 8) (r 9) := hinv
  rw [← hr_ 8 (by decide), ← hr_ 9 (by decide)] at hinv
  obtain ⟨⟨l8, u8⟩, ⟨l9, u9⟩, -⟩ := b_
  obtain ⟨T0, w_, w0⟩ := d_
  subst w0
  subst w_
  have g := rxcLFB_1_0 hP hin I0 hinv l8 u8 l9 u9
  refine ⟨bx_narP_ok (l := []) g.1, bx_nfP_ok h0_ (fvs := []) (by decide +kernel) g.2.1, ?_, ?_⟩
  · show rxILFB_1 S0 ws (bx_up T0 458 (r' 9) (r' 8)) (bx_val [(0, 0), (0, 0), (0, 0), (0, 0), (0, 0), (0, 0), (0, 0), (0, 0), (8, 0), (9, 1)] r' 8) (bx_val [(0, 0), (0, 0), (0, 0), (0, 0), (0, 0), (0, 0), (0, 0), (0, 0), (8, 0), (9, 1)] r' 9)
    rw [bx_val_x (n := 8) (e := (8, 0)) h0_ rfl, bx_val_x (n := 9) (e := (9, 1)) h0_ rfl]
    exact g.2.2.1
  · show rxmLFB_1 S0 ws (bx_up T0 458 (r' 9) (r' 8)) (bx_val [(0, 0), (0, 0), (0, 0), (0, 0), (0, 0), (0, 0), (0, 0), (0, 0), (8, 0), (9, 1)] r' 8) (bx_val [(0, 0), (0, 0), (0, 0), (0, 0), (0, 0), (0, 0), (0, 0), (0, 0), (8, 0), (9, 1)] r' 9) < rxmLFB_1 S0 ws T0 (r 8) (r 9)
    rw [bx_val_x (n := 8) (e := (8, 0)) h0_ rfl, bx_val_x (n := 9) (e := (9, 1)) h0_ rfl, ← hr_ 8 (by decide), ← hr_ 9 (by decide)]
    exact g.2.2.2
theorem rxdLFB_1_0 {S0 : Nat → Int → Int} {ws : List Int} {S : Nat → Int → Int} {x i : Int} (hP : rxPLFB S0 ws) (hin : bx_same rxL (bx_mdl rxCLFB.2.2.1) S0 S) (hin2 : bx_same rxL (bx_mdl rxCLFB.2.2.1) S S) (I0 : bx_Inv rxL S) (I1 : bx_Inv rxL S) (hinv : rxILFB_1 S0 ws S x i) (l8 : (-1) ≤ x) (u8 : x ≤ (-1)) (l9 : 18 ≤ i) (u9 : i ≤ 18) : (True) ∧ rxPSLFB S0 ws S none := by
  exact ⟨trivial, rfl, fun j h0 h1 => hinv j h0 (by omega)⟩
theorem rxfLFB_1_0 {X : (Nat → Int → Int) → Prop} {S0 : Nat → Int → Int} {ws : List Int} (hP : rxPLFB S0 ws) : bx_obE rxL X S0 rxCLFB.2.2.1 (rxILFB S0 ws) (rxPSLFB S0 ws) 1 rxzLFB_1 rxeLFB_1_0 := by
  intro S S' r r' hinv hX hin hsm_ hseg
  obtain ⟨I0, I1, h0_, hr_, b_, f_, d_⟩ := bx_cl (evs := []) (fvs := []) hseg (by decide +kernel) (by decide +kernel)
  have hinv : rxILFB_1 S0 ws S (r 8) (r 9) := hinv
  rw [← hr_ 8 (by decide), ← hr_ 9 (by decide)] at hinv
  obtain ⟨⟨l8, u8⟩, ⟨l9, u9⟩, -⟩ := b_
  have w_ := d_
  subst w_
  have g := rxdLFB_1_0 hP hin hsm_ I0 I1 hinv l8 u8 l9 u9
  refine ⟨bx_narP_ok (l := []) g.1, ?_⟩
  exact g.2
theorem rxgCLFB {X : (Nat → Int → Int) → Prop} {S0 : Nat → Int → Int} {ws : List Int} (hP : rxPLFB S0 ws) : bx_allI (fun i q => rxULFB q = true ∨ bx_allP (fun o => bx_obC rxL X S0 rxCLFB.2.2.1 (rxILFB S0 ws) (rxmLFB S0 ws) i q.1 o) q.2.1) 0 rxYLFB := ⟨Or.inr ⟨rxgLFB_0_0 hP, trivial⟩, Or.inr ⟨rxgLFB_1_0 hP, trivial⟩, trivial⟩
theorem rxgELFB {X : (Nat → Int → Int) → Prop} {S0 : Nat → Int → Int} {ws : List Int} (hP : rxPLFB S0 ws) : bx_allI (fun i q => rxULFB q = true ∨ bx_allP (fun E => bx_obE rxL X S0 rxCLFB.2.2.1 (rxILFB S0 ws) (rxPSLFB S0 ws) i q.1 E) q.2.2) 0 rxYLFB := ⟨Or.inr trivial, Or.inr ⟨rxfLFB_1_0 hP, trivial⟩, trivial⟩
theorem rxQLFB {PX : State → Prop} {Dg : va_G} {A : Nat → Prop} {ad xa : Nat → Nat} {l : Launch} {X : (Nat → Int → Int) → Prop} (hPX : rx_PXOK rxNW A PX) (hsl : ∀ s : State, PX s → ∀ o idx n : Nat, rxSl o idx = some n → ∃ tx : String, vk_R (rxNm o) idx tx (ad n) s)
    (hX : ∀ S S' : Nat → Int → Int, X S → bx_same rxL (bx_mdl rxCLFB.2.2.1) S S' → X S')
    (ih : ∀ (j2 : Nat) (ct2 : bx_Ct) (M2 : rx_Mt), ct2 ∈ rxCnE j2 → ct2.2.2.2.1 + 1 ≤ rxCLFB.2.2.2.1 → rxT.2.2.2.2.2 j2 = some M2 → bx_Con rxG rxNW rxAO PX Dg rxL X vwCl A ad l M2 ct2) : bx_ConP rxG rxNW rxAO PX Dg rxL X vwCl A ad l rxM0 rxCLFB rxPLFB rxPSLFB :=
  rxQof (xa := xa) (Cn := rxCnE) (f := 30000) (j := 0) (tab := rxYLFB) (us := rxULFB) hPX hsl hX ih rfl rxYcLFB rxILFB rxmLFB
    (fun S0 ws r I0 I ht0 ht as he he1 hX0 hI0 hP hs ha => by
      have e := he.symm.trans (show bx_ent0 rxNP rxCLFB.1 bx_I0 [] = some ([(0, 0), (0, 0), (0, 0), (0, 0), (0, 0), (0, 0), (0, 0), (0, 0), ((-1), (-1))], [], [.inr (3, (0, 458)), .inr (0, (8, 0))]) from rfl)
      cases e
      subst ha
      have h0 : r 0 = 0 := hs.1
      show rxILFB_0 S0 _ S0 (r 8)
      refine ⟨rfl, ?_⟩
      simp only [List.map_cons, List.map_nil, bx_xv_ok h0]
      rfl)
    (fun S0 ws hP => fun i q hq hus => absurd (show false = true from hus) Bool.false_ne_true) (fun S0 ws hP => rxgCLFB hP) (fun S0 ws hP => rxgELFB hP)
/-! CONTRACT BY HAND, by program (wip/sim/genhand.py): DeadUnderstudies$Least.search -/
def rxCLSE : bx_Ct := ([(3, (1, 451, 0)), (0, (0, 1, 3)), (0, (0, (-1), 3)), (0, (0, (-1), 5)), (0, (0, 0, 1))], none, [(4, 5), (4, 6), (4, 7), (4, 8), (4, 9), (4, 10), (1047, 0), (1048, 0), (1049, 0)], 28, [])
def rxILSE_0 (S0 : Nat → Int → Int) (ws : List Int) (S : Nat → Int → Int) (m row cue one : Int) : Prop := S = S0 ∧ ws = [451, m, row, cue, one]
def rxmLSE_0 (S0 : Nat → Int → Int) (ws : List Int) (S : Nat → Int → Int) (m row cue one : Int) : Nat := 100
def rxzLSE_0 : rx_Z := ([(0, 0), (0, 0), (0, 0), (0, 0), (0, 0), (0, 0), (0, 0), (0, 0), (1, 3), ((-1), 3), ((-1), 5), (0, 1)], [], [], 0, 0, 0, [(0, .inr (3, (0, 451))), (1, .inr (0, (8, 0))), (2, .inr (0, (9, 0))), (3, .inr (0, (10, 0))), (4, .inr (0, (11, 0)))], [])
def rxILSE_1 (S0 : Nat → Int → Int) (ws : List Int) (S : Nat → Int → Int) (m row cue one : Int) : Prop := ws = [451, m, row, cue, one] ∧ S 451 5 = m ∧ S 451 6 = row ∧ S 451 7 = cue ∧ S 451 8 = one ∧ S 451 9 = 0 ∧ S 451 10 = 0
def rxmLSE_1 (S0 : Nat → Int → Int) (ws : List Int) (S : Nat → Int → Int) (m row cue one : Int) : Nat := 90
def rxzLSE_1 : rx_Z := ([(0, 0), (0, 0), (0, 0), (0, 0), (0, 0), (0, 0), (0, 0), (0, 0), (1, 3), ((-1), 3), ((-1), 5), (0, 1)], [], [], 0, 0, 40, [(0, .inr (3, (0, 451))), (1, .inr (0, (8, 0))), (2, .inr (0, (9, 0))), (3, .inr (0, (10, 0))), (4, .inr (0, (11, 0)))], [.inr (0, (0, (-1))), .inr (3, (0, 457))])
def rxILSE_2 (S0 : Nat → Int → Int) (ws : List Int) (S : Nat → Int → Int) (m row cue one : Int) : Prop := ws = [451, m, row, cue, one] ∧ S 451 5 = m ∧ S 451 6 = row ∧ S 451 7 = cue ∧ S 451 8 = one ∧ S 451 9 = 0 ∧ S 451 10 = 0 ∧ (∀ j : Int, 0 ≤ j → j < 18 → S 457 j = -1)
def rxmLSE_2 (S0 : Nat → Int → Int) (ws : List Int) (S : Nat → Int → Int) (m row cue one : Int) : Nat := 80
def rxzLSE_2 : rx_Z := ([(0, 0), (0, 0), (0, 0), (0, 0), (0, 0), (0, 0), (0, 0), (0, 0), (1, 3), ((-1), 3), ((-1), 5), (0, 1)], [], [], 0, 0, 43, [(0, .inr (3, (0, 451))), (1, .inr (0, (8, 0))), (2, .inr (0, (9, 0))), (3, .inr (0, (10, 0))), (4, .inr (0, (11, 0)))], [])
def rxILSE_3 (S0 : Nat → Int → Int) (ws : List Int) (S : Nat → Int → Int) (m row cue one : Int) : Prop := ws = [451, m, row, cue, one] ∧ S 451 5 = m ∧ S 451 6 = row ∧ S 451 7 = cue ∧ S 451 8 = one ∧ S 451 9 = 0 ∧ S 451 10 = 0 ∧ (∀ j : Int, 0 ≤ j → j < 18 → S 457 j = -1)
def rxmLSE_3 (S0 : Nat → Int → Int) (ws : List Int) (S : Nat → Int → Int) (m row cue one : Int) : Nat := 70
def rxzLSE_3 : rx_Z := ([(0, 0), (0, 0), (0, 0), (0, 0), (0, 0), (0, 0), (0, 0), (0, 0), (1, 3), ((-1), 3), ((-1), 5), (0, 1)], [], [], 0, 0, 48, [(0, .inr (3, (0, 451))), (1, .inr (0, (8, 0))), (2, .inr (0, (9, 0))), (3, .inr (0, (10, 0))), (4, .inr (0, (11, 0)))], [.inr (0, (0, (-1))), .inr (3, (0, 458))])
def rxILSE_4 (S0 : Nat → Int → Int) (ws : List Int) (S : Nat → Int → Int) (m row cue one : Int) : Prop := ws = [451, m, row, cue, one] ∧ S 451 5 = m ∧ S 451 6 = row ∧ S 451 7 = cue ∧ S 451 8 = one ∧ S 451 9 = 0 ∧ S 451 10 = 0 ∧ (∀ j : Int, 0 ≤ j → j < 18 → S 457 j = -1) ∧ (∀ j : Int, 0 ≤ j → j < 18 → S 458 j = -1)
def rxmLSE_4 (S0 : Nat → Int → Int) (ws : List Int) (S : Nat → Int → Int) (m row cue one : Int) : Nat := 60
def rxzLSE_4 : rx_Z := ([(0, 0), (0, 0), (0, 0), (0, 0), (0, 0), (0, 0), (0, 0), (0, 0), (1, 3), ((-1), 3), ((-1), 5), (0, 1)], [], [], 0, 0, 51, [(0, .inr (3, (0, 451))), (1, .inr (0, (8, 0))), (2, .inr (0, (9, 0))), (3, .inr (0, (10, 0))), (4, .inr (0, (11, 0)))], [])
def rxILSE_5 (S0 : Nat → Int → Int) (ws : List Int) (S : Nat → Int → Int) (m row cue one : Int) : Prop := ws = [451, m, row, cue, one] ∧ S 451 5 = m ∧ S 451 6 = row ∧ S 451 7 = cue ∧ S 451 8 = one ∧ S 451 9 = 0 ∧ S 451 10 = 0 ∧ (∀ j : Int, 0 ≤ j → j < 18 → S 457 j = -1) ∧ (∀ j : Int, 0 ≤ j → j < 18 → S 458 j = -1)
def rxmLSE_5 (S0 : Nat → Int → Int) (ws : List Int) (S : Nat → Int → Int) (m row cue one : Int) : Nat := 50
def rxzLSE_5 : rx_Z := ([(0, 0), (0, 0), (0, 0), (0, 0), (0, 0), (0, 0), (0, 0), (0, 0), (1, 3), ((-1), 3), ((-1), 5), (0, 1)], [], [], 0, 0, 55, [(0, .inr (3, (0, 451))), (1, .inr (0, (8, 0))), (2, .inr (0, (9, 0))), (3, .inr (0, (10, 0))), (4, .inr (0, (11, 0)))], [.inr (0, (0, 1)), .inr (0, (0, 0)), .inr (0, (0, 0)), .inr (3, (0, 451))])
def rxILSE_6 (S0 : Nat → Int → Int) (ws : List Int) (S : Nat → Int → Int) (m row cue one : Int) : Prop := ws = [451, m, row, cue, one] ∧ ldO one row (ldA (ldDm S0 m row cue)) 0 0 (S 451 9) (S 451 10)
def rxmLSE_6 (S0 : Nat → Int → Int) (ws : List Int) (S : Nat → Int → Int) (m row cue one : Int) : Nat := 40
def rxzLSE_6 : rx_Z := ([(0, 0), (0, 0), (0, 0), (0, 0), (0, 0), (0, 0), (0, 0), (0, 0), (1, 3), ((-1), 3), ((-1), 5), (0, 1)], [], [], 0, 0, 58, [(0, .inr (3, (0, 451))), (1, .inr (0, (8, 0))), (2, .inr (0, (9, 0))), (3, .inr (0, (10, 0))), (4, .inr (0, (11, 0)))], [])
def rxoLSE_0_0 : bx_HO := (([(0, 0), (0, 0), (0, 0), (0, 0), (0, 0), (0, 0), (0, 0), (0, 0), (1, 3), ((-1), 3), ((-1), 5), (0, 1)], [], [(((0, 451), 12), .inr (3, (0, 457))), (((0, 0), 1851192626986356799431407398244775400849232659564395713357611011000000), .inr (0, (0, 0))), (((0, 451), 10), .inr (0, (0, 0))), (((0, 0), 1851192626986356799230700691457999792575411195110560459803787267000000), .inr (0, (0, 0))), (((0, 451), 9), .inr (0, (0, 0))), (((0, 0), 1851192626986356799029993984671224184301589730656725206249963523000000), .inr (0, (11, 0))), (((0, 451), 8), .inr (0, (11, 0))), (((0, 0), 1851192626986356798829287277884448576027768266202889952696139779000000), .inr (0, (10, 0))), (((0, 451), 7), .inr (0, (10, 0))), (((0, 0), 1851192626986356798628580571097672967753946801749054699142316035000000), .inr (0, (9, 0))), (((0, 451), 6), .inr (0, (9, 0))), (((0, 0), 1851192626986356798427873864310897359480125337295219445588492291000000), .inr (0, (8, 0))), (((0, 451), 5), .inr (0, (8, 0)))], 0, 0, 40, [(0, .inr (3, (0, 451))), (1, .inr (0, (8, 0))), (2, .inr (0, (9, 0))), (3, .inr (0, (10, 0))), (4, .inr (0, (11, 0)))], [.inr (0, (0, (-1))), .inr (3, (0, 457))]), [], [], [(0, 0), (0, 0), (0, 0), (0, 0), (0, 0), (0, 0), (0, 0), (0, 0), (8, 0), (9, 0), (10, 0), (11, 0)], 1)
def rxoLSE_2_0 : bx_HO := (([(0, 0), (0, 0), (0, 0), (0, 0), (0, 0), (0, 0), (0, 0), (0, 0), (1, 3), ((-1), 3), ((-1), 5), (0, 1)], [], [(((0, 451), 13), .inr (3, (0, 458)))], 0, 0, 48, [(0, .inr (3, (0, 451))), (1, .inr (0, (8, 0))), (2, .inr (0, (9, 0))), (3, .inr (0, (10, 0))), (4, .inr (0, (11, 0)))], [.inr (0, (0, (-1))), .inr (3, (0, 458))]), [], [], [(0, 0), (0, 0), (0, 0), (0, 0), (0, 0), (0, 0), (0, 0), (0, 0), (8, 0), (9, 0), (10, 0), (11, 0)], 3)
def rxoLSE_4_0 : bx_HO := (([(0, 0), (0, 0), (0, 0), (0, 0), (0, 0), (0, 0), (0, 0), (0, 0), (1, 3), ((-1), 3), ((-1), 5), (0, 1)], [], [], 0, 0, 55, [(0, .inr (3, (0, 451))), (1, .inr (0, (8, 0))), (2, .inr (0, (9, 0))), (3, .inr (0, (10, 0))), (4, .inr (0, (11, 0)))], [.inr (0, (0, 1)), .inr (0, (0, 0)), .inr (0, (0, 0)), .inr (3, (0, 451))]), [], [], [(0, 0), (0, 0), (0, 0), (0, 0), (0, 0), (0, 0), (0, 0), (0, 0), (8, 0), (9, 0), (10, 0), (11, 0)], 5)
def rxeLSE_6_0 : rx_End × List (Nat × Int × Int) := (([(0, 0), (0, 0), (0, 0), (0, 0), (0, 0), (0, 0), (0, 0), (0, 0), (1, 3), ((-1), 3), ((-1), 5), (0, 1)], [], [], none), [])
def rxYLSE : List bx_HE := [(rxzLSE_0, [rxoLSE_0_0], []), (rxzLSE_1, [], []), (rxzLSE_2, [rxoLSE_2_0], []), (rxzLSE_3, [], []), (rxzLSE_4, [rxoLSE_4_0], []), (rxzLSE_5, [], []), (rxzLSE_6, [], [rxeLSE_6_0])]
def rxULSE (q : bx_HE) : Bool := Nat.beq (rx_zpc q.1) 40 || Nat.beq (rx_zpc q.1) 48 || Nat.beq (rx_zpc q.1) 55
def rxYBLSE : bx_B := (rxV, rxNP, rxDmf, bx_mdH rxCLSE.2.2.1)
set_option maxRecDepth 100000 in
theorem rxYcLSE : bx_chkH rxYBLSE rxM52 rxCLSE rxYLSE (rxULSE, fun cut z => rx_ex2 (rxCT rxYBLSE rxCnE) cut 30000 rxCLSE.2.2.2.1 52 z) = true := by decide +kernel
def rxILSE (S0 : Nat → Int → Int) (ws : List Int) (i : Nat) : bx_SP := fun S r => match i with | 0 => rxILSE_0 S0 ws S (r 8) (r 9) (r 10) (r 11) | 1 => rxILSE_1 S0 ws S (r 8) (r 9) (r 10) (r 11) | 2 => rxILSE_2 S0 ws S (r 8) (r 9) (r 10) (r 11) | 3 => rxILSE_3 S0 ws S (r 8) (r 9) (r 10) (r 11) | 4 => rxILSE_4 S0 ws S (r 8) (r 9) (r 10) (r 11) | 5 => rxILSE_5 S0 ws S (r 8) (r 9) (r 10) (r 11) | 6 => rxILSE_6 S0 ws S (r 8) (r 9) (r 10) (r 11) | _ => False
def rxmLSE (S0 : Nat → Int → Int) (ws : List Int) (i : Nat) (S : Nat → Int → Int) (r : Nat → Int) : Nat := match i with | 0 => rxmLSE_0 S0 ws S (r 8) (r 9) (r 10) (r 11) | 1 => rxmLSE_1 S0 ws S (r 8) (r 9) (r 10) (r 11) | 2 => rxmLSE_2 S0 ws S (r 8) (r 9) (r 10) (r 11) | 3 => rxmLSE_3 S0 ws S (r 8) (r 9) (r 10) (r 11) | 4 => rxmLSE_4 S0 ws S (r 8) (r 9) (r 10) (r 11) | 5 => rxmLSE_5 S0 ws S (r 8) (r 9) (r 10) (r 11) | 6 => rxmLSE_6 S0 ws S (r 8) (r 9) (r 10) (r 11) | _ => 0
def rxPLSE (S0 : Nat → Int → Int) (ws : List Int) : Prop := ∃ m row cue one : Int, ws = [451, m, row, cue, one] ∧ (one ≠ 0 → row < 0) ∧ (0 ≤ row → 0 ≤ cue ∧ S0 455 row < S0 451 0)
def rxPSLSE (S0 : Nat → Int → Int) (ws : List Int) (S : Nat → Int → Int) (w : Option Int) : Prop := w = none ∧ ∃ m row cue one : Int, ws = [451, m, row, cue, one] ∧ ldO one row (ldA (ldDm S0 m row cue)) 0 0 (S 451 9) (S 451 10)
theorem rxkLSE_1 {S0 : Nat → Int → Int} {ws : List Int} {S : Nat → Int → Int} {m row cue one : Int} (hP : rxPLSE S0 ws) (hin : bx_same rxL (bx_mdl rxCLSE.2.2.1) S0 S) (I0 : bx_Inv rxL S) (hinv : rxILSE_1 S0 ws S m row cue one) (l8 : 1 ≤ m) (u8 : m ≤ 3) (l9 : (-1) ≤ row) (u9 : row ≤ 3) (l10 : (-1) ≤ cue) (u10 : cue ≤ 5) (l11 : 0 ≤ one) (u11 : one ≤ 1) : rxPLFA S [457, (-1)] ∧ ∀ (S' : Nat → Int → Int), rxPSLFA S [457, (-1)] S' none → bx_Inv rxL S' → bx_same rxL (bx_mdl rxCLFA.2.2.1) S S' → rxILSE_2 S0 ws S' m row cue one ∧ rxmLSE_2 S0 ws S' m row cue one < rxmLSE_1 S0 ws S m row cue one := by
  obtain ⟨hw, h5, h6, h7, h8, h9, h10⟩ := hinv
  exact ⟨trivial, fun S' hq I1 hsm => ⟨⟨hw, (show S' 451 5 = S 451 5 from hsm 451 5 (by decide) (by decide) (by decide +kernel)).trans h5, (show S' 451 6 = S 451 6 from hsm 451 6 (by decide) (by decide) (by decide +kernel)).trans h6, (show S' 451 7 = S 451 7 from hsm 451 7 (by decide) (by decide) (by decide +kernel)).trans h7, (show S' 451 8 = S 451 8 from hsm 451 8 (by decide) (by decide) (by decide +kernel)).trans h8, (show S' 451 9 = S 451 9 from hsm 451 9 (by decide) (by decide) (by decide +kernel)).trans h9, (show S' 451 10 = S 451 10 from hsm 451 10 (by decide) (by decide) (by decide +kernel)).trans h10, hq.2⟩, by unfold rxmLSE_1 rxmLSE_2; omega⟩⟩
theorem rxsLSE_1 {X : (Nat → Int → Int) → Prop} {S0 : Nat → Int → Int} {ws : List Int} (hP : rxPLSE S0 ws) : rx_obK X S0 rxCLSE.2.2.1 rxCLFA.2.2.1 (rxILSE S0 ws) (rxmLSE S0 ws) 1 2 rxzLSE_1 rxzLSE_2 [.inr (3, (0, 457)), .inr (0, (0, (-1)))] none rxPLFA rxPSLFA := by
  intro S r hinv hXS I0 hin hs_ hf_
  have b_ := bx_bds_sat hs_
  have f_ := bx_fcl_ok hs_.1 hf_
  obtain ⟨⟨l8, u8⟩, ⟨l9, u9⟩, ⟨l10, u10⟩, ⟨l11, u11⟩, -⟩ := b_
  have g := rxkLSE_1 hP hin I0 hinv l8 u8 l9 u9 l10 u10 l11 u11
  have ea : List.map (bx_num r) [.inr (3, (0, 457)), .inr (0, (0, (-1)))] = [457, -1] := by
    simp only [List.map_cons, List.map_nil, bx_xv_ok hs_.1]
    rfl
  rw [ea]
  refine ⟨g.1, fun S' w r' hPS hX' I1 hsm hr hw hs' => ?_⟩
  have hw : w = none := hPS.1
  subst hw
  have g2 := g.2 S' hPS I1 hsm
  show rxILSE_2 S0 ws S' (r' 8) (r' 9) (r' 10) (r' 11) ∧ rxmLSE_2 S0 ws S' (r' 8) (r' 9) (r' 10) (r' 11) < _
  rw [hr 8 (by decide), hr 9 (by decide), hr 10 (by decide), hr 11 (by decide)]
  exact g2
theorem rxkLSE_3 {S0 : Nat → Int → Int} {ws : List Int} {S : Nat → Int → Int} {m row cue one : Int} (hP : rxPLSE S0 ws) (hin : bx_same rxL (bx_mdl rxCLSE.2.2.1) S0 S) (I0 : bx_Inv rxL S) (hinv : rxILSE_3 S0 ws S m row cue one) (l8 : 1 ≤ m) (u8 : m ≤ 3) (l9 : (-1) ≤ row) (u9 : row ≤ 3) (l10 : (-1) ≤ cue) (u10 : cue ≤ 5) (l11 : 0 ≤ one) (u11 : one ≤ 1) : rxPLFB S [458, (-1)] ∧ ∀ (S' : Nat → Int → Int), rxPSLFB S [458, (-1)] S' none → bx_Inv rxL S' → bx_same rxL (bx_mdl rxCLFB.2.2.1) S S' → rxILSE_4 S0 ws S' m row cue one ∧ rxmLSE_4 S0 ws S' m row cue one < rxmLSE_3 S0 ws S m row cue one := by
  obtain ⟨hw, h5, h6, h7, h8, h9, h10, ha⟩ := hinv
  exact ⟨trivial, fun S' hq I1 hsm => ⟨⟨hw, (show S' 451 5 = S 451 5 from hsm 451 5 (by decide) (by decide) (by decide +kernel)).trans h5, (show S' 451 6 = S 451 6 from hsm 451 6 (by decide) (by decide) (by decide +kernel)).trans h6, (show S' 451 7 = S 451 7 from hsm 451 7 (by decide) (by decide) (by decide +kernel)).trans h7, (show S' 451 8 = S 451 8 from hsm 451 8 (by decide) (by decide) (by decide +kernel)).trans h8, (show S' 451 9 = S 451 9 from hsm 451 9 (by decide) (by decide) (by decide +kernel)).trans h9, (show S' 451 10 = S 451 10 from hsm 451 10 (by decide) (by decide) (by decide +kernel)).trans h10, fun j h0 h1 => (rx_sameR2 hsm (tc := 0) (n := 18) (g := 48) rfl (by omega) (by decide +kernel) (by decide +kernel) h0 h1).trans (ha j h0 h1), hq.2⟩, by unfold rxmLSE_3 rxmLSE_4; omega⟩⟩
theorem rxsLSE_3 {X : (Nat → Int → Int) → Prop} {S0 : Nat → Int → Int} {ws : List Int} (hP : rxPLSE S0 ws) : rx_obK X S0 rxCLSE.2.2.1 rxCLFB.2.2.1 (rxILSE S0 ws) (rxmLSE S0 ws) 3 4 rxzLSE_3 rxzLSE_4 [.inr (3, (0, 458)), .inr (0, (0, (-1)))] none rxPLFB rxPSLFB := by
  intro S r hinv hXS I0 hin hs_ hf_
  have b_ := bx_bds_sat hs_
  have f_ := bx_fcl_ok hs_.1 hf_
  obtain ⟨⟨l8, u8⟩, ⟨l9, u9⟩, ⟨l10, u10⟩, ⟨l11, u11⟩, -⟩ := b_
  have g := rxkLSE_3 hP hin I0 hinv l8 u8 l9 u9 l10 u10 l11 u11
  have ea : List.map (bx_num r) [.inr (3, (0, 458)), .inr (0, (0, (-1)))] = [458, -1] := by
    simp only [List.map_cons, List.map_nil, bx_xv_ok hs_.1]
    rfl
  rw [ea]
  refine ⟨g.1, fun S' w r' hPS hX' I1 hsm hr hw hs' => ?_⟩
  have hw : w = none := hPS.1
  subst hw
  have g2 := g.2 S' hPS I1 hsm
  show rxILSE_4 S0 ws S' (r' 8) (r' 9) (r' 10) (r' 11) ∧ rxmLSE_4 S0 ws S' (r' 8) (r' 9) (r' 10) (r' 11) < _
  rw [hr 8 (by decide), hr 9 (by decide), hr 10 (by decide), hr 11 (by decide)]
  exact g2
theorem rxkLSE_5 {S0 : Nat → Int → Int} {ws : List Int} {S : Nat → Int → Int} {m row cue one : Int} (hP : rxPLSE S0 ws) (hin : bx_same rxL (bx_mdl rxCLSE.2.2.1) S0 S) (I0 : bx_Inv rxL S) (hinv : rxILSE_5 S0 ws S m row cue one) (l8 : 1 ≤ m) (u8 : m ≤ 3) (l9 : (-1) ≤ row) (u9 : row ≤ 3) (l10 : (-1) ≤ cue) (u10 : cue ≤ 5) (l11 : 0 ≤ one) (u11 : one ≤ 1) : rxPLE12 S [451, 0, 0, 1] ∧ ∀ (S' : Nat → Int → Int), rxPSLE12 S [451, 0, 0, 1] S' none → bx_Inv rxL S' → bx_same rxL (bx_mdl rxCLE12.2.2.1) S S' → rxILSE_6 S0 ws S' m row cue one ∧ rxmLSE_6 S0 ws S' m row cue one < rxmLSE_5 S0 ws S m row cue one := by
  obtain ⟨hw, h5, h6, h7, h8, h9, h10, ha, hg⟩ := hinv
  obtain ⟨m9, row9, cue9, one9, hw2, p1, p2⟩ := hP
  have w0_ : m = m9 := Option.some.inj (congrArg (fun l => l[1]?) (hw.symm.trans hw2))
  subst w0_
  have w1_ : row = row9 := Option.some.inj (congrArg (fun l => l[2]?) (hw.symm.trans hw2))
  subst w1_
  have w2_ : cue = cue9 := Option.some.inj (congrArg (fun l => l[3]?) (hw.symm.trans hw2))
  subst w2_
  have w3_ : one = one9 := Option.some.inj (congrArg (fun l => l[4]?) (hw.symm.trans hw2))
  subst w3_
  have fq := ldFq_of hin
  have hb9 := ld451 I0
  have f0 := fq.1
  have hn : S0 451 0 ≤ 12 := by omega
  have eA := ldTS_A hn fq h5 h6 h7 ha hg
  have hl := ldA_len (D := ldDm S0 m row cue) hn
  refine ⟨⟨0, 0, 1, rfl, by omega, ⟨by omega, fun j a b => by rw [hg j a b]; omega, fun q => by have := p1 (by omega); omega, fun _ => h10, fun q => by have := (p2 (by omega)).1; omega, fun q => ?_, by omega, by omega⟩, by rw [eA]; omega, by decide⟩, fun S' hq I1 hsm => ?_⟩
  · have q6 : 0 ≤ row := by omega
    rw [h6, fq.2.2.2.2 row q6 (by omega)]
    have := (p2 q6).2
    omega
  · obtain ⟨-, k8, s8, t8, hw8, -, -, -, h4⟩ := hq
    simp only [List.cons.injEq, and_true, true_and] at hw8
    obtain ⟨e1, e2, e3⟩ := hw8
    rw [← e1, ← e2, ← e3, eA, h8, h6, h9, h10] at h4
    exact ⟨⟨hw, h4⟩, by unfold rxmLSE_5 rxmLSE_6; omega⟩
theorem rxsLSE_5 {X : (Nat → Int → Int) → Prop} {S0 : Nat → Int → Int} {ws : List Int} (hP : rxPLSE S0 ws) : rx_obK X S0 rxCLSE.2.2.1 rxCLE12.2.2.1 (rxILSE S0 ws) (rxmLSE S0 ws) 5 6 rxzLSE_5 rxzLSE_6 [.inr (3, (0, 451)), .inr (0, (0, 0)), .inr (0, (0, 0)), .inr (0, (0, 1))] none rxPLE12 rxPSLE12 := by
  intro S r hinv hXS I0 hin hs_ hf_
  have b_ := bx_bds_sat hs_
  have f_ := bx_fcl_ok hs_.1 hf_
  obtain ⟨⟨l8, u8⟩, ⟨l9, u9⟩, ⟨l10, u10⟩, ⟨l11, u11⟩, -⟩ := b_
  have g := rxkLSE_5 hP hin I0 hinv l8 u8 l9 u9 l10 u10 l11 u11
  have ea : List.map (bx_num r) [.inr (3, (0, 451)), .inr (0, (0, 0)), .inr (0, (0, 0)), .inr (0, (0, 1))] = [451, 0, 0, 1] := by
    simp only [List.map_cons, List.map_nil, bx_xv_ok hs_.1]
    rfl
  rw [ea]
  refine ⟨g.1, fun S' w r' hPS hX' I1 hsm hr hw hs' => ?_⟩
  have hw : w = none := hPS.1
  subst hw
  have g2 := g.2 S' hPS I1 hsm
  show rxILSE_6 S0 ws S' (r' 8) (r' 9) (r' 10) (r' 11) ∧ rxmLSE_6 S0 ws S' (r' 8) (r' 9) (r' 10) (r' 11) < _
  rw [hr 8 (by decide), hr 9 (by decide), hr 10 (by decide), hr 11 (by decide)]
  exact g2
theorem rxcLSE_0_0 {S0 : Nat → Int → Int} {ws : List Int} {S : Nat → Int → Int} {m row cue one : Int} (hP : rxPLSE S0 ws) (hin : bx_same rxL (bx_mdl rxCLSE.2.2.1) S0 S) (I0 : bx_Inv rxL S) (hinv : rxILSE_0 S0 ws S m row cue one) (l8 : 1 ≤ m) (u8 : m ≤ 3) (l9 : (-1) ≤ row) (u9 : row ≤ 3) (l10 : (-1) ≤ cue) (u10 : cue ≤ 5) (l11 : 0 ≤ one) (u11 : one ≤ 1) : (True) ∧ (True) ∧ rxILSE_1 S0 ws (bx_up (bx_up (bx_up (bx_up (bx_up (bx_up S 451 5 m) 451 6 row) 451 7 cue) 451 8 one) 451 9 0) 451 10 0) m row cue one ∧ rxmLSE_1 S0 ws (bx_up (bx_up (bx_up (bx_up (bx_up (bx_up S 451 5 m) 451 6 row) 451 7 cue) 451 8 one) 451 9 0) 451 10 0) m row cue one < rxmLSE_0 S0 ws S m row cue one := by
  obtain ⟨rfl, hw⟩ := hinv
  exact ⟨by first | trivial | exact ⟨by omega, trivial⟩, trivial, ⟨hw, (bx_up_ne (by omega)).trans ((bx_up_ne (by omega)).trans ((bx_up_ne (by omega)).trans ((bx_up_ne (by omega)).trans ((bx_up_ne (by omega)).trans (bx_up_at))))), (bx_up_ne (by omega)).trans ((bx_up_ne (by omega)).trans ((bx_up_ne (by omega)).trans ((bx_up_ne (by omega)).trans (bx_up_at)))), (bx_up_ne (by omega)).trans ((bx_up_ne (by omega)).trans ((bx_up_ne (by omega)).trans (bx_up_at))), (bx_up_ne (by omega)).trans ((bx_up_ne (by omega)).trans (bx_up_at)), (bx_up_ne (by omega)).trans (bx_up_at), bx_up_at⟩, by unfold rxmLSE_0 rxmLSE_1; omega⟩
theorem rxgLSE_0_0 {X : (Nat → Int → Int) → Prop} {S0 : Nat → Int → Int} {ws : List Int} (hP : rxPLSE S0 ws) : bx_obC rxL X S0 rxCLSE.2.2.1 (rxILSE S0 ws) (rxmLSE S0 ws) 0 rxzLSE_0 rxoLSE_0_0 := by
  intro S S' r r' hinv hX hin hsm_ hseg
  obtain ⟨I0, I1, h0_, hr_, b_, f_, d_⟩ := bx_cl (evs := [(1, (0, 451), (0, 10), .inr (0, (0, 0))), (1, (0, 451), (0, 9), .inr (0, (0, 0))), (1, (0, 451), (0, 8), .inr (0, (11, 0))), (1, (0, 451), (0, 7), .inr (0, (10, 0))), (1, (0, 451), (0, 6), .inr (0, (9, 0))), (1, (0, 451), (0, 5), .inr (0, (8, 0)))]) (fvs := []) hseg (by decide +kernel) (by decide +kernel)
  have hinv : rxILSE_0 S0 ws S (r 8) (r 9) (r 10) (r 11) := hinv
  rw [← hr_ 8 (by decide), ← hr_ 9 (by decide), ← hr_ 10 (by decide), ← hr_ 11 (by decide)] at hinv
  obtain ⟨⟨l8, u8⟩, ⟨l9, u9⟩, ⟨l10, u10⟩, ⟨l11, u11⟩, -⟩ := b_
  obtain ⟨T0, ⟨T1, ⟨T2, ⟨T3, ⟨T4, ⟨T5, w_, w5⟩, w4⟩, w3⟩, w2⟩, w1⟩, w0⟩ := d_
  subst w0
  subst w1
  subst w2
  subst w3
  subst w4
  subst w5
  subst w_
  have g := rxcLSE_0_0 hP hin I0 hinv l8 u8 l9 u9 l10 u10 l11 u11
  refine ⟨bx_narP_ok (l := []) g.1, bx_nfP_ok h0_ (fvs := []) (by decide +kernel) g.2.1, ?_, ?_⟩
  · show rxILSE_1 S0 ws (bx_up (bx_up (bx_up (bx_up (bx_up (bx_up T5 451 (5) (r' 8)) 451 (6) (r' 9)) 451 (7) (r' 10)) 451 (8) (r' 11)) 451 (9) (0)) 451 (10) (0)) (bx_val [(0, 0), (0, 0), (0, 0), (0, 0), (0, 0), (0, 0), (0, 0), (0, 0), (8, 0), (9, 0), (10, 0), (11, 0)] r' 8) (bx_val [(0, 0), (0, 0), (0, 0), (0, 0), (0, 0), (0, 0), (0, 0), (0, 0), (8, 0), (9, 0), (10, 0), (11, 0)] r' 9) (bx_val [(0, 0), (0, 0), (0, 0), (0, 0), (0, 0), (0, 0), (0, 0), (0, 0), (8, 0), (9, 0), (10, 0), (11, 0)] r' 10) (bx_val [(0, 0), (0, 0), (0, 0), (0, 0), (0, 0), (0, 0), (0, 0), (0, 0), (8, 0), (9, 0), (10, 0), (11, 0)] r' 11)
    rw [bx_val_x (n := 8) (e := (8, 0)) h0_ rfl, bx_val_x (n := 9) (e := (9, 0)) h0_ rfl, bx_val_x (n := 10) (e := (10, 0)) h0_ rfl, bx_val_x (n := 11) (e := (11, 0)) h0_ rfl]
    exact g.2.2.1
  · show rxmLSE_1 S0 ws (bx_up (bx_up (bx_up (bx_up (bx_up (bx_up T5 451 (5) (r' 8)) 451 (6) (r' 9)) 451 (7) (r' 10)) 451 (8) (r' 11)) 451 (9) (0)) 451 (10) (0)) (bx_val [(0, 0), (0, 0), (0, 0), (0, 0), (0, 0), (0, 0), (0, 0), (0, 0), (8, 0), (9, 0), (10, 0), (11, 0)] r' 8) (bx_val [(0, 0), (0, 0), (0, 0), (0, 0), (0, 0), (0, 0), (0, 0), (0, 0), (8, 0), (9, 0), (10, 0), (11, 0)] r' 9) (bx_val [(0, 0), (0, 0), (0, 0), (0, 0), (0, 0), (0, 0), (0, 0), (0, 0), (8, 0), (9, 0), (10, 0), (11, 0)] r' 10) (bx_val [(0, 0), (0, 0), (0, 0), (0, 0), (0, 0), (0, 0), (0, 0), (0, 0), (8, 0), (9, 0), (10, 0), (11, 0)] r' 11) < rxmLSE_0 S0 ws T5 (r 8) (r 9) (r 10) (r 11)
    rw [bx_val_x (n := 8) (e := (8, 0)) h0_ rfl, bx_val_x (n := 9) (e := (9, 0)) h0_ rfl, bx_val_x (n := 10) (e := (10, 0)) h0_ rfl, bx_val_x (n := 11) (e := (11, 0)) h0_ rfl, ← hr_ 8 (by decide), ← hr_ 9 (by decide), ← hr_ 10 (by decide), ← hr_ 11 (by decide)]
    exact g.2.2.2
theorem rxcLSE_2_0 {S0 : Nat → Int → Int} {ws : List Int} {S : Nat → Int → Int} {m row cue one : Int} (hP : rxPLSE S0 ws) (hin : bx_same rxL (bx_mdl rxCLSE.2.2.1) S0 S) (I0 : bx_Inv rxL S) (hinv : rxILSE_2 S0 ws S m row cue one) (l8 : 1 ≤ m) (u8 : m ≤ 3) (l9 : (-1) ≤ row) (u9 : row ≤ 3) (l10 : (-1) ≤ cue) (u10 : cue ≤ 5) (l11 : 0 ≤ one) (u11 : one ≤ 1) : (True) ∧ (True) ∧ rxILSE_3 S0 ws S m row cue one ∧ rxmLSE_3 S0 ws S m row cue one < rxmLSE_2 S0 ws S m row cue one := by
  exact ⟨trivial, trivial, hinv, by unfold rxmLSE_2 rxmLSE_3; omega⟩
theorem rxgLSE_2_0 {X : (Nat → Int → Int) → Prop} {S0 : Nat → Int → Int} {ws : List Int} (hP : rxPLSE S0 ws) : bx_obC rxL X S0 rxCLSE.2.2.1 (rxILSE S0 ws) (rxmLSE S0 ws) 2 rxzLSE_2 rxoLSE_2_0 := by
  intro S S' r r' hinv hX hin hsm_ hseg
  obtain ⟨I0, I1, h0_, hr_, b_, f_, d_⟩ := bx_cl (evs := []) (fvs := []) hseg (by decide +kernel) (by decide +kernel)
  have hinv : rxILSE_2 S0 ws S (r 8) (r 9) (r 10) (r 11) := hinv
  rw [← hr_ 8 (by decide), ← hr_ 9 (by decide), ← hr_ 10 (by decide), ← hr_ 11 (by decide)] at hinv
  obtain ⟨⟨l8, u8⟩, ⟨l9, u9⟩, ⟨l10, u10⟩, ⟨l11, u11⟩, -⟩ := b_
  have w_ := d_
  subst w_
  have g := rxcLSE_2_0 hP hin I0 hinv l8 u8 l9 u9 l10 u10 l11 u11
  refine ⟨bx_narP_ok (l := []) g.1, bx_nfP_ok h0_ (fvs := []) (by decide +kernel) g.2.1, ?_, ?_⟩
  · show rxILSE_3 S0 ws S' (bx_val [(0, 0), (0, 0), (0, 0), (0, 0), (0, 0), (0, 0), (0, 0), (0, 0), (8, 0), (9, 0), (10, 0), (11, 0)] r' 8) (bx_val [(0, 0), (0, 0), (0, 0), (0, 0), (0, 0), (0, 0), (0, 0), (0, 0), (8, 0), (9, 0), (10, 0), (11, 0)] r' 9) (bx_val [(0, 0), (0, 0), (0, 0), (0, 0), (0, 0), (0, 0), (0, 0), (0, 0), (8, 0), (9, 0), (10, 0), (11, 0)] r' 10) (bx_val [(0, 0), (0, 0), (0, 0), (0, 0), (0, 0), (0, 0), (0, 0), (0, 0), (8, 0), (9, 0), (10, 0), (11, 0)] r' 11)
    rw [bx_val_x (n := 8) (e := (8, 0)) h0_ rfl, bx_val_x (n := 9) (e := (9, 0)) h0_ rfl, bx_val_x (n := 10) (e := (10, 0)) h0_ rfl, bx_val_x (n := 11) (e := (11, 0)) h0_ rfl]
    exact g.2.2.1
  · show rxmLSE_3 S0 ws S' (bx_val [(0, 0), (0, 0), (0, 0), (0, 0), (0, 0), (0, 0), (0, 0), (0, 0), (8, 0), (9, 0), (10, 0), (11, 0)] r' 8) (bx_val [(0, 0), (0, 0), (0, 0), (0, 0), (0, 0), (0, 0), (0, 0), (0, 0), (8, 0), (9, 0), (10, 0), (11, 0)] r' 9) (bx_val [(0, 0), (0, 0), (0, 0), (0, 0), (0, 0), (0, 0), (0, 0), (0, 0), (8, 0), (9, 0), (10, 0), (11, 0)] r' 10) (bx_val [(0, 0), (0, 0), (0, 0), (0, 0), (0, 0), (0, 0), (0, 0), (0, 0), (8, 0), (9, 0), (10, 0), (11, 0)] r' 11) < rxmLSE_2 S0 ws S' (r 8) (r 9) (r 10) (r 11)
    rw [bx_val_x (n := 8) (e := (8, 0)) h0_ rfl, bx_val_x (n := 9) (e := (9, 0)) h0_ rfl, bx_val_x (n := 10) (e := (10, 0)) h0_ rfl, bx_val_x (n := 11) (e := (11, 0)) h0_ rfl, ← hr_ 8 (by decide), ← hr_ 9 (by decide), ← hr_ 10 (by decide), ← hr_ 11 (by decide)]
    exact g.2.2.2
theorem rxcLSE_4_0 {S0 : Nat → Int → Int} {ws : List Int} {S : Nat → Int → Int} {m row cue one : Int} (hP : rxPLSE S0 ws) (hin : bx_same rxL (bx_mdl rxCLSE.2.2.1) S0 S) (I0 : bx_Inv rxL S) (hinv : rxILSE_4 S0 ws S m row cue one) (l8 : 1 ≤ m) (u8 : m ≤ 3) (l9 : (-1) ≤ row) (u9 : row ≤ 3) (l10 : (-1) ≤ cue) (u10 : cue ≤ 5) (l11 : 0 ≤ one) (u11 : one ≤ 1) : (True) ∧ (True) ∧ rxILSE_5 S0 ws S m row cue one ∧ rxmLSE_5 S0 ws S m row cue one < rxmLSE_4 S0 ws S m row cue one := by
  exact ⟨trivial, trivial, hinv, by unfold rxmLSE_4 rxmLSE_5; omega⟩
theorem rxgLSE_4_0 {X : (Nat → Int → Int) → Prop} {S0 : Nat → Int → Int} {ws : List Int} (hP : rxPLSE S0 ws) : bx_obC rxL X S0 rxCLSE.2.2.1 (rxILSE S0 ws) (rxmLSE S0 ws) 4 rxzLSE_4 rxoLSE_4_0 := by
  intro S S' r r' hinv hX hin hsm_ hseg
  obtain ⟨I0, I1, h0_, hr_, b_, f_, d_⟩ := bx_cl (evs := []) (fvs := []) hseg (by decide +kernel) (by decide +kernel)
  have hinv : rxILSE_4 S0 ws S (r 8) (r 9) (r 10) (r 11) := hinv
  rw [← hr_ 8 (by decide), ← hr_ 9 (by decide), ← hr_ 10 (by decide), ← hr_ 11 (by decide)] at hinv
  obtain ⟨⟨l8, u8⟩, ⟨l9, u9⟩, ⟨l10, u10⟩, ⟨l11, u11⟩, -⟩ := b_
  have w_ := d_
  subst w_
  have g := rxcLSE_4_0 hP hin I0 hinv l8 u8 l9 u9 l10 u10 l11 u11
  refine ⟨bx_narP_ok (l := []) g.1, bx_nfP_ok h0_ (fvs := []) (by decide +kernel) g.2.1, ?_, ?_⟩
  · show rxILSE_5 S0 ws S' (bx_val [(0, 0), (0, 0), (0, 0), (0, 0), (0, 0), (0, 0), (0, 0), (0, 0), (8, 0), (9, 0), (10, 0), (11, 0)] r' 8) (bx_val [(0, 0), (0, 0), (0, 0), (0, 0), (0, 0), (0, 0), (0, 0), (0, 0), (8, 0), (9, 0), (10, 0), (11, 0)] r' 9) (bx_val [(0, 0), (0, 0), (0, 0), (0, 0), (0, 0), (0, 0), (0, 0), (0, 0), (8, 0), (9, 0), (10, 0), (11, 0)] r' 10) (bx_val [(0, 0), (0, 0), (0, 0), (0, 0), (0, 0), (0, 0), (0, 0), (0, 0), (8, 0), (9, 0), (10, 0), (11, 0)] r' 11)
    rw [bx_val_x (n := 8) (e := (8, 0)) h0_ rfl, bx_val_x (n := 9) (e := (9, 0)) h0_ rfl, bx_val_x (n := 10) (e := (10, 0)) h0_ rfl, bx_val_x (n := 11) (e := (11, 0)) h0_ rfl]
    exact g.2.2.1
  · show rxmLSE_5 S0 ws S' (bx_val [(0, 0), (0, 0), (0, 0), (0, 0), (0, 0), (0, 0), (0, 0), (0, 0), (8, 0), (9, 0), (10, 0), (11, 0)] r' 8) (bx_val [(0, 0), (0, 0), (0, 0), (0, 0), (0, 0), (0, 0), (0, 0), (0, 0), (8, 0), (9, 0), (10, 0), (11, 0)] r' 9) (bx_val [(0, 0), (0, 0), (0, 0), (0, 0), (0, 0), (0, 0), (0, 0), (0, 0), (8, 0), (9, 0), (10, 0), (11, 0)] r' 10) (bx_val [(0, 0), (0, 0), (0, 0), (0, 0), (0, 0), (0, 0), (0, 0), (0, 0), (8, 0), (9, 0), (10, 0), (11, 0)] r' 11) < rxmLSE_4 S0 ws S' (r 8) (r 9) (r 10) (r 11)
    rw [bx_val_x (n := 8) (e := (8, 0)) h0_ rfl, bx_val_x (n := 9) (e := (9, 0)) h0_ rfl, bx_val_x (n := 10) (e := (10, 0)) h0_ rfl, bx_val_x (n := 11) (e := (11, 0)) h0_ rfl, ← hr_ 8 (by decide), ← hr_ 9 (by decide), ← hr_ 10 (by decide), ← hr_ 11 (by decide)]
    exact g.2.2.2
theorem rxdLSE_6_0 {S0 : Nat → Int → Int} {ws : List Int} {S : Nat → Int → Int} {m row cue one : Int} (hP : rxPLSE S0 ws) (hin : bx_same rxL (bx_mdl rxCLSE.2.2.1) S0 S) (hin2 : bx_same rxL (bx_mdl rxCLSE.2.2.1) S S) (I0 : bx_Inv rxL S) (I1 : bx_Inv rxL S) (hinv : rxILSE_6 S0 ws S m row cue one) (l8 : 1 ≤ m) (u8 : m ≤ 3) (l9 : (-1) ≤ row) (u9 : row ≤ 3) (l10 : (-1) ≤ cue) (u10 : cue ≤ 5) (l11 : 0 ≤ one) (u11 : one ≤ 1) : (True) ∧ rxPSLSE S0 ws S none := by
  exact ⟨trivial, rfl, m, row, cue, one, hinv.1, hinv.2⟩
theorem rxfLSE_6_0 {X : (Nat → Int → Int) → Prop} {S0 : Nat → Int → Int} {ws : List Int} (hP : rxPLSE S0 ws) : bx_obE rxL X S0 rxCLSE.2.2.1 (rxILSE S0 ws) (rxPSLSE S0 ws) 6 rxzLSE_6 rxeLSE_6_0 := by
  intro S S' r r' hinv hX hin hsm_ hseg
  obtain ⟨I0, I1, h0_, hr_, b_, f_, d_⟩ := bx_cl (evs := []) (fvs := []) hseg (by decide +kernel) (by decide +kernel)
  have hinv : rxILSE_6 S0 ws S (r 8) (r 9) (r 10) (r 11) := hinv
  rw [← hr_ 8 (by decide), ← hr_ 9 (by decide), ← hr_ 10 (by decide), ← hr_ 11 (by decide)] at hinv
  obtain ⟨⟨l8, u8⟩, ⟨l9, u9⟩, ⟨l10, u10⟩, ⟨l11, u11⟩, -⟩ := b_
  have w_ := d_
  subst w_
  have g := rxdLSE_6_0 hP hin hsm_ I0 I1 hinv l8 u8 l9 u9 l10 u10 l11 u11
  refine ⟨bx_narP_ok (l := []) g.1, ?_⟩
  exact g.2
theorem rxgCLSE {X : (Nat → Int → Int) → Prop} {S0 : Nat → Int → Int} {ws : List Int} (hP : rxPLSE S0 ws) : bx_allI (fun i q => rxULSE q = true ∨ bx_allP (fun o => bx_obC rxL X S0 rxCLSE.2.2.1 (rxILSE S0 ws) (rxmLSE S0 ws) i q.1 o) q.2.1) 0 rxYLSE := ⟨Or.inr ⟨rxgLSE_0_0 hP, trivial⟩, Or.inl rfl, Or.inr ⟨rxgLSE_2_0 hP, trivial⟩, Or.inl rfl, Or.inr ⟨rxgLSE_4_0 hP, trivial⟩, Or.inl rfl, Or.inr trivial, trivial⟩
theorem rxgELSE {X : (Nat → Int → Int) → Prop} {S0 : Nat → Int → Int} {ws : List Int} (hP : rxPLSE S0 ws) : bx_allI (fun i q => rxULSE q = true ∨ bx_allP (fun E => bx_obE rxL X S0 rxCLSE.2.2.1 (rxILSE S0 ws) (rxPSLSE S0 ws) i q.1 E) q.2.2) 0 rxYLSE := ⟨Or.inr trivial, Or.inl rfl, Or.inr trivial, Or.inl rfl, Or.inr trivial, Or.inl rfl, Or.inr ⟨rxfLSE_6_0 hP, trivial⟩, trivial⟩
theorem rxuLSE {PX : State → Prop} {Dg : va_G} {A : Nat → Prop} {ad xa : Nat → Nat} {l : Launch} {X : (Nat → Int → Int) → Prop} (hPX : rx_PXOK rxNW A PX) (hX : ∀ S S1 : Nat → Int → Int, X S → bx_same rxL (bx_mdl rxCLSE.2.2.1) S S1 → X S1) (hQLFA : bx_ConP rxG rxNW rxAO PX Dg rxL X vwCl A ad l rxM0 rxCLFA rxPLFA rxPSLFA) (hQLFB : bx_ConP rxG rxNW rxAO PX Dg rxL X vwCl A ad l rxM0 rxCLFB rxPLFB rxPSLFB) (hQLE12 : bx_ConP rxG rxNW rxAO PX Dg rxL X vwCl A ad l rxM53 rxCLE12 rxPLE12 rxPSLE12) {S0 : Nat → Int → Int} {ws : List Int} (hP : rxPLSE S0 ws) : ∀ (i : Nat) (q : bx_HE), rxYLSE[i]? = some q → rxULSE q = true → ∀ {p : Program} {e : Env} {R : Room} {s : State} {m : MethodId} {args : Array Value} {below : List Frame} {meth : Method} {c : Code} {Q : State → Prop} {H0 : Heap}, rx_Fr rxG rxNW rxAO PX p s m args meth c rxM52 → (∀ q, H0.size ≤ q → A q) → H0 = s.heap → rxM52.2.2.2.2.2.2.1 ≤ R.cells → rxM52.2.2.2.2.2.2.2 ≤ R.slots → rxCLSE.2.2.2.1 ≤ R.frames → rxCLSE.2.2.2.1 * 40 ≤ R.locals → bx_Step p l e R s m args below meth c Q Dg rxL X vwCl A xa H0 ad rxM52 rxYLSE (rxILSE S0 ws) (rxmLSE S0 ws) S0 rxCLSE.2.2.1 i q := by
  intro i q hq hus p e R s m args below meth c Q H0 hF hA hH0 hmc hms hd hdl
  match i, hq with
  | 0, hq =>
    cases hq
    exact absurd (show false = true from hus) Bool.false_ne_true
  | 1, hq =>
    cases hq
    exact rx_stepC (ins := .invokestatic 72) (len := 3) (i' := 2) (M' := rxM0) (d := rxCLSE.2.2.2.1) (as := [.inr (3, (0, 457)), .inr (0, (0, (-1)))]) (t := []) (ct := rxCLFA) hPX hF rfl hA hH0 hmc hms hd hdl (by decide +kernel) rfl rfl (by decide +kernel) (by decide +kernel) hQLFA (by decide +kernel) rfl (Or.inl ⟨rfl, rfl, rfl⟩) (rxsLSE_1 hP)
  | 2, hq =>
    cases hq
    exact absurd (show false = true from hus) Bool.false_ne_true
  | 3, hq =>
    cases hq
    exact rx_stepC (ins := .invokestatic 72) (len := 3) (i' := 4) (M' := rxM0) (d := rxCLSE.2.2.2.1) (as := [.inr (3, (0, 458)), .inr (0, (0, (-1)))]) (t := []) (ct := rxCLFB) hPX hF rfl hA hH0 hmc hms hd hdl (by decide +kernel) rfl rfl (by decide +kernel) (by decide +kernel) hQLFB (by decide +kernel) rfl (Or.inl ⟨rfl, rfl, rfl⟩) (rxsLSE_3 hP)
  | 4, hq =>
    cases hq
    exact absurd (show false = true from hus) Bool.false_ne_true
  | 5, hq =>
    cases hq
    exact rx_stepC (ins := .invokevirtual 78) (len := 3) (i' := 6) (M' := rxM53) (d := rxCLSE.2.2.2.1) (as := [.inr (3, (0, 451)), .inr (0, (0, 0)), .inr (0, (0, 0)), .inr (0, (0, 1))]) (t := []) (ct := rxCLE12) hPX hF rfl hA hH0 hmc hms hd hdl (by decide +kernel) rfl rfl (by decide +kernel) (by decide +kernel) hQLE12 (by decide +kernel) rfl (Or.inl ⟨rfl, rfl, rfl⟩) (rxsLSE_5 hP)
  | 6, hq =>
    cases hq
    exact absurd (show false = true from hus) Bool.false_ne_true
  | n + 7, hq => cases hq
theorem rxQLSE {PX : State → Prop} {Dg : va_G} {A : Nat → Prop} {ad xa : Nat → Nat} {l : Launch} {X : (Nat → Int → Int) → Prop} (hPX : rx_PXOK rxNW A PX) (hsl : ∀ s : State, PX s → ∀ o idx n : Nat, rxSl o idx = some n → ∃ tx : String, vk_R (rxNm o) idx tx (ad n) s)
    (hX : ∀ S S' : Nat → Int → Int, X S → bx_same rxL (bx_mdl rxCLSE.2.2.1) S S' → X S')
    (ih : ∀ (j2 : Nat) (ct2 : bx_Ct) (M2 : rx_Mt), ct2 ∈ rxCnE j2 → ct2.2.2.2.1 + 1 ≤ rxCLSE.2.2.2.1 → rxT.2.2.2.2.2 j2 = some M2 → bx_Con rxG rxNW rxAO PX Dg rxL X vwCl A ad l M2 ct2) (hQLFA : bx_ConP rxG rxNW rxAO PX Dg rxL X vwCl A ad l rxM0 rxCLFA rxPLFA rxPSLFA) (hQLFB : bx_ConP rxG rxNW rxAO PX Dg rxL X vwCl A ad l rxM0 rxCLFB rxPLFB rxPSLFB) (hQLE12 : bx_ConP rxG rxNW rxAO PX Dg rxL X vwCl A ad l rxM53 rxCLE12 rxPLE12 rxPSLE12) : bx_ConP rxG rxNW rxAO PX Dg rxL X vwCl A ad l rxM52 rxCLSE rxPLSE rxPSLSE :=
  rxQof (xa := xa) (Cn := rxCnE) (f := 30000) (j := 52) (tab := rxYLSE) (us := rxULSE) hPX hsl hX ih rfl rxYcLSE rxILSE rxmLSE
    (fun S0 ws r I0 I ht0 ht as he he1 hX0 hI0 hP hs ha => by
      have e := he.symm.trans (show bx_ent0 rxNP rxCLSE.1 bx_I0 [] = some ([(0, 0), (0, 0), (0, 0), (0, 0), (0, 0), (0, 0), (0, 0), (0, 0), (1, 3), ((-1), 3), ((-1), 5), (0, 1)], [], [.inr (3, (0, 451)), .inr (0, (8, 0)), .inr (0, (9, 0)), .inr (0, (10, 0)), .inr (0, (11, 0))]) from rfl)
      cases e
      subst ha
      have h0 : r 0 = 0 := hs.1
      show rxILSE_0 S0 _ S0 (r 8) (r 9) (r 10) (r 11)
      refine ⟨rfl, ?_⟩
      simp only [List.map_cons, List.map_nil, bx_xv_ok h0]
      rfl)
    (fun S0 ws hP => rxuLSE (xa := xa) hPX hX hQLFA hQLFB hQLE12 hP) (fun S0 ws hP => rxgCLSE hP) (fun S0 ws hP => rxgELSE hP)
