/-! CONTRACT BY HAND, by program (wip/sim/genhand.py): DeadUnderstudiesModel.inner -/
def rxCIN : bx_Ct := ([(3, (1, 480, 0))], some (0, (0, (-1), 32)), [], 0, [])
def rxIIN_0 (S0 : Nat → Int → Int) (ws : List Int) (S : Nat → Int → Int) : Prop := S = S0 ∧ ws = [480]
def rxmIN_0 (S0 : Nat → Int → Int) (ws : List Int) (S : Nat → Int → Int) : Nat := 10000
def rxzIN_0 : rx_Z := ([(0, 0), (0, 0), (0, 0), (0, 0), (0, 0), (0, 0), (0, 0), (0, 0)], [], [], 0, 0, 0, [(0, .inr (3, (0, 480)))], [])
def rxIIN_1 (S0 : Nat → Int → Int) (ws : List Int) (S : Nat → Int → Int) (its k : Int) : Prop := S = S0 ∧ ((its = -1 ∧ ∀ j : Int, 0 ≤ j → j < k → S 489 j < 31) ∨ (31 ≤ its ∧ ∃ b : Int, 0 ≤ b ∧ b < k ∧ b < S 480 24 ∧ S 489 b = its ∧ ∀ j : Int, b < j → j < k → S 489 j < 31))
def rxmIN_1 (S0 : Nat → Int → Int) (ws : List Int) (S : Nat → Int → Int) (its k : Int) : Nat := 10 * (500 - k).toNat
def rxzIN_1 : rx_Z := ([(0, 0), (0, 0), (0, 0), (0, 0), (0, 0), (0, 0), (0, 0), (0, 0), ((-1), 32), (0, 400)], [], [], 0, 0, 4, [(0, .inr (3, (0, 480))), (1, .inr (0, (8, 0))), (2, .inr (0, (9, 0)))], [])
def rxoIN_0_0 : bx_HO := (([(0, 0), (0, 0), (0, 0), (0, 0), (0, 0), (0, 0), (0, 0), (0, 0)], [], [], 0, 0, 4, [(2, .inr (0, (0, 0))), (1, .inr (0, (0, (-1)))), (0, .inr (3, (0, 480)))], []), [], [], [(0, 0), (0, 0), (0, 0), (0, 0), (0, 0), (0, 0), (0, 0), (0, 0), (0, (-1)), (0, 0)], 1)
def rxoIN_1_0 : bx_HO := (([(0, 0), (0, 0), (0, 0), (0, 0), (0, 0), (0, 0), (0, 0), (0, 0), ((-1), 32), (0, 399), (1, 400), (31, 32), (0, 32)], [(0, (9, 0), (10, 0))], [(((0, 0), 1851192626986356797424367893248739914126558548369245151066914816000000), .inr (0, (12, 0))), (((0, 0), 1851192626986356797424367893248739914126558548369245151066914816000000), .inr (0, (11, 0))), (((0, 480), 22), .inr (3, (0, 489))), (((0, 0), 1851192626986356802241301293259633916682733161918089263128248320000000), .inr (0, (10, 0))), (((0, 480), 24), .inr (0, (10, 0)))], 0, 0, 4, [(2, .inr (0, (9, 1))), (1, .inr (0, (12, 0))), (0, .inr (3, (0, 480)))], []), [], [], [(0, 0), (0, 0), (0, 0), (0, 0), (0, 0), (0, 0), (0, 0), (0, 0), (12, 0), (9, 1)], 1)
def rxoIN_1_1 : bx_HO := (([(0, 0), (0, 0), (0, 0), (0, 0), (0, 0), (0, 0), (0, 0), (0, 0), ((-1), 32), (0, 399), (1, 400), (0, 30)], [(0, (9, 0), (10, 0))], [(((0, 0), 1851192626986356797424367893248739914126558548369245151066914816000000), .inr (0, (11, 0))), (((0, 480), 22), .inr (3, (0, 489))), (((0, 0), 1851192626986356802241301293259633916682733161918089263128248320000000), .inr (0, (10, 0))), (((0, 480), 24), .inr (0, (10, 0)))], 0, 0, 4, [(2, .inr (0, (9, 1))), (1, .inr (0, (8, 0))), (0, .inr (3, (0, 480)))], []), [], [], [(0, 0), (0, 0), (0, 0), (0, 0), (0, 0), (0, 0), (0, 0), (0, 0), (8, 0), (9, 1)], 1)
def rxeIN_1_0 : rx_End × List (Nat × Int × Int) := (([(0, 0), (0, 0), (0, 0), (0, 0), (0, 0), (0, 0), (0, 0), (0, 0), ((-1), 32), (0, 400), (0, 400)], [(1, (10, 0), (9, 0))], [(((0, 0), 1851192626986356802241301293259633916682733161918089263128248320000000), .inr (0, (10, 0))), (((0, 480), 24), .inr (0, (10, 0)))], some (.inr (0, (8, 0)))), [])
def rxYIN : List bx_HE := [(rxzIN_0, [rxoIN_0_0], []), (rxzIN_1, [rxoIN_1_0, rxoIN_1_1], [rxeIN_1_0])]
def rxUIN (q : bx_HE) : Bool := false
def rxYBIN : bx_B := (rxV, rxNP, rxDmf, bx_mdH rxCIN.2.2.1)
set_option maxRecDepth 100000 in
theorem rxYcIN : bx_chkH rxYBIN rxM276 rxCIN rxYIN (rxUIN, fun cut z => rx_ex2 (rxCT rxYBIN rxCnE) cut 30000 rxCIN.2.2.2.1 276 z) = true := by decide +kernel
def rxIIN (S0 : Nat → Int → Int) (ws : List Int) (i : Nat) : bx_SP := fun S r => match i with | 0 => rxIIN_0 S0 ws S | 1 => rxIIN_1 S0 ws S (r 8) (r 9) | _ => False
def rxmIN (S0 : Nat → Int → Int) (ws : List Int) (i : Nat) (S : Nat → Int → Int) (r : Nat → Int) : Nat := match i with | 0 => rxmIN_0 S0 ws S | 1 => rxmIN_1 S0 ws S (r 8) (r 9) | _ => 0
def rxPIN (S0 : Nat → Int → Int) (ws : List Int) : Prop := True
def rxPSIN (S0 : Nat → Int → Int) (ws : List Int) (S : Nat → Int → Int) (w : Option Int) : Prop := S = S0 ∧ ∃ its : Int, w = some its ∧ ((its = -1 ∧ ∀ j : Int, 0 ≤ j → j < S 480 24 → S 489 j < 31) ∨ (31 ≤ its ∧ ∃ b : Int, 0 ≤ b ∧ b < S 480 24 ∧ S 489 b = its ∧ ∀ j : Int, b < j → j < S 480 24 → S 489 j < 31))
theorem rxcIN_0_0 {S0 : Nat → Int → Int} {ws : List Int} {S : Nat → Int → Int} (hP : rxPIN S0 ws) (hin : bx_same rxL (bx_mdl rxCIN.2.2.1) S0 S) (I0 : bx_Inv rxL S) (hinv : rxIIN_0 S0 ws S)  : (True) ∧ (True) ∧ rxIIN_1 S0 ws S ((-1)) 0 ∧ rxmIN_1 S0 ws S ((-1)) 0 < rxmIN_0 S0 ws S := by
  exact ⟨trivial, trivial, ⟨hinv.1, Or.inl ⟨rfl, fun j h1 h2 => by omega⟩⟩, by unfold rxmIN_0 rxmIN_1; omega⟩
theorem rxgIN_0_0 {X : (Nat → Int → Int) → Prop} {S0 : Nat → Int → Int} {ws : List Int} (hP : rxPIN S0 ws) : bx_obC rxL X S0 rxCIN.2.2.1 (rxIIN S0 ws) (rxmIN S0 ws) 0 rxzIN_0 rxoIN_0_0 := by
  intro S S_p r r_p hinv hX hin hsm_ hseg
  obtain ⟨I0, I1, h0_, hr_, b_, f_, d_⟩ := bx_cl (evs := []) (fvs := []) hseg (by decide +kernel) (by decide +kernel)
  have hinv : rxIIN_0 S0 ws S := hinv
  have w_ := d_
  subst w_
  have g := rxcIN_0_0 hP hin I0 hinv 
  refine ⟨bx_narP_ok (l := []) g.1, bx_nfP_ok h0_ (fvs := []) (by decide +kernel) g.2.1, ?_, ?_⟩
  · show rxIIN_1 S0 ws S_p (bx_val [(0, 0), (0, 0), (0, 0), (0, 0), (0, 0), (0, 0), (0, 0), (0, 0), (0, (-1)), (0, 0)] r_p 8) (bx_val [(0, 0), (0, 0), (0, 0), (0, 0), (0, 0), (0, 0), (0, 0), (0, 0), (0, (-1)), (0, 0)] r_p 9)
    rw [bx_val_x (n := 8) (e := (0, (-1))) h0_ rfl, bx_val_x (n := 9) (e := (0, 0)) h0_ rfl]
    exact g.2.2.1
  · show rxmIN_1 S0 ws S_p (bx_val [(0, 0), (0, 0), (0, 0), (0, 0), (0, 0), (0, 0), (0, 0), (0, 0), (0, (-1)), (0, 0)] r_p 8) (bx_val [(0, 0), (0, 0), (0, 0), (0, 0), (0, 0), (0, 0), (0, 0), (0, 0), (0, (-1)), (0, 0)] r_p 9) < rxmIN_0 S0 ws S_p
    rw [bx_val_x (n := 8) (e := (0, (-1))) h0_ rfl, bx_val_x (n := 9) (e := (0, 0)) h0_ rfl]
    exact g.2.2.2
theorem rxcIN_1_0 {S0 : Nat → Int → Int} {ws : List Int} {S : Nat → Int → Int} {its k x10 x11 x12 : Int} (hP : rxPIN S0 ws) (hin : bx_same rxL (bx_mdl rxCIN.2.2.1) S0 S) (I0 : bx_Inv rxL S) (hinv : rxIIN_1 S0 ws S its k) (l8 : (-1) ≤ its) (u8 : its ≤ 32) (l9 : 0 ≤ k) (u9 : k ≤ 399) (l10 : 1 ≤ x10) (u10 : x10 ≤ 400) (l11 : 31 ≤ x11) (u11 : x11 ≤ 32) (l12 : 0 ≤ x12) (u12 : x12 ≤ 32) (f0 : k < x10) (e2 : S 480 24 = x10) (e1 : S 489 k = x11) (e0 : S 489 k = x12) : (True) ∧ (True) ∧ rxIIN_1 S0 ws S x12 (k + 1) ∧ rxmIN_1 S0 ws S x12 (k + 1) < rxmIN_1 S0 ws S its k := by
  obtain ⟨hs, h⟩ := hinv
  have he := e0.symm.trans e1
  refine ⟨trivial, trivial, ⟨hs, Or.inr ⟨by omega, k, by omega, by omega, by omega, by omega, fun j g0 g1 => by omega⟩⟩, by unfold rxmIN_1; omega⟩
theorem rxgIN_1_0 {X : (Nat → Int → Int) → Prop} {S0 : Nat → Int → Int} {ws : List Int} (hP : rxPIN S0 ws) : bx_obC rxL X S0 rxCIN.2.2.1 (rxIIN S0 ws) (rxmIN S0 ws) 1 rxzIN_1 rxoIN_1_0 := by
  intro S S_p r r_p hinv hX hin hsm_ hseg
  obtain ⟨I0, I1, h0_, hr_, b_, f_, d_⟩ := bx_cl (evs := [(0, (0, 489), (9, 0), .inr (0, (12, 0))), (0, (0, 489), (9, 0), .inr (0, (11, 0))), (0, (0, 480), (0, 24), .inr (0, (10, 0)))]) (fvs := [(0, (9, 0), (10, 0), (0, 0))]) hseg (by decide +kernel) (by decide +kernel)
  have hinv : rxIIN_1 S0 ws S (r 8) (r 9) := hinv
  rw [← hr_ 8 (by decide), ← hr_ 9 (by decide)] at hinv
  obtain ⟨⟨l8, u8⟩, ⟨l9, u9⟩, ⟨l10, u10⟩, ⟨l11, u11⟩, ⟨l12, u12⟩, -⟩ := b_
  obtain ⟨f0, -⟩ := f_
  obtain ⟨e0, ⟨e1, ⟨e2, w_⟩⟩⟩ := d_
  subst w_
  have g := rxcIN_1_0 hP hin I0 hinv l8 u8 l9 u9 l10 u10 l11 u11 l12 u12 f0 e2 e1 e0
  refine ⟨bx_narP_ok (l := []) g.1, bx_nfP_ok h0_ (fvs := []) (by decide +kernel) g.2.1, ?_, ?_⟩
  · show rxIIN_1 S0 ws S_p (bx_val [(0, 0), (0, 0), (0, 0), (0, 0), (0, 0), (0, 0), (0, 0), (0, 0), (12, 0), (9, 1)] r_p 8) (bx_val [(0, 0), (0, 0), (0, 0), (0, 0), (0, 0), (0, 0), (0, 0), (0, 0), (12, 0), (9, 1)] r_p 9)
    rw [bx_val_x (n := 8) (e := (12, 0)) h0_ rfl, bx_val_x (n := 9) (e := (9, 1)) h0_ rfl]
    exact g.2.2.1
  · show rxmIN_1 S0 ws S_p (bx_val [(0, 0), (0, 0), (0, 0), (0, 0), (0, 0), (0, 0), (0, 0), (0, 0), (12, 0), (9, 1)] r_p 8) (bx_val [(0, 0), (0, 0), (0, 0), (0, 0), (0, 0), (0, 0), (0, 0), (0, 0), (12, 0), (9, 1)] r_p 9) < rxmIN_1 S0 ws S_p (r 8) (r 9)
    rw [bx_val_x (n := 8) (e := (12, 0)) h0_ rfl, bx_val_x (n := 9) (e := (9, 1)) h0_ rfl, ← hr_ 8 (by decide), ← hr_ 9 (by decide)]
    exact g.2.2.2
theorem rxcIN_1_1 {S0 : Nat → Int → Int} {ws : List Int} {S : Nat → Int → Int} {its k x10 x11 : Int} (hP : rxPIN S0 ws) (hin : bx_same rxL (bx_mdl rxCIN.2.2.1) S0 S) (I0 : bx_Inv rxL S) (hinv : rxIIN_1 S0 ws S its k) (l8 : (-1) ≤ its) (u8 : its ≤ 32) (l9 : 0 ≤ k) (u9 : k ≤ 399) (l10 : 1 ≤ x10) (u10 : x10 ≤ 400) (l11 : 0 ≤ x11) (u11 : x11 ≤ 30) (f0 : k < x10) (e1 : S 480 24 = x10) (e0 : S 489 k = x11) : (True) ∧ (True) ∧ rxIIN_1 S0 ws S its (k + 1) ∧ rxmIN_1 S0 ws S its (k + 1) < rxmIN_1 S0 ws S its k := by
  obtain ⟨hs, h⟩ := hinv
  refine ⟨trivial, trivial, ⟨hs, ?_⟩, by unfold rxmIN_1; omega⟩
  rcases h with ⟨h1, h2⟩ | ⟨h1, b, b0, b1, b2, b3, b4⟩
  · refine Or.inl ⟨h1, fun j g0 g1 => ?_⟩
    by_cases hj : j = k
    · subst hj
      omega
    · exact h2 j g0 (by omega)
  · refine Or.inr ⟨h1, b, b0, by omega, b2, b3, fun j g0 g1 => ?_⟩
    by_cases hj : j = k
    · subst hj
      omega
    · exact b4 j g0 (by omega)
theorem rxgIN_1_1 {X : (Nat → Int → Int) → Prop} {S0 : Nat → Int → Int} {ws : List Int} (hP : rxPIN S0 ws) : bx_obC rxL X S0 rxCIN.2.2.1 (rxIIN S0 ws) (rxmIN S0 ws) 1 rxzIN_1 rxoIN_1_1 := by
  intro S S_p r r_p hinv hX hin hsm_ hseg
  obtain ⟨I0, I1, h0_, hr_, b_, f_, d_⟩ := bx_cl (evs := [(0, (0, 489), (9, 0), .inr (0, (11, 0))), (0, (0, 480), (0, 24), .inr (0, (10, 0)))]) (fvs := [(0, (9, 0), (10, 0), (0, 0))]) hseg (by decide +kernel) (by decide +kernel)
  have hinv : rxIIN_1 S0 ws S (r 8) (r 9) := hinv
  rw [← hr_ 8 (by decide), ← hr_ 9 (by decide)] at hinv
  obtain ⟨⟨l8, u8⟩, ⟨l9, u9⟩, ⟨l10, u10⟩, ⟨l11, u11⟩, -⟩ := b_
  obtain ⟨f0, -⟩ := f_
  obtain ⟨e0, ⟨e1, w_⟩⟩ := d_
  subst w_
  have g := rxcIN_1_1 hP hin I0 hinv l8 u8 l9 u9 l10 u10 l11 u11 f0 e1 e0
  refine ⟨bx_narP_ok (l := []) g.1, bx_nfP_ok h0_ (fvs := []) (by decide +kernel) g.2.1, ?_, ?_⟩
  · show rxIIN_1 S0 ws S_p (bx_val [(0, 0), (0, 0), (0, 0), (0, 0), (0, 0), (0, 0), (0, 0), (0, 0), (8, 0), (9, 1)] r_p 8) (bx_val [(0, 0), (0, 0), (0, 0), (0, 0), (0, 0), (0, 0), (0, 0), (0, 0), (8, 0), (9, 1)] r_p 9)
    rw [bx_val_x (n := 8) (e := (8, 0)) h0_ rfl, bx_val_x (n := 9) (e := (9, 1)) h0_ rfl]
    exact g.2.2.1
  · show rxmIN_1 S0 ws S_p (bx_val [(0, 0), (0, 0), (0, 0), (0, 0), (0, 0), (0, 0), (0, 0), (0, 0), (8, 0), (9, 1)] r_p 8) (bx_val [(0, 0), (0, 0), (0, 0), (0, 0), (0, 0), (0, 0), (0, 0), (0, 0), (8, 0), (9, 1)] r_p 9) < rxmIN_1 S0 ws S_p (r 8) (r 9)
    rw [bx_val_x (n := 8) (e := (8, 0)) h0_ rfl, bx_val_x (n := 9) (e := (9, 1)) h0_ rfl, ← hr_ 8 (by decide), ← hr_ 9 (by decide)]
    exact g.2.2.2
theorem rxdIN_1_0 {S0 : Nat → Int → Int} {ws : List Int} {S : Nat → Int → Int} {its k x10 : Int} (hP : rxPIN S0 ws) (hin : bx_same rxL (bx_mdl rxCIN.2.2.1) S0 S) (hin2 : bx_same rxL (bx_mdl rxCIN.2.2.1) S S) (I0 : bx_Inv rxL S) (I1 : bx_Inv rxL S) (hinv : rxIIN_1 S0 ws S its k) (l8 : (-1) ≤ its) (u8 : its ≤ 32) (l9 : 0 ≤ k) (u9 : k ≤ 400) (l10 : 0 ≤ x10) (u10 : x10 ≤ 400) (f0 : x10 ≤ k) (e0 : S 480 24 = x10) : (True) ∧ rxPSIN S0 ws S (some its) := by
  obtain ⟨hs, h⟩ := hinv
  refine ⟨trivial, hs, its, rfl, ?_⟩
  rcases h with ⟨h1, h2⟩ | ⟨h1, b, b0, b1, b2, b3, b4⟩
  · exact Or.inl ⟨h1, fun j g0 g1 => h2 j g0 (by omega)⟩
  · exact Or.inr ⟨h1, b, b0, b2, b3, fun j g0 g1 => b4 j g0 (by omega)⟩
theorem rxfIN_1_0 {X : (Nat → Int → Int) → Prop} {S0 : Nat → Int → Int} {ws : List Int} (hP : rxPIN S0 ws) : bx_obE rxL X S0 rxCIN.2.2.1 (rxIIN S0 ws) (rxPSIN S0 ws) 1 rxzIN_1 rxeIN_1_0 := by
  intro S S_p r r_p hinv hX hin hsm_ hseg
  obtain ⟨I0, I1, h0_, hr_, b_, f_, d_⟩ := bx_cl (evs := [(0, (0, 480), (0, 24), .inr (0, (10, 0)))]) (fvs := [(1, (10, 0), (9, 0), (0, 0))]) hseg (by decide +kernel) (by decide +kernel)
  have hinv : rxIIN_1 S0 ws S (r 8) (r 9) := hinv
  rw [← hr_ 8 (by decide), ← hr_ 9 (by decide)] at hinv
  obtain ⟨⟨l8, u8⟩, ⟨l9, u9⟩, ⟨l10, u10⟩, -⟩ := b_
  obtain ⟨f0, -⟩ := f_
  obtain ⟨e0, w_⟩ := d_
  subst w_
  have g := rxdIN_1_0 hP hin hsm_ I0 I1 hinv l8 u8 l9 u9 l10 u10 f0 e0
  refine ⟨bx_narP_ok (l := []) g.1, ?_⟩
  show rxPSIN S0 ws S_p (some (bx_num r_p (.inr (0, (8, 0)))))
  rw [bx_xv_ok h0_]
  exact g.2
theorem rxgCIN {X : (Nat → Int → Int) → Prop} {S0 : Nat → Int → Int} {ws : List Int} (hP : rxPIN S0 ws) : bx_allI (fun i q => rxUIN q = true ∨ bx_allP (fun o => bx_obC rxL X S0 rxCIN.2.2.1 (rxIIN S0 ws) (rxmIN S0 ws) i q.1 o) q.2.1) 0 rxYIN := ⟨Or.inr ⟨rxgIN_0_0 hP, trivial⟩, Or.inr ⟨rxgIN_1_0 hP, rxgIN_1_1 hP, trivial⟩, trivial⟩
theorem rxgEIN {X : (Nat → Int → Int) → Prop} {S0 : Nat → Int → Int} {ws : List Int} (hP : rxPIN S0 ws) : bx_allI (fun i q => rxUIN q = true ∨ bx_allP (fun E => bx_obE rxL X S0 rxCIN.2.2.1 (rxIIN S0 ws) (rxPSIN S0 ws) i q.1 E) q.2.2) 0 rxYIN := ⟨Or.inr trivial, Or.inr ⟨rxfIN_1_0 hP, trivial⟩, trivial⟩
theorem rxQIN {PX : State → Prop} {Dg : va_G} {A : Nat → Prop} {ad xa : Nat → Nat} {l : Launch} {X : (Nat → Int → Int) → Prop} (hPX : rx_PXOK rxNW A PX) (hsl : ∀ s : State, PX s → ∀ o idx n : Nat, rxSl o idx = some n → ∃ tx : String, vk_R (rxNm o) idx tx (ad n) s)
    (hX : ∀ S S_p : Nat → Int → Int, X S → bx_same rxL (bx_mdl rxCIN.2.2.1) S S_p → X S_p)
    (ih : ∀ (j2 : Nat) (ct2 : bx_Ct) (M2 : rx_Mt), ct2 ∈ rxCnE j2 → ct2.2.2.2.1 + 1 ≤ rxCIN.2.2.2.1 → rxT.2.2.2.2.2 j2 = some M2 → bx_Con rxG rxNW rxAO PX Dg rxL X vwCl A ad l M2 ct2) : bx_ConP rxG rxNW rxAO PX Dg rxL X vwCl A ad l rxM276 rxCIN rxPIN rxPSIN :=
  rxQof (xa := xa) (Cn := rxCnE) (f := 30000) (j := 276) (tab := rxYIN) (us := rxUIN) hPX hsl hX ih rfl rxYcIN rxIIN rxmIN
    (fun S0 ws r I0 I ht0 ht as he he1 hX0 hI0 hP hs ha => by
      have e := he.symm.trans (show bx_ent0 rxNP rxCIN.1 bx_I0 [] = some ([(0, 0), (0, 0), (0, 0), (0, 0), (0, 0), (0, 0), (0, 0), (0, 0)], [], [.inr (3, (0, 480))]) from rfl)
      cases e
      subst ha
      have h0 : r 0 = 0 := hs.1
      show rxIIN_0 S0 _ S0
      refine ⟨rfl, ?_⟩
      simp only [List.map_cons, List.map_nil, bx_xv_ok h0]
      rfl)
    (fun S0 ws hP => fun i q hq hus => absurd (show false = true from hus) Bool.false_ne_true) (fun S0 ws hP => rxgCIN hP) (fun S0 ws hP => rxgEIN hP)
