/-- no contracts -/
def rxCnE : Nat → List bx_Ct := fun _ => []
/-! CONTRACT BY HAND, by program (wip/sim/genhand.py): DeadUnderstudiesModel.image -/
def rxI209_0 (S0 : Nat → Int → Int) (ws : List Int) (S : Nat → Int → Int) (k : Int) : Prop := S = S0 ∧ ws = [480, k]
def rxm209_0 (S0 : Nat → Int → Int) (ws : List Int) (S : Nat → Int → Int) (k : Int) : Nat := 40000
def rxz209_0 : rx_Z := ([(0, 0), (0, 0), (0, 0), (0, 0), (0, 0), (0, 0), (0, 0), (0, 0), ((-2147483648), 2147483647)], [], [], 0, 0, 0, [(0, .inr (3, (0, 480))), (1, .inr (0, (8, 0)))], [])
def rxI209_1 (S0 : Nat → Int → Int) (ws : List Int) (S : Nat → Int → Int) (k i : Int) : Prop := (∀ j : Int, S 484 j = S0 484 j) ∧ ws = [480, k] ∧ (∀ j : Int, 0 ≤ j → j < i → S 483 (6180 * k + j) = S0 482 j) ∧ (∀ j : Int, (j < 6180 * k ∨ 6180 * k + i ≤ j) → S 483 j = S0 483 j)
def rxm209_1 (S0 : Nat → Int → Int) (ws : List Int) (S : Nat → Int → Int) (k i : Int) : Nat := 3 * (6200 - i).toNat + 2
def rxz209_1 : rx_Z := ([(0, 0), (0, 0), (0, 0), (0, 0), (0, 0), (0, 0), (0, 0), (0, 0), (0, 1), (0, 6180)], [], [], 0, 0, 23, [(0, .inr (3, (0, 480))), (1, .inr (0, (8, 0))), (2, .inr (0, (9, 0)))], [])
def rxI209_2 (S0 : Nat → Int → Int) (ws : List Int) (S : Nat → Int → Int) (k i a v : Int) : Prop := a = 6180 * k + i ∧ v = S0 482 i ∧ (∀ j : Int, S 484 j = S0 484 j) ∧ ws = [480, k] ∧ (∀ j : Int, 0 ≤ j → j < i → S 483 (6180 * k + j) = S0 482 j) ∧ (∀ j : Int, (j < 6180 * k ∨ 6180 * k + i ≤ j) → S 483 j = S0 483 j)
def rxm209_2 (S0 : Nat → Int → Int) (ws : List Int) (S : Nat → Int → Int) (k i a v : Int) : Nat := 3 * (6200 - i).toNat + 1
def rxz209_2 : rx_Z := ([(0, 0), (0, 0), (0, 0), (0, 0), (0, 0), (0, 0), (0, 0), (0, 0), (0, 1), (0, 6179), (0, 12359), ((-2147483648), 2147483647)], [], [], 0, 0, 47, [(0, .inr (3, (0, 480))), (1, .inr (0, (8, 0))), (2, .inr (0, (9, 0)))], [.inr (0, (11, 0)), .inr (0, (10, 0)), .inr (3, (0, 483))])
def rxI209_3 (S0 : Nat → Int → Int) (ws : List Int) (S : Nat → Int → Int) (k i a v : Int) : Prop := (∀ j : Int, S 484 j = S0 484 j) ∧ ws = [480, k] ∧ (∀ j : Int, 0 ≤ j → j < (i + 1) → S 483 (6180 * k + j) = S0 482 j) ∧ (∀ j : Int, (j < 6180 * k ∨ 6180 * k + (i + 1) ≤ j) → S 483 j = S0 483 j)
def rxm209_3 (S0 : Nat → Int → Int) (ws : List Int) (S : Nat → Int → Int) (k i a v : Int) : Nat := 3 * (6200 - i).toNat
def rxz209_3 : rx_Z := ([(0, 0), (0, 0), (0, 0), (0, 0), (0, 0), (0, 0), (0, 0), (0, 0), (0, 1), (0, 6179), (0, 12359), ((-2147483648), 2147483647)], [], [], 0, 0, 48, [(0, .inr (3, (0, 480))), (1, .inr (0, (8, 0))), (2, .inr (0, (9, 0)))], [])
def rxo209_0_0 : bx_HO := (([(0, 0), (0, 0), (0, 0), (0, 0), (0, 0), (0, 0), (0, 0), (0, 0), (0, 1)], [], [(((0, 0), 1851192626986356797424340330377019318111018015026043177836478467000000), .inr (0, (0, 0))), (((0, 480), 0), .inr (0, (0, 0)))], 0, 0, 23, [(2, .inr (0, (0, 0))), (0, .inr (3, (0, 480))), (1, .inr (0, (8, 0)))], []), [], [], [(0, 0), (0, 0), (0, 0), (0, 0), (0, 0), (0, 0), (0, 0), (0, 0), (8, 0), (0, 0)], 1)
def rxe209_0_0 : rx_End × List (Nat × Int × Int) := (([(0, 0), (0, 0), (0, 0), (0, 0), (0, 0), (0, 0), (0, 0), (0, 0), ((-2147483648), (-1)), ((-2147483648), 2147483647), ((-2147483648), 2147483647)], [], [(((0, 0), 1851192626986356797625047037163794926384839479479878431390892035000000), .inr (0, (10, 0))), (((0, 481), 1), .inr (0, (10, 0))), (((0, 0), 1851192626986356797625047037163794926384839479479878431390892032000000), .inr (0, (9, 0))), (((0, 480), 2), .inr (3, (0, 481))), (((0, 0), 1851192626986356797625047037163794926384839479479878431390302211000000), .inr (0, (0, (-1)))), (((0, 480), 1), .inr (0, (0, (-1)))), (((0, 0), 1851192626986356797424340330377019318111018015026043177836478467000000), .inr (0, (0, 0))), (((0, 480), 0), .inr (0, (0, 0)))], some (.inr (0, (0, (-1))))), [])
def rxe209_0_1 : rx_End × List (Nat × Int × Int) := (([(0, 0), (0, 0), (0, 0), (0, 0), (0, 0), (0, 0), (0, 0), (0, 0), (2, 2147483647), ((-2147483648), 2147483647), ((-2147483648), 2147483647)], [], [(((0, 0), 1851192626986356797625047037163794926384839479479878431390892035000000), .inr (0, (10, 0))), (((0, 481), 1), .inr (0, (10, 0))), (((0, 0), 1851192626986356797625047037163794926384839479479878431390892032000000), .inr (0, (9, 0))), (((0, 480), 2), .inr (3, (0, 481))), (((0, 0), 1851192626986356797625047037163794926384839479479878431390302211000000), .inr (0, (0, (-1)))), (((0, 480), 1), .inr (0, (0, (-1)))), (((0, 0), 1851192626986356797424340330377019318111018015026043177836478467000000), .inr (0, (0, 0))), (((0, 480), 0), .inr (0, (0, 0)))], some (.inr (0, (0, (-1))))), [])
def rxo209_1_0 : bx_HO := (([(0, 0), (0, 0), (0, 0), (0, 0), (0, 0), (0, 0), (0, 0), (0, 0), (0, 1), (0, 6179), (0, 6180), (0, 12359), ((-1), 1000)], [(604462909807314587353097000000, (11, 0), (10, 0)), (6184, (10, 0), (8, 0))], [(((0, 0), 1851192626986356797424367893248739914126558548369245151062786048000000), .inr (0, (12, 0))), (((0, 480), 3), .inr (3, (0, 482))), (((0, 480), 4), .inr (3, (0, 483)))], 0, 0, 47, [(0, .inr (3, (0, 480))), (1, .inr (0, (8, 0))), (2, .inr (0, (9, 0)))], [.inr (0, (12, 0)), .inr (0, (11, 0)), .inr (3, (0, 483))]), [], [], [(0, 0), (0, 0), (0, 0), (0, 0), (0, 0), (0, 0), (0, 0), (0, 0), (8, 0), (9, 0), (11, 0), (12, 0)], 2)
def rxe209_1_0 : rx_End × List (Nat × Int × Int) := (([(0, 0), (0, 0), (0, 0), (0, 0), (0, 0), (0, 0), (0, 0), (0, 0), (0, 1), (6180, 6180)], [], [(((0, 0), 1851192626986356797625047037163794926384839479479878431390302211000000), .inr (0, (0, 0))), (((0, 480), 1), .inr (0, (0, 0))), (((0, 0), 1851192626986356797424364830707437625680387377997778265150062595000000), .inr (0, (0, 1))), (((0, 480), 5), .inr (3, (0, 484)))], some (.inr (0, (0, 0)))), [])
def rxo209_3_0 : bx_HO := (([(0, 0), (0, 0), (0, 0), (0, 0), (0, 0), (0, 0), (0, 0), (0, 0), (0, 1), (0, 6179), (0, 12359), ((-2147483648), 2147483647)], [], [], 0, 0, 23, [(2, .inr (0, (9, 1))), (0, .inr (3, (0, 480))), (1, .inr (0, (8, 0)))], []), [], [], [(0, 0), (0, 0), (0, 0), (0, 0), (0, 0), (0, 0), (0, 0), (0, 0), (8, 0), (9, 1)], 1)
def rxY209 : List bx_HE := [(rxz209_0, [rxo209_0_0], [rxe209_0_0, rxe209_0_1]), (rxz209_1, [rxo209_1_0], [rxe209_1_0]), (rxz209_2, [], []), (rxz209_3, [rxo209_3_0], [])]
def rxU209 (q : bx_HE) : Bool := Nat.beq (rx_zpc q.1) 47
def rxYB209 : bx_B := (rxV, rxNP, rxDmf, bx_mdH rxC209.2.2.1)
set_option maxRecDepth 100000 in
theorem rxYc209 : bx_chkH rxYB209 rxM209 rxC209 rxY209 (rxU209, fun cut z => rx_ex2 (rxCT rxYB209 rxCnE) cut 30000 rxC209.2.2.2.1 209 z) = true := by decide +kernel
def rxI209 (S0 : Nat → Int → Int) (ws : List Int) (i : Nat) : bx_SP := fun S r => match i with | 0 => rxI209_0 S0 ws S (r 8) | 1 => rxI209_1 S0 ws S (r 8) (r 9) | 2 => rxI209_2 S0 ws S (r 8) (r 9) (r 10) (r 11) | 3 => rxI209_3 S0 ws S (r 8) (r 9) (r 10) (r 11) | _ => False
def rxm209 (S0 : Nat → Int → Int) (ws : List Int) (i : Nat) (S : Nat → Int → Int) (r : Nat → Int) : Nat := match i with | 0 => rxm209_0 S0 ws S (r 8) | 1 => rxm209_1 S0 ws S (r 8) (r 9) | 2 => rxm209_2 S0 ws S (r 8) (r 9) (r 10) (r 11) | 3 => rxm209_3 S0 ws S (r 8) (r 9) (r 10) (r 11) | _ => 0
def rxP209 (S0 : Nat → Int → Int) (ws : List Int) : Prop := True
def rxPS209 (S0 : Nat → Int → Int) (ws : List Int) (S : Nat → Int → Int) (w : Option Int) : Prop := ∃ k : Int, ws = [480, k] ∧ ((0 ≤ k ∧ k ≤ 1 ∧ w = some 0 ∧ (∀ j : Int, 0 ≤ j → j < 6180 → S 483 (6180 * k + j) = S0 482 j) ∧ (∀ j : Int, (j < 6180 * k ∨ 6180 * k + 6180 ≤ j) → S 483 j = S0 483 j)) ∨ ((k < 0 ∨ 1 < k) ∧ w = some (-1) ∧ ∀ j : Int, S 483 j = S0 483 j)) ∧ ∀ j : Int, 0 ≤ j → j ≤ 1 → S 484 j = if j = k then 1 else S0 484 j
theorem rxt209_2 {S0 : Nat → Int → Int} {ws : List Int} {S : Nat → Int → Int} {k i a v : Int} (hP : rxP209 S0 ws) (hin : bx_same rxL (bx_mdl rxC209.2.2.1) S0 S) (I0 : bx_Inv rxL S) (hinv : rxI209_2 S0 ws S k i a v) (l8 : 0 ≤ k) (u8 : k ≤ 1) (l9 : 0 ≤ i) (u9 : i ≤ 6179) (l10 : 0 ≤ a) (u10 : a ≤ 12359) (l11 : (-2147483648) ≤ v) (u11 : v ≤ 2147483647) : bx_okT rxL (rxL.2.2.1 483 a) v ∧ rxI209_3 S0 ws (bx_up S 483 a v) k i a v ∧ rxm209_3 S0 ws (bx_up S 483 a v) k i a v < rxm209_2 S0 ws S k i a v := by
  obtain ⟨rfl, rfl, h9, h1, h2, h3⟩ := hinv
  refine ⟨?_, ⟨fun j => by rw [bx_up_row (by omega)]; exact h9 j, h1, fun j h4 h5 => ?_, fun j h4 => ?_⟩, ?_⟩
  · rw [← rx_sameR hin (p := 482) (tc := 0) (n := 6180) (g := 63) rfl (by omega) (by decide +kernel) (by decide +kernel) l9 (by omega)]
    exact rxImgT I0 ⟨l8, u8⟩ ⟨l9, u9⟩
  · by_cases hj : j = i
    · subst hj
      exact bx_up_at
    · rw [bx_up_ne (by omega)]
      exact h2 j h4 (by omega)
  · rw [bx_up_ne (by omega)]
    exact h3 j (by omega)
  · show 3 * (6200 - i).toNat < 3 * (6200 - i).toNat + 1
    omega
theorem rxs209_2 {X : (Nat → Int → Int) → Prop} {S0 : Nat → Int → Int} {ws : List Int} (hP : rxP209 S0 ws) (hX : ∀ S S1 : Nat → Int → Int, X S → bx_same rxL (bx_mdl rxC209.2.2.1) S S1 → X S1) : rx_obS X S0 rxC209.2.2.1 (rxI209 S0 ws) (rxm209 S0 ws) 2 3 rxz209_2 483 10 11 := by
  intro S r hinv hXS I0 hin hs_ hf_
  have b_ := bx_bds_sat hs_
  have f_ := bx_fcl_ok hs_.1 hf_
  obtain ⟨⟨l8, u8⟩, ⟨l9, u9⟩, ⟨l10, u10⟩, ⟨l11, u11⟩, -⟩ := b_
  have g := rxt209_2 hP hin I0 hinv l8 u8 l9 u9 l10 u10 l11 u11
  exact ⟨g.1, g.2.1, g.2.2, hX _ _ hXS (rx_same_upR (fun _ _ _ _ _ => rfl) (tc := 0) (n := 12360) (g := 64) rfl (by decide +kernel) l10 u10), rx_same_upR hin (tc := 0) (n := 12360) (g := 64) rfl (by decide +kernel) l10 u10⟩
theorem rxc209_0_0 {S0 : Nat → Int → Int} {ws : List Int} {S : Nat → Int → Int} {k : Int} (hP : rxP209 S0 ws) (hin : bx_same rxL (bx_mdl rxC209.2.2.1) S0 S) (I0 : bx_Inv rxL S) (hinv : rxI209_0 S0 ws S k) (l8 : 0 ≤ k) (u8 : k ≤ 1) : (True) ∧ (True) ∧ rxI209_1 S0 ws (bx_up S 480 0 0) k 0 ∧ rxm209_1 S0 ws (bx_up S 480 0 0) k 0 < rxm209_0 S0 ws S k := by
  obtain ⟨rfl, rfl⟩ := hinv
  refine ⟨trivial, trivial, ⟨fun j => by rw [bx_up_row (by omega)], rfl, fun j h1 h2 => by omega, fun j h1 => bx_up_ne (by omega)⟩, ?_⟩
  show 3 * (6200 - 0 : Int).toNat + 2 < 40000
  omega
theorem rxg209_0_0 {X : (Nat → Int → Int) → Prop} {S0 : Nat → Int → Int} {ws : List Int} (hP : rxP209 S0 ws) : bx_obC rxL X S0 rxC209.2.2.1 (rxI209 S0 ws) (rxm209 S0 ws) 0 rxz209_0 rxo209_0_0 := by
  intro S S_p r r_p hinv hX hin hsm_ hseg
  obtain ⟨I0, I1, h0_, hr_, b_, f_, d_⟩ := bx_cl (evs := [(1, (0, 480), (0, 0), .inr (0, (0, 0)))]) (fvs := []) hseg (by decide +kernel) (by decide +kernel)
  have hinv : rxI209_0 S0 ws S (r 8) := hinv
  rw [← hr_ 8 (by decide)] at hinv
  obtain ⟨⟨l8, u8⟩, -⟩ := b_
  obtain ⟨T0, w_, w0⟩ := d_
  subst w0
  subst w_
  have g := rxc209_0_0 hP hin I0 hinv l8 u8
  refine ⟨bx_narP_ok (l := []) g.1, bx_nfP_ok h0_ (fvs := []) (by decide +kernel) g.2.1, ?_, ?_⟩
  · show rxI209_1 S0 ws (bx_up T0 480 (0) (0)) (bx_val [(0, 0), (0, 0), (0, 0), (0, 0), (0, 0), (0, 0), (0, 0), (0, 0), (8, 0), (0, 0)] r_p 8) (bx_val [(0, 0), (0, 0), (0, 0), (0, 0), (0, 0), (0, 0), (0, 0), (0, 0), (8, 0), (0, 0)] r_p 9)
    rw [bx_val_x (n := 8) (e := (8, 0)) h0_ rfl, bx_val_x (n := 9) (e := (0, 0)) h0_ rfl]
    exact g.2.2.1
  · show rxm209_1 S0 ws (bx_up T0 480 (0) (0)) (bx_val [(0, 0), (0, 0), (0, 0), (0, 0), (0, 0), (0, 0), (0, 0), (0, 0), (8, 0), (0, 0)] r_p 8) (bx_val [(0, 0), (0, 0), (0, 0), (0, 0), (0, 0), (0, 0), (0, 0), (0, 0), (8, 0), (0, 0)] r_p 9) < rxm209_0 S0 ws T0 (r 8)
    rw [bx_val_x (n := 8) (e := (8, 0)) h0_ rfl, bx_val_x (n := 9) (e := (0, 0)) h0_ rfl, ← hr_ 8 (by decide)]
    exact g.2.2.2
theorem rxd209_0_0 {S0 : Nat → Int → Int} {ws : List Int} {S : Nat → Int → Int} {k x9 x10 : Int} (hP : rxP209 S0 ws) (hin : bx_same rxL (bx_mdl rxC209.2.2.1) S0 S) (hin2 : bx_same rxL (bx_mdl rxC209.2.2.1) S (bx_up (bx_up (bx_up S 480 0 0) 480 1 ((-1))) 481 1 x10)) (I0 : bx_Inv rxL S) (I1 : bx_Inv rxL (bx_up (bx_up (bx_up S 480 0 0) 480 1 ((-1))) 481 1 x10)) (hinv : rxI209_0 S0 ws S k) (l8 : (-2147483648) ≤ k) (u8 : k ≤ (-1)) (l9 : (-2147483648) ≤ x9) (u9 : x9 ≤ 2147483647) (l10 : (-2147483648) ≤ x10) (u10 : x10 ≤ 2147483647) (e1 : (bx_up (bx_up S 480 0 0) 480 1 ((-1))) 481 1 = x9) : (True) ∧ rxPS209 S0 ws (bx_up (bx_up (bx_up S 480 0 0) 480 1 ((-1))) 481 1 x10) (some ((-1))) := by
  obtain ⟨rfl, rfl⟩ := hinv
  exact ⟨trivial, k, rfl, Or.inr ⟨by omega, rfl, fun j => by rw [bx_up_row (by omega), bx_up_row (by omega), bx_up_row (by omega)]⟩, fun j j0 j1 => by rw [if_neg (by omega), bx_up_row (by omega), bx_up_row (by omega), bx_up_row (by omega)]⟩
theorem rxf209_0_0 {X : (Nat → Int → Int) → Prop} {S0 : Nat → Int → Int} {ws : List Int} (hP : rxP209 S0 ws) : bx_obE rxL X S0 rxC209.2.2.1 (rxI209 S0 ws) (rxPS209 S0 ws) 0 rxz209_0 rxe209_0_0 := by
  intro S S_p r r_p hinv hX hin hsm_ hseg
  obtain ⟨I0, I1, h0_, hr_, b_, f_, d_⟩ := bx_cl (evs := [(1, (0, 481), (0, 1), .inr (0, (10, 0))), (0, (0, 481), (0, 1), .inr (0, (9, 0))), (1, (0, 480), (0, 1), .inr (0, (0, (-1)))), (1, (0, 480), (0, 0), .inr (0, (0, 0)))]) (fvs := []) hseg (by decide +kernel) (by decide +kernel)
  have hinv : rxI209_0 S0 ws S (r 8) := hinv
  rw [← hr_ 8 (by decide)] at hinv
  obtain ⟨⟨l8, u8⟩, ⟨l9, u9⟩, ⟨l10, u10⟩, -⟩ := b_
  obtain ⟨T0, ⟨e1, ⟨T2, ⟨T3, w_, w3⟩, w2⟩⟩, w0⟩ := d_
  subst w0
  subst w2
  subst w3
  subst w_
  have g := rxd209_0_0 hP hin hsm_ I0 I1 hinv l8 u8 l9 u9 l10 u10 e1
  refine ⟨bx_narP_ok (l := []) g.1, ?_⟩
  show rxPS209 S0 ws (bx_up (bx_up (bx_up T3 480 (0) (0)) 480 (1) ((-1))) 481 (1) (r_p 10)) (some (bx_num r_p (.inr (0, (0, (-1))))))
  rw [bx_xv_ok h0_]
  exact g.2
theorem rxd209_0_1 {S0 : Nat → Int → Int} {ws : List Int} {S : Nat → Int → Int} {k x9 x10 : Int} (hP : rxP209 S0 ws) (hin : bx_same rxL (bx_mdl rxC209.2.2.1) S0 S) (hin2 : bx_same rxL (bx_mdl rxC209.2.2.1) S (bx_up (bx_up (bx_up S 480 0 0) 480 1 ((-1))) 481 1 x10)) (I0 : bx_Inv rxL S) (I1 : bx_Inv rxL (bx_up (bx_up (bx_up S 480 0 0) 480 1 ((-1))) 481 1 x10)) (hinv : rxI209_0 S0 ws S k) (l8 : 2 ≤ k) (u8 : k ≤ 2147483647) (l9 : (-2147483648) ≤ x9) (u9 : x9 ≤ 2147483647) (l10 : (-2147483648) ≤ x10) (u10 : x10 ≤ 2147483647) (e1 : (bx_up (bx_up S 480 0 0) 480 1 ((-1))) 481 1 = x9) : (True) ∧ rxPS209 S0 ws (bx_up (bx_up (bx_up S 480 0 0) 480 1 ((-1))) 481 1 x10) (some ((-1))) := by
  obtain ⟨rfl, rfl⟩ := hinv
  exact ⟨trivial, k, rfl, Or.inr ⟨by omega, rfl, fun j => by rw [bx_up_row (by omega), bx_up_row (by omega), bx_up_row (by omega)]⟩, fun j j0 j1 => by rw [if_neg (by omega), bx_up_row (by omega), bx_up_row (by omega), bx_up_row (by omega)]⟩
theorem rxf209_0_1 {X : (Nat → Int → Int) → Prop} {S0 : Nat → Int → Int} {ws : List Int} (hP : rxP209 S0 ws) : bx_obE rxL X S0 rxC209.2.2.1 (rxI209 S0 ws) (rxPS209 S0 ws) 0 rxz209_0 rxe209_0_1 := by
  intro S S_p r r_p hinv hX hin hsm_ hseg
  obtain ⟨I0, I1, h0_, hr_, b_, f_, d_⟩ := bx_cl (evs := [(1, (0, 481), (0, 1), .inr (0, (10, 0))), (0, (0, 481), (0, 1), .inr (0, (9, 0))), (1, (0, 480), (0, 1), .inr (0, (0, (-1)))), (1, (0, 480), (0, 0), .inr (0, (0, 0)))]) (fvs := []) hseg (by decide +kernel) (by decide +kernel)
  have hinv : rxI209_0 S0 ws S (r 8) := hinv
  rw [← hr_ 8 (by decide)] at hinv
  obtain ⟨⟨l8, u8⟩, ⟨l9, u9⟩, ⟨l10, u10⟩, -⟩ := b_
  obtain ⟨T0, ⟨e1, ⟨T2, ⟨T3, w_, w3⟩, w2⟩⟩, w0⟩ := d_
  subst w0
  subst w2
  subst w3
  subst w_
  have g := rxd209_0_1 hP hin hsm_ I0 I1 hinv l8 u8 l9 u9 l10 u10 e1
  refine ⟨bx_narP_ok (l := []) g.1, ?_⟩
  show rxPS209 S0 ws (bx_up (bx_up (bx_up T3 480 (0) (0)) 480 (1) ((-1))) 481 (1) (r_p 10)) (some (bx_num r_p (.inr (0, (0, (-1))))))
  rw [bx_xv_ok h0_]
  exact g.2
theorem rxc209_1_0 {S0 : Nat → Int → Int} {ws : List Int} {S : Nat → Int → Int} {k i x10 x11 x12 : Int} (hP : rxP209 S0 ws) (hin : bx_same rxL (bx_mdl rxC209.2.2.1) S0 S) (I0 : bx_Inv rxL S) (hinv : rxI209_1 S0 ws S k i) (l8 : 0 ≤ k) (u8 : k ≤ 1) (l9 : 0 ≤ i) (u9 : i ≤ 6179) (l10 : 0 ≤ x10) (u10 : x10 ≤ 6180) (l11 : 0 ≤ x11) (u11 : x11 ≤ 12359) (l12 : (-1) ≤ x12) (u12 : x12 ≤ 1000) (f0 : x11 = x10 + i) (f1 : x10 = 6180 * (k)) (e0 : S 482 i = x12) : (True) ∧ (True) ∧ rxI209_2 S0 ws S k i x11 x12 ∧ rxm209_2 S0 ws S k i x11 x12 < rxm209_1 S0 ws S k i := by
  obtain ⟨h4, h1, h2, h3⟩ := hinv
  refine ⟨trivial, trivial, ⟨by omega, ?_, h4, h1, h2, h3⟩, ?_⟩
  · rw [← e0]
    exact rx_sameR hin (tc := 0) (n := 6180) (g := 63) rfl (by omega) (by decide +kernel) (by decide +kernel) l9 (by omega)
  · show 3 * (6200 - i).toNat + 1 < 3 * (6200 - i).toNat + 2
    omega
theorem rxg209_1_0 {X : (Nat → Int → Int) → Prop} {S0 : Nat → Int → Int} {ws : List Int} (hP : rxP209 S0 ws) : bx_obC rxL X S0 rxC209.2.2.1 (rxI209 S0 ws) (rxm209 S0 ws) 1 rxz209_1 rxo209_1_0 := by
  intro S S_p r r_p hinv hX hin hsm_ hseg
  obtain ⟨I0, I1, h0_, hr_, b_, f_, d_⟩ := bx_cl (evs := [(0, (0, 482), (9, 0), .inr (0, (12, 0)))]) (fvs := [(5, (11, 0), (10, 0), (9, 0)), (4, (10, 0), (8, 0), (0, 6180))]) hseg (by decide +kernel) (by decide +kernel)
  have hinv : rxI209_1 S0 ws S (r 8) (r 9) := hinv
  rw [← hr_ 8 (by decide), ← hr_ 9 (by decide)] at hinv
  obtain ⟨⟨l8, u8⟩, ⟨l9, u9⟩, ⟨l10, u10⟩, ⟨l11, u11⟩, ⟨l12, u12⟩, -⟩ := b_
  obtain ⟨f0, f1, -⟩ := f_
  obtain ⟨e0, w_⟩ := d_
  subst w_
  have g := rxc209_1_0 hP hin I0 hinv l8 u8 l9 u9 l10 u10 l11 u11 l12 u12 f0 f1 e0
  refine ⟨bx_narP_ok (l := []) g.1, bx_nfP_ok h0_ (fvs := []) (by decide +kernel) g.2.1, ?_, ?_⟩
  · show rxI209_2 S0 ws S_p (bx_val [(0, 0), (0, 0), (0, 0), (0, 0), (0, 0), (0, 0), (0, 0), (0, 0), (8, 0), (9, 0), (11, 0), (12, 0)] r_p 8) (bx_val [(0, 0), (0, 0), (0, 0), (0, 0), (0, 0), (0, 0), (0, 0), (0, 0), (8, 0), (9, 0), (11, 0), (12, 0)] r_p 9) (bx_val [(0, 0), (0, 0), (0, 0), (0, 0), (0, 0), (0, 0), (0, 0), (0, 0), (8, 0), (9, 0), (11, 0), (12, 0)] r_p 10) (bx_val [(0, 0), (0, 0), (0, 0), (0, 0), (0, 0), (0, 0), (0, 0), (0, 0), (8, 0), (9, 0), (11, 0), (12, 0)] r_p 11)
    rw [bx_val_x (n := 8) (e := (8, 0)) h0_ rfl, bx_val_x (n := 9) (e := (9, 0)) h0_ rfl, bx_val_x (n := 10) (e := (11, 0)) h0_ rfl, bx_val_x (n := 11) (e := (12, 0)) h0_ rfl]
    exact g.2.2.1
  · show rxm209_2 S0 ws S_p (bx_val [(0, 0), (0, 0), (0, 0), (0, 0), (0, 0), (0, 0), (0, 0), (0, 0), (8, 0), (9, 0), (11, 0), (12, 0)] r_p 8) (bx_val [(0, 0), (0, 0), (0, 0), (0, 0), (0, 0), (0, 0), (0, 0), (0, 0), (8, 0), (9, 0), (11, 0), (12, 0)] r_p 9) (bx_val [(0, 0), (0, 0), (0, 0), (0, 0), (0, 0), (0, 0), (0, 0), (0, 0), (8, 0), (9, 0), (11, 0), (12, 0)] r_p 10) (bx_val [(0, 0), (0, 0), (0, 0), (0, 0), (0, 0), (0, 0), (0, 0), (0, 0), (8, 0), (9, 0), (11, 0), (12, 0)] r_p 11) < rxm209_1 S0 ws S_p (r 8) (r 9)
    rw [bx_val_x (n := 8) (e := (8, 0)) h0_ rfl, bx_val_x (n := 9) (e := (9, 0)) h0_ rfl, bx_val_x (n := 10) (e := (11, 0)) h0_ rfl, bx_val_x (n := 11) (e := (12, 0)) h0_ rfl, ← hr_ 8 (by decide), ← hr_ 9 (by decide)]
    exact g.2.2.2
theorem rxd209_1_0 {S0 : Nat → Int → Int} {ws : List Int} {S : Nat → Int → Int} {k i : Int} (hP : rxP209 S0 ws) (hin : bx_same rxL (bx_mdl rxC209.2.2.1) S0 S) (hin2 : bx_same rxL (bx_mdl rxC209.2.2.1) S (bx_up (bx_up S 484 k 1) 480 1 0)) (I0 : bx_Inv rxL S) (I1 : bx_Inv rxL (bx_up (bx_up S 484 k 1) 480 1 0)) (hinv : rxI209_1 S0 ws S k i) (l8 : 0 ≤ k) (u8 : k ≤ 1) (l9 : 6180 ≤ i) (u9 : i ≤ 6180) : (True) ∧ rxPS209 S0 ws (bx_up (bx_up S 484 k 1) 480 1 0) (some 0) := by
  obtain ⟨h9, h1, h2, h3⟩ := hinv
  have hi : i = 6180 := by omega
  subst hi
  refine ⟨trivial, k, h1, Or.inl ⟨l8, u8, rfl, fun j h4 h5 => ?_, fun j h4 => ?_⟩, fun j j0 j1 => ?_⟩
  · rw [bx_up_row (by omega), bx_up_row (by omega)]
    exact h2 j h4 h5
  · rw [bx_up_row (by omega), bx_up_row (by omega)]
    exact h3 j h4
  · rw [bx_up_row (by omega)]
    by_cases hj : j = k
    · subst hj
      rw [if_pos rfl]
      exact bx_up_at
    · rw [bx_up_ne (by omega), if_neg hj]
      exact h9 j
theorem rxf209_1_0 {X : (Nat → Int → Int) → Prop} {S0 : Nat → Int → Int} {ws : List Int} (hP : rxP209 S0 ws) : bx_obE rxL X S0 rxC209.2.2.1 (rxI209 S0 ws) (rxPS209 S0 ws) 1 rxz209_1 rxe209_1_0 := by
  intro S S_p r r_p hinv hX hin hsm_ hseg
  obtain ⟨I0, I1, h0_, hr_, b_, f_, d_⟩ := bx_cl (evs := [(1, (0, 480), (0, 1), .inr (0, (0, 0))), (1, (0, 484), (8, 0), .inr (0, (0, 1)))]) (fvs := []) hseg (by decide +kernel) (by decide +kernel)
  have hinv : rxI209_1 S0 ws S (r 8) (r 9) := hinv
  rw [← hr_ 8 (by decide), ← hr_ 9 (by decide)] at hinv
  obtain ⟨⟨l8, u8⟩, ⟨l9, u9⟩, -⟩ := b_
  obtain ⟨T0, ⟨T1, w_, w1⟩, w0⟩ := d_
  subst w0
  subst w1
  subst w_
  have g := rxd209_1_0 hP hin hsm_ I0 I1 hinv l8 u8 l9 u9
  refine ⟨bx_narP_ok (l := []) g.1, ?_⟩
  show rxPS209 S0 ws (bx_up (bx_up T1 484 (r_p 8) (1)) 480 (1) (0)) (some (bx_num r_p (.inr (0, (0, 0)))))
  rw [bx_xv_ok h0_]
  exact g.2
theorem rxc209_3_0 {S0 : Nat → Int → Int} {ws : List Int} {S : Nat → Int → Int} {k i a v : Int} (hP : rxP209 S0 ws) (hin : bx_same rxL (bx_mdl rxC209.2.2.1) S0 S) (I0 : bx_Inv rxL S) (hinv : rxI209_3 S0 ws S k i a v) (l8 : 0 ≤ k) (u8 : k ≤ 1) (l9 : 0 ≤ i) (u9 : i ≤ 6179) (l10 : 0 ≤ a) (u10 : a ≤ 12359) (l11 : (-2147483648) ≤ v) (u11 : v ≤ 2147483647) : (True) ∧ (True) ∧ rxI209_1 S0 ws S k (i + 1) ∧ rxm209_1 S0 ws S k (i + 1) < rxm209_3 S0 ws S k i a v := by
  refine ⟨trivial, trivial, hinv, ?_⟩
  show 3 * (6200 - (i + 1)).toNat + 2 < 3 * (6200 - i).toNat
  omega
theorem rxg209_3_0 {X : (Nat → Int → Int) → Prop} {S0 : Nat → Int → Int} {ws : List Int} (hP : rxP209 S0 ws) : bx_obC rxL X S0 rxC209.2.2.1 (rxI209 S0 ws) (rxm209 S0 ws) 3 rxz209_3 rxo209_3_0 := by
  intro S S_p r r_p hinv hX hin hsm_ hseg
  obtain ⟨I0, I1, h0_, hr_, b_, f_, d_⟩ := bx_cl (evs := []) (fvs := []) hseg (by decide +kernel) (by decide +kernel)
  have hinv : rxI209_3 S0 ws S (r 8) (r 9) (r 10) (r 11) := hinv
  rw [← hr_ 8 (by decide), ← hr_ 9 (by decide), ← hr_ 10 (by decide), ← hr_ 11 (by decide)] at hinv
  obtain ⟨⟨l8, u8⟩, ⟨l9, u9⟩, ⟨l10, u10⟩, ⟨l11, u11⟩, -⟩ := b_
  have w_ := d_
  subst w_
  have g := rxc209_3_0 hP hin I0 hinv l8 u8 l9 u9 l10 u10 l11 u11
  refine ⟨bx_narP_ok (l := []) g.1, bx_nfP_ok h0_ (fvs := []) (by decide +kernel) g.2.1, ?_, ?_⟩
  · show rxI209_1 S0 ws S_p (bx_val [(0, 0), (0, 0), (0, 0), (0, 0), (0, 0), (0, 0), (0, 0), (0, 0), (8, 0), (9, 1)] r_p 8) (bx_val [(0, 0), (0, 0), (0, 0), (0, 0), (0, 0), (0, 0), (0, 0), (0, 0), (8, 0), (9, 1)] r_p 9)
    rw [bx_val_x (n := 8) (e := (8, 0)) h0_ rfl, bx_val_x (n := 9) (e := (9, 1)) h0_ rfl]
    exact g.2.2.1
  · show rxm209_1 S0 ws S_p (bx_val [(0, 0), (0, 0), (0, 0), (0, 0), (0, 0), (0, 0), (0, 0), (0, 0), (8, 0), (9, 1)] r_p 8) (bx_val [(0, 0), (0, 0), (0, 0), (0, 0), (0, 0), (0, 0), (0, 0), (0, 0), (8, 0), (9, 1)] r_p 9) < rxm209_3 S0 ws S_p (r 8) (r 9) (r 10) (r 11)
    rw [bx_val_x (n := 8) (e := (8, 0)) h0_ rfl, bx_val_x (n := 9) (e := (9, 1)) h0_ rfl, ← hr_ 8 (by decide), ← hr_ 9 (by decide), ← hr_ 10 (by decide), ← hr_ 11 (by decide)]
    exact g.2.2.2
theorem rxgC209 {X : (Nat → Int → Int) → Prop} {S0 : Nat → Int → Int} {ws : List Int} (hP : rxP209 S0 ws) : bx_allI (fun i q => rxU209 q = true ∨ bx_allP (fun o => bx_obC rxL X S0 rxC209.2.2.1 (rxI209 S0 ws) (rxm209 S0 ws) i q.1 o) q.2.1) 0 rxY209 := ⟨Or.inr ⟨rxg209_0_0 hP, trivial⟩, Or.inr ⟨rxg209_1_0 hP, trivial⟩, Or.inl rfl, Or.inr ⟨rxg209_3_0 hP, trivial⟩, trivial⟩
theorem rxgE209 {X : (Nat → Int → Int) → Prop} {S0 : Nat → Int → Int} {ws : List Int} (hP : rxP209 S0 ws) : bx_allI (fun i q => rxU209 q = true ∨ bx_allP (fun E => bx_obE rxL X S0 rxC209.2.2.1 (rxI209 S0 ws) (rxPS209 S0 ws) i q.1 E) q.2.2) 0 rxY209 := ⟨Or.inr ⟨rxf209_0_0 hP, rxf209_0_1 hP, trivial⟩, Or.inr ⟨rxf209_1_0 hP, trivial⟩, Or.inl rfl, Or.inr trivial, trivial⟩
theorem rxu209 {PX : State → Prop} {Dg : va_G} {A : Nat → Prop} {ad xa : Nat → Nat} {l : Launch} {X : (Nat → Int → Int) → Prop} (hPX : rx_PXOK rxNW A PX) (hX : ∀ S S1 : Nat → Int → Int, X S → bx_same rxL (bx_mdl rxC209.2.2.1) S S1 → X S1) {S0 : Nat → Int → Int} {ws : List Int} (hP : rxP209 S0 ws) : ∀ (i : Nat) (q : bx_HE), rxY209[i]? = some q → rxU209 q = true → ∀ {p : Program} {e : Env} {R : Room} {s : State} {m : MethodId} {args : Array Value} {below : List Frame} {meth : Method} {c : Code} {Q : State → Prop} {H0 : Heap}, rx_Fr rxG rxNW rxAO PX p s m args meth c rxM209 → (∀ q, H0.size ≤ q → A q) → H0 = s.heap → rxM209.2.2.2.2.2.2.1 ≤ R.cells → rxM209.2.2.2.2.2.2.2 ≤ R.slots → rxC209.2.2.2.1 ≤ R.frames → rxC209.2.2.2.1 * 40 ≤ R.locals → bx_Step p l e R s m args below meth c Q Dg rxL X vwCl A xa H0 ad rxM209 rxY209 (rxI209 S0 ws) (rxm209 S0 ws) S0 rxC209.2.2.1 i q := by
  intro i q hq hus p e R s m args below meth c Q H0 hF hA hH0 hmc hms hd hdl
  match i, hq with
  | 0, hq =>
    cases hq
    exact absurd (show false = true from hus) Bool.false_ne_true
  | 1, hq =>
    cases hq
    exact absurd (show false = true from hus) Bool.false_ne_true
  | 2, hq =>
    cases hq
    exact rx_stepS (i_p := 3) (pl := 483) (a := 10) (b := 11) (n := 12360) (g := 64) (lo := 0) (hi := 12359) (ty := (0, (-2147483648), 2147483647)) (t := []) hF (by decide +kernel) rfl rfl rfl rfl (by omega) (by omega) (by decide +kernel) rfl rfl (rxs209_2 hP hX)
  | 3, hq =>
    cases hq
    exact absurd (show false = true from hus) Bool.false_ne_true
  | n + 4, hq => cases hq
theorem rxQ209 {PX : State → Prop} {Dg : va_G} {A : Nat → Prop} {ad xa : Nat → Nat} {l : Launch} {X : (Nat → Int → Int) → Prop} (hPX : rx_PXOK rxNW A PX) (hsl : ∀ s : State, PX s → ∀ o idx n : Nat, rxSl o idx = some n → ∃ tx : String, vk_R (rxNm o) idx tx (ad n) s)
    (hX : ∀ S S_p : Nat → Int → Int, X S → bx_same rxL (bx_mdl rxC209.2.2.1) S S_p → X S_p)
    (ih : ∀ (j2 : Nat) (ct2 : bx_Ct) (M2 : rx_Mt), ct2 ∈ rxCnE j2 → ct2.2.2.2.1 + 1 ≤ rxC209.2.2.2.1 → rxT.2.2.2.2.2 j2 = some M2 → bx_Con rxG rxNW rxAO PX Dg rxL X vwCl A ad l M2 ct2) : bx_ConP rxG rxNW rxAO PX Dg rxL X vwCl A ad l rxM209 rxC209 rxP209 rxPS209 :=
  rxQof (xa := xa) (Cn := rxCnE) (f := 30000) (j := 209) (tab := rxY209) (us := rxU209) hPX hsl hX ih rfl rxYc209 rxI209 rxm209
    (fun S0 ws r I0 I ht0 ht as he he1 hX0 hI0 hP hs ha => by
      have e := he.symm.trans (show bx_ent0 rxNP rxC209.1 bx_I0 [] = some ([(0, 0), (0, 0), (0, 0), (0, 0), (0, 0), (0, 0), (0, 0), (0, 0), ((-2147483648), 2147483647)], [], [.inr (3, (0, 480)), .inr (0, (8, 0))]) from rfl)
      cases e
      subst ha
      have h0 : r 0 = 0 := hs.1
      show rxI209_0 S0 _ S0 (r 8)
      refine ⟨rfl, ?_⟩
      simp only [List.map_cons, List.map_nil, bx_xv_ok h0]
      rfl)
    (fun S0 ws hP => rxu209 (xa := xa) hPX hX hP) (fun S0 ws hP => rxgC209 hP) (fun S0 ws hP => rxgE209 hP)
