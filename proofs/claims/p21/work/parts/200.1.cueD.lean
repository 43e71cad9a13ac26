/-! CONTRACT BY HAND, by program (wip/sim/genhand.py): DeadUnderstudies.cue -/
def rxI249_0 (S0 : Nat → Int → Int) (ws : List Int) (S : Nat → Int → Int) (c : Int) : Prop := S = S0 ∧ ws = [0, c]
def rxm249_0 (S0 : Nat → Int → Int) (ws : List Int) (S : Nat → Int → Int) (c : Int) : Nat := 100
def rxz249_0 : rx_Z := ([(0, 0), (0, 0), (0, 0), (0, 0), (0, 0), (0, 0), (0, 0), (0, 0), ((-2147483648), 2147483647)], [], [], 0, 0, 0, [(0, .inr (3, (0, 0))), (1, .inr (0, (8, 0)))], [])
def rxI249_1 (S0 : Nat → Int → Int) (ws : List Int) (S : Nat → Int → Int) (c : Int) : Prop := S = S0 ∧ ((c < 0 ∨ 5 < c)) ∧ ws = [0, c]
def rxm249_1 (S0 : Nat → Int → Int) (ws : List Int) (S : Nat → Int → Int) (c : Int) : Nat := 50
def rxz249_1 : rx_Z := ([(0, 0), (0, 0), (0, 0), (0, 0), (0, 0), (0, 0), (0, 0), (0, 0), ((-2147483648), 2147483647)], [], [], 0, 0, 12, [(0, .inr (3, (0, 0))), (1, .inr (0, (8, 0)))], [.inr (0, (0, (-1))), .inr (3, (0, 0))])
def rxI249_2 (S0 : Nat → Int → Int) (ws : List Int) (S : Nat → Int → Int) (c res : Int) : Prop := res = (-1) ∧ ((c < 0 ∨ 5 < c)) ∧ ws = [0, c] ∧ bx_same rxL (bx_mdl rxC110.2.2.1) S0 S
def rxm249_2 (S0 : Nat → Int → Int) (ws : List Int) (S : Nat → Int → Int) (c res : Int) : Nat := 20
def rxz249_2 : rx_Z := ([(0, 0), (0, 0), (0, 0), (0, 0), (0, 0), (0, 0), (0, 0), (0, 0), ((-2147483648), 2147483647), ((-6), (-1))], [], [], 0, 0, 15, [(0, .inr (3, (0, 0))), (1, .inr (0, (8, 0)))], [.inr (0, (9, 0))])
def rxI249_3 (S0 : Nat → Int → Int) (ws : List Int) (S : Nat → Int → Int) (c : Int) : Prop := S = S0 ∧ (0 ≤ c ∧ c ≤ 5 ∧ 12 ≤ S 1 10) ∧ ws = [0, c]
def rxm249_3 (S0 : Nat → Int → Int) (ws : List Int) (S : Nat → Int → Int) (c : Int) : Nat := 50
def rxz249_3 : rx_Z := ([(0, 0), (0, 0), (0, 0), (0, 0), (0, 0), (0, 0), (0, 0), (0, 0), (0, 5)], [], [], 0, 0, 31, [(0, .inr (3, (0, 0))), (1, .inr (0, (8, 0)))], [.inr (0, (0, (-5))), .inr (3, (0, 0))])
def rxI249_4 (S0 : Nat → Int → Int) (ws : List Int) (S : Nat → Int → Int) (c res : Int) : Prop := res = (-5) ∧ (0 ≤ c ∧ c ≤ 5 ∧ 12 ≤ S0 1 10) ∧ ws = [0, c] ∧ bx_same rxL (bx_mdl rxC110.2.2.1) S0 S
def rxm249_4 (S0 : Nat → Int → Int) (ws : List Int) (S : Nat → Int → Int) (c res : Int) : Nat := 20
def rxz249_4 : rx_Z := ([(0, 0), (0, 0), (0, 0), (0, 0), (0, 0), (0, 0), (0, 0), (0, 0), (0, 5), ((-6), (-1))], [], [], 0, 0, 34, [(0, .inr (3, (0, 0))), (1, .inr (0, (8, 0)))], [.inr (0, (9, 0))])
def rxo249_0_0 : bx_HO := (([(0, 0), (0, 0), (0, 0), (0, 0), (0, 0), (0, 0), (0, 0), (0, 0), (6, 2147483647)], [], [], 0, 0, 12, [(0, .inr (3, (0, 0))), (1, .inr (0, (8, 0)))], [.inr (0, (0, (-1))), .inr (3, (0, 0))]), [], [], [(0, 0), (0, 0), (0, 0), (0, 0), (0, 0), (0, 0), (0, 0), (0, 0), (8, 0)], 1)
def rxo249_0_1 : bx_HO := (([(0, 0), (0, 0), (0, 0), (0, 0), (0, 0), (0, 0), (0, 0), (0, 0), (0, 5), (12, 12)], [], [(((0, 0), 1851192626986356799431407398244775400849232659564395713092190208000000), .inr (0, (9, 0))), (((0, 1), 10), .inr (0, (9, 0))), (((0, 0), 0), .inr (3, (0, 1)))], 0, 0, 31, [(0, .inr (3, (0, 0))), (1, .inr (0, (8, 0)))], [.inr (0, (0, (-5))), .inr (3, (0, 0))]), [], [], [(0, 0), (0, 0), (0, 0), (0, 0), (0, 0), (0, 0), (0, 0), (0, 0), (8, 0)], 3)
def rxo249_0_2 : bx_HO := (([(0, 0), (0, 0), (0, 0), (0, 0), (0, 0), (0, 0), (0, 0), (0, 0), ((-2147483648), (-1))], [], [], 0, 0, 12, [(0, .inr (3, (0, 0))), (1, .inr (0, (8, 0)))], [.inr (0, (0, (-1))), .inr (3, (0, 0))]), [], [], [(0, 0), (0, 0), (0, 0), (0, 0), (0, 0), (0, 0), (0, 0), (0, 0), (8, 0)], 1)
def rxe249_0_0 : rx_End × List (Nat × Int × Int) := (([(0, 0), (0, 0), (0, 0), (0, 0), (0, 0), (0, 0), (0, 0), (0, 0), (0, 5), (0, 11)], [], [(((0, 0), 1851192626986356799029993984671224184301589730656725205983952899000000), .inr (0, (0, 0))), (((0, 0), 8), .inr (0, (0, 0))), (((0, 0), 1851192626986356799431407398244775400849232659564395713092190211000000), .inr (0, (9, 1))), (((0, 1), 10), .inr (0, (9, 1))), (((0, 0), 1851192626986356797424367893248739914126558548369245150786158595000000), .inr (0, (8, 0))), (((0, 1), 11), .inr (3, (0, 13))), (((0, 0), 1851192626986356799431407398244775400849232659564395713092190208000000), .inr (0, (9, 0))), (((0, 0), 0), .inr (3, (0, 1)))], some (.inr (0, (9, 1)))), [])
def rxe249_2_0 : rx_End × List (Nat × Int × Int) := (([(0, 0), (0, 0), (0, 0), (0, 0), (0, 0), (0, 0), (0, 0), (0, 0), ((-2147483648), 2147483647), ((-6), (-1))], [], [], some (.inr (0, (9, 0)))), [])
def rxe249_4_0 : rx_End × List (Nat × Int × Int) := (([(0, 0), (0, 0), (0, 0), (0, 0), (0, 0), (0, 0), (0, 0), (0, 0), (0, 5), ((-6), (-1))], [], [], some (.inr (0, (9, 0)))), [])
def rxY249 : List bx_HE := [(rxz249_0, [rxo249_0_0, rxo249_0_1, rxo249_0_2], [rxe249_0_0]), (rxz249_1, [], []), (rxz249_2, [], [rxe249_2_0]), (rxz249_3, [], []), (rxz249_4, [], [rxe249_4_0])]
def rxU249 (q : bx_HE) : Bool := Nat.beq (rx_zpc q.1) 12 || Nat.beq (rx_zpc q.1) 31
def rxYB249 : bx_B := (rxV, rxNP, rxDmf, bx_mdH rxC249.2.2.1)
set_option maxRecDepth 100000 in
theorem rxYc249 : bx_chkH rxYB249 rxM249 rxC249 rxY249 (rxU249, fun cut z => rx_ex2 (rxCT rxYB249 rxCnE) cut 30000 rxC249.2.2.2.1 249 z) = true := by decide +kernel
def rxI249 (S0 : Nat → Int → Int) (ws : List Int) (i : Nat) : bx_SP := fun S r => match i with | 0 => rxI249_0 S0 ws S (r 8) | 1 => rxI249_1 S0 ws S (r 8) | 2 => rxI249_2 S0 ws S (r 8) (r 9) | 3 => rxI249_3 S0 ws S (r 8) | 4 => rxI249_4 S0 ws S (r 8) (r 9) | _ => False
def rxm249 (S0 : Nat → Int → Int) (ws : List Int) (i : Nat) (S : Nat → Int → Int) (r : Nat → Int) : Nat := match i with | 0 => rxm249_0 S0 ws S (r 8) | 1 => rxm249_1 S0 ws S (r 8) | 2 => rxm249_2 S0 ws S (r 8) (r 9) | 3 => rxm249_3 S0 ws S (r 8) | 4 => rxm249_4 S0 ws S (r 8) (r 9) | _ => 0
def rxP249 (S0 : Nat → Int → Int) (ws : List Int) : Prop := True
def rxPS249 (S0 : Nat → Int → Int) (ws : List Int) (S : Nat → Int → Int) (w : Option Int) : Prop := ∃ c : Int, ws = [0, c] ∧ (((c < 0 ∨ 5 < c) ∧ w = some (-1) ∧ bx_same rxL (bx_mdl rxC110.2.2.1) S0 S) ∨ (0 ≤ c ∧ c ≤ 5 ∧ 12 ≤ S0 1 10 ∧ w = some (-5) ∧ bx_same rxL (bx_mdl rxC110.2.2.1) S0 S) ∨ (0 ≤ c ∧ c ≤ 5 ∧ S0 1 10 < 12 ∧ w = some (S0 1 10 + 1) ∧ S 1 10 = S0 1 10 + 1 ∧ S 138 10 = S0 138 10 ∧ S 274 10 = S0 274 10))
theorem rxk249_1 {S0 : Nat → Int → Int} {ws : List Int} {S : Nat → Int → Int} {c : Int} (hP : rxP249 S0 ws) (hin : bx_same rxL (bx_mdl rxC249.2.2.1) S0 S) (I0 : bx_Inv rxL S) (hinv : rxI249_1 S0 ws S c) (l8 : (-2147483648) ≤ c) (u8 : c ≤ 2147483647) : rxP110 S [0, (-1)] ∧ ∀ (S' : Nat → Int → Int) (res : Int), (-6) ≤ res → res ≤ (-1) → rxPS110 S [0, (-1)] S' (some res) → bx_Inv rxL S' → bx_same rxL (bx_mdl rxC110.2.2.1) S S' → rxI249_2 S0 ws S' c res ∧ rxm249_2 S0 ws S' c res < rxm249_1 S0 ws S c := by
  obtain ⟨rfl, h1, hw⟩ := hinv
  refine ⟨trivial, fun S' res _ _ hq _ hsm => ⟨⟨?_, h1, hw, hsm⟩, by unfold rxm249_1 rxm249_2; omega⟩⟩
  obtain ⟨c, hc, hr⟩ := hq
  simp only [List.cons.injEq, and_true, true_and] at hc
  simp only [Option.some.injEq] at hr
  omega
theorem rxs249_1 {X : (Nat → Int → Int) → Prop} {S0 : Nat → Int → Int} {ws : List Int} (hP : rxP249 S0 ws) : rx_obK X S0 rxC249.2.2.1 rxC110.2.2.1 (rxI249 S0 ws) (rxm249 S0 ws) 1 2 rxz249_1 rxz249_2 [.inr (3, (0, 0)), .inr (0, (0, (-1)))] (some 9) rxP110 rxPS110 := by
  intro S r hinv hXS I0 hin hs_ hf_
  have b_ := bx_bds_sat hs_
  have f_ := bx_fcl_ok hs_.1 hf_
  obtain ⟨⟨l8, u8⟩, -⟩ := b_
  have g := rxk249_1 hP hin I0 hinv l8 u8
  have ea : List.map (bx_num r) [.inr (3, (0, 0)), .inr (0, (0, (-1)))] = [0, -1] := by
    simp only [List.map_cons, List.map_nil, bx_xv_ok hs_.1]
    rfl
  rw [ea]
  refine ⟨g.1, fun S' w r' hPS hX' I1 hsm hr hw hs' => ?_⟩
  have hw := hw _ rfl
  subst hw
  have b' := hs'.2.2 9 _ _ rfl
  have g2 := g.2 S' (r' 9) b'.1 b'.2 hPS I1 hsm
  show rxI249_2 S0 ws S' (r' 8) (r' 9) ∧ rxm249_2 S0 ws S' (r' 8) (r' 9) < _
  rw [hr 8 (by decide)]
  exact g2
theorem rxk249_3 {S0 : Nat → Int → Int} {ws : List Int} {S : Nat → Int → Int} {c : Int} (hP : rxP249 S0 ws) (hin : bx_same rxL (bx_mdl rxC249.2.2.1) S0 S) (I0 : bx_Inv rxL S) (hinv : rxI249_3 S0 ws S c) (l8 : 0 ≤ c) (u8 : c ≤ 5) : rxP110 S [0, (-5)] ∧ ∀ (S' : Nat → Int → Int) (res : Int), (-6) ≤ res → res ≤ (-1) → rxPS110 S [0, (-5)] S' (some res) → bx_Inv rxL S' → bx_same rxL (bx_mdl rxC110.2.2.1) S S' → rxI249_4 S0 ws S' c res ∧ rxm249_4 S0 ws S' c res < rxm249_3 S0 ws S c := by
  obtain ⟨rfl, h1, hw⟩ := hinv
  refine ⟨trivial, fun S' res _ _ hq _ hsm => ⟨⟨?_, h1, hw, hsm⟩, by unfold rxm249_3 rxm249_4; omega⟩⟩
  obtain ⟨c, hc, hr⟩ := hq
  simp only [List.cons.injEq, and_true, true_and] at hc
  simp only [Option.some.injEq] at hr
  omega
theorem rxs249_3 {X : (Nat → Int → Int) → Prop} {S0 : Nat → Int → Int} {ws : List Int} (hP : rxP249 S0 ws) : rx_obK X S0 rxC249.2.2.1 rxC110.2.2.1 (rxI249 S0 ws) (rxm249 S0 ws) 3 4 rxz249_3 rxz249_4 [.inr (3, (0, 0)), .inr (0, (0, (-5)))] (some 9) rxP110 rxPS110 := by
  intro S r hinv hXS I0 hin hs_ hf_
  have b_ := bx_bds_sat hs_
  have f_ := bx_fcl_ok hs_.1 hf_
  obtain ⟨⟨l8, u8⟩, -⟩ := b_
  have g := rxk249_3 hP hin I0 hinv l8 u8
  have ea : List.map (bx_num r) [.inr (3, (0, 0)), .inr (0, (0, (-5)))] = [0, -5] := by
    simp only [List.map_cons, List.map_nil, bx_xv_ok hs_.1]
    rfl
  rw [ea]
  refine ⟨g.1, fun S' w r' hPS hX' I1 hsm hr hw hs' => ?_⟩
  have hw := hw _ rfl
  subst hw
  have b' := hs'.2.2 9 _ _ rfl
  have g2 := g.2 S' (r' 9) b'.1 b'.2 hPS I1 hsm
  show rxI249_4 S0 ws S' (r' 8) (r' 9) ∧ rxm249_4 S0 ws S' (r' 8) (r' 9) < _
  rw [hr 8 (by decide)]
  exact g2
theorem rxc249_0_0 {S0 : Nat → Int → Int} {ws : List Int} {S : Nat → Int → Int} {c : Int} (hP : rxP249 S0 ws) (hin : bx_same rxL (bx_mdl rxC249.2.2.1) S0 S) (I0 : bx_Inv rxL S) (hinv : rxI249_0 S0 ws S c) (l8 : 6 ≤ c) (u8 : c ≤ 2147483647) : (True) ∧ (True) ∧ rxI249_1 S0 ws S c ∧ rxm249_1 S0 ws S c < rxm249_0 S0 ws S c := by
  obtain ⟨rfl, hw⟩ := hinv
  exact ⟨trivial, trivial, ⟨rfl, by omega, hw⟩, by unfold rxm249_0 rxm249_1; omega⟩
theorem rxg249_0_0 {X : (Nat → Int → Int) → Prop} {S0 : Nat → Int → Int} {ws : List Int} (hP : rxP249 S0 ws) : bx_obC rxL X S0 rxC249.2.2.1 (rxI249 S0 ws) (rxm249 S0 ws) 0 rxz249_0 rxo249_0_0 := by
  intro S S' r r' hinv hX hin hsm_ hseg
  obtain ⟨I0, I1, h0_, hr_, b_, f_, d_⟩ := bx_cl (evs := []) (fvs := []) hseg (by decide +kernel) (by decide +kernel)
  have hinv : rxI249_0 S0 ws S (r 8) := hinv
  rw [← hr_ 8 (by decide)] at hinv
  obtain ⟨⟨l8, u8⟩, -⟩ := b_
  have w_ := d_
  subst w_
  have g := rxc249_0_0 hP hin I0 hinv l8 u8
  refine ⟨bx_narP_ok (l := []) g.1, bx_nfP_ok h0_ (fvs := []) (by decide +kernel) g.2.1, ?_, ?_⟩
  · show rxI249_1 S0 ws S' (bx_val [(0, 0), (0, 0), (0, 0), (0, 0), (0, 0), (0, 0), (0, 0), (0, 0), (8, 0)] r' 8)
    rw [bx_val_x (n := 8) (e := (8, 0)) h0_ rfl]
    exact g.2.2.1
  · show rxm249_1 S0 ws S' (bx_val [(0, 0), (0, 0), (0, 0), (0, 0), (0, 0), (0, 0), (0, 0), (0, 0), (8, 0)] r' 8) < rxm249_0 S0 ws S' (r 8)
    rw [bx_val_x (n := 8) (e := (8, 0)) h0_ rfl, ← hr_ 8 (by decide)]
    exact g.2.2.2
theorem rxc249_0_1 {S0 : Nat → Int → Int} {ws : List Int} {S : Nat → Int → Int} {c x9 : Int} (hP : rxP249 S0 ws) (hin : bx_same rxL (bx_mdl rxC249.2.2.1) S0 S) (I0 : bx_Inv rxL S) (hinv : rxI249_0 S0 ws S c) (l8 : 0 ≤ c) (u8 : c ≤ 5) (l9 : 12 ≤ x9) (u9 : x9 ≤ 12) (e0 : S 1 10 = x9) : (True) ∧ (True) ∧ rxI249_3 S0 ws S c ∧ rxm249_3 S0 ws S c < rxm249_0 S0 ws S c := by
  obtain ⟨rfl, hw⟩ := hinv
  exact ⟨trivial, trivial, ⟨rfl, by omega, hw⟩, by unfold rxm249_0 rxm249_3; omega⟩
theorem rxg249_0_1 {X : (Nat → Int → Int) → Prop} {S0 : Nat → Int → Int} {ws : List Int} (hP : rxP249 S0 ws) : bx_obC rxL X S0 rxC249.2.2.1 (rxI249 S0 ws) (rxm249 S0 ws) 0 rxz249_0 rxo249_0_1 := by
  intro S S' r r' hinv hX hin hsm_ hseg
  obtain ⟨I0, I1, h0_, hr_, b_, f_, d_⟩ := bx_cl (evs := [(0, (0, 1), (0, 10), .inr (0, (9, 0)))]) (fvs := []) hseg (by decide +kernel) (by decide +kernel)
  have hinv : rxI249_0 S0 ws S (r 8) := hinv
  rw [← hr_ 8 (by decide)] at hinv
  obtain ⟨⟨l8, u8⟩, ⟨l9, u9⟩, -⟩ := b_
  obtain ⟨e0, w_⟩ := d_
  subst w_
  have g := rxc249_0_1 hP hin I0 hinv l8 u8 l9 u9 e0
  refine ⟨bx_narP_ok (l := []) g.1, bx_nfP_ok h0_ (fvs := []) (by decide +kernel) g.2.1, ?_, ?_⟩
  · show rxI249_3 S0 ws S' (bx_val [(0, 0), (0, 0), (0, 0), (0, 0), (0, 0), (0, 0), (0, 0), (0, 0), (8, 0)] r' 8)
    rw [bx_val_x (n := 8) (e := (8, 0)) h0_ rfl]
    exact g.2.2.1
  · show rxm249_3 S0 ws S' (bx_val [(0, 0), (0, 0), (0, 0), (0, 0), (0, 0), (0, 0), (0, 0), (0, 0), (8, 0)] r' 8) < rxm249_0 S0 ws S' (r 8)
    rw [bx_val_x (n := 8) (e := (8, 0)) h0_ rfl, ← hr_ 8 (by decide)]
    exact g.2.2.2
theorem rxc249_0_2 {S0 : Nat → Int → Int} {ws : List Int} {S : Nat → Int → Int} {c : Int} (hP : rxP249 S0 ws) (hin : bx_same rxL (bx_mdl rxC249.2.2.1) S0 S) (I0 : bx_Inv rxL S) (hinv : rxI249_0 S0 ws S c) (l8 : (-2147483648) ≤ c) (u8 : c ≤ (-1)) : (True) ∧ (True) ∧ rxI249_1 S0 ws S c ∧ rxm249_1 S0 ws S c < rxm249_0 S0 ws S c := by
  obtain ⟨rfl, hw⟩ := hinv
  exact ⟨trivial, trivial, ⟨rfl, by omega, hw⟩, by unfold rxm249_0 rxm249_1; omega⟩
theorem rxg249_0_2 {X : (Nat → Int → Int) → Prop} {S0 : Nat → Int → Int} {ws : List Int} (hP : rxP249 S0 ws) : bx_obC rxL X S0 rxC249.2.2.1 (rxI249 S0 ws) (rxm249 S0 ws) 0 rxz249_0 rxo249_0_2 := by
  intro S S' r r' hinv hX hin hsm_ hseg
  obtain ⟨I0, I1, h0_, hr_, b_, f_, d_⟩ := bx_cl (evs := []) (fvs := []) hseg (by decide +kernel) (by decide +kernel)
  have hinv : rxI249_0 S0 ws S (r 8) := hinv
  rw [← hr_ 8 (by decide)] at hinv
  obtain ⟨⟨l8, u8⟩, -⟩ := b_
  have w_ := d_
  subst w_
  have g := rxc249_0_2 hP hin I0 hinv l8 u8
  refine ⟨bx_narP_ok (l := []) g.1, bx_nfP_ok h0_ (fvs := []) (by decide +kernel) g.2.1, ?_, ?_⟩
  · show rxI249_1 S0 ws S' (bx_val [(0, 0), (0, 0), (0, 0), (0, 0), (0, 0), (0, 0), (0, 0), (0, 0), (8, 0)] r' 8)
    rw [bx_val_x (n := 8) (e := (8, 0)) h0_ rfl]
    exact g.2.2.1
  · show rxm249_1 S0 ws S' (bx_val [(0, 0), (0, 0), (0, 0), (0, 0), (0, 0), (0, 0), (0, 0), (0, 0), (8, 0)] r' 8) < rxm249_0 S0 ws S' (r 8)
    rw [bx_val_x (n := 8) (e := (8, 0)) h0_ rfl, ← hr_ 8 (by decide)]
    exact g.2.2.2
theorem rxd249_0_0 {S0 : Nat → Int → Int} {ws : List Int} {S : Nat → Int → Int} {c x9 : Int} (hP : rxP249 S0 ws) (hin : bx_same rxL (bx_mdl rxC249.2.2.1) S0 S) (hin2 : bx_same rxL (bx_mdl rxC249.2.2.1) S (bx_up (bx_up (bx_up S 13 x9 c) 1 10 (x9 + 1)) 0 8 0)) (I0 : bx_Inv rxL S) (I1 : bx_Inv rxL (bx_up (bx_up (bx_up S 13 x9 c) 1 10 (x9 + 1)) 0 8 0)) (hinv : rxI249_0 S0 ws S c) (l8 : 0 ≤ c) (u8 : c ≤ 5) (l9 : 0 ≤ x9) (u9 : x9 ≤ 11) (e3 : S 1 10 = x9) : (True) ∧ rxPS249 S0 ws (bx_up (bx_up (bx_up S 13 x9 c) 1 10 (x9 + 1)) 0 8 0) (some (x9 + 1)) := by
  obtain ⟨rfl, hw⟩ := hinv
  refine ⟨trivial, c, hw, Or.inr (Or.inr (⟨?_, ?_, ?_, ?_, ((bx_up_ne (by omega)).trans (bx_up_at)).trans (by omega), ((bx_up_ne (by omega)).trans ((bx_up_ne (by omega)).trans ((bx_up_ne (by omega))))).trans (by omega), ((bx_up_ne (by omega)).trans ((bx_up_ne (by omega)).trans ((bx_up_ne (by omega))))).trans (by omega)⟩))⟩ <;> first | omega | exact hin2 | exact congrArg some (by omega) | (intro i i0 i1; simp only [bx_up]; (repeat' split) <;> first | rfl | omega | (simp_all; done) | (simp_all; omega)) | ((repeat (first | rw [bx_up_at] | rw [bx_up_ne (by omega)])); omega)
theorem rxf249_0_0 {X : (Nat → Int → Int) → Prop} {S0 : Nat → Int → Int} {ws : List Int} (hP : rxP249 S0 ws) : bx_obE rxL X S0 rxC249.2.2.1 (rxI249 S0 ws) (rxPS249 S0 ws) 0 rxz249_0 rxe249_0_0 := by
  intro S S' r r' hinv hX hin hsm_ hseg
  obtain ⟨I0, I1, h0_, hr_, b_, f_, d_⟩ := bx_cl (evs := [(1, (0, 0), (0, 8), .inr (0, (0, 0))), (1, (0, 1), (0, 10), .inr (0, (9, 1))), (1, (0, 13), (9, 0), .inr (0, (8, 0))), (0, (0, 1), (0, 10), .inr (0, (9, 0)))]) (fvs := []) hseg (by decide +kernel) (by decide +kernel)
  have hinv : rxI249_0 S0 ws S (r 8) := hinv
  rw [← hr_ 8 (by decide)] at hinv
  obtain ⟨⟨l8, u8⟩, ⟨l9, u9⟩, -⟩ := b_
  obtain ⟨T0, ⟨T1, ⟨T2, ⟨e3, w_⟩, w2⟩, w1⟩, w0⟩ := d_
  subst w0
  subst w1
  subst w2
  subst w_
  have g := rxd249_0_0 hP hin hsm_ I0 I1 hinv l8 u8 l9 u9 e3
  refine ⟨bx_narP_ok (l := []) g.1, ?_⟩
  show rxPS249 S0 ws (bx_up (bx_up (bx_up T2 13 (r' 9) (r' 8)) 1 (10) (r' 9 + 1)) 0 (8) (0)) (some (bx_num r' (.inr (0, (9, 1)))))
  rw [bx_xv_ok h0_]
  exact g.2
theorem rxd249_2_0 {S0 : Nat → Int → Int} {ws : List Int} {S : Nat → Int → Int} {c res : Int} (hP : rxP249 S0 ws) (hin : bx_same rxL (bx_mdl rxC249.2.2.1) S0 S) (hin2 : bx_same rxL (bx_mdl rxC249.2.2.1) S S) (I0 : bx_Inv rxL S) (I1 : bx_Inv rxL S) (hinv : rxI249_2 S0 ws S c res) (l8 : (-2147483648) ≤ c) (u8 : c ≤ 2147483647) (l9 : (-6) ≤ res) (u9 : res ≤ (-1)) : (True) ∧ rxPS249 S0 ws S (some res) := by
  obtain ⟨h1, h2, hw, hs⟩ := hinv
  refine ⟨trivial, c, hw, Or.inl (⟨by omega, ?_, ?_⟩)⟩
  · exact congrArg some h1
  · exact hs
theorem rxf249_2_0 {X : (Nat → Int → Int) → Prop} {S0 : Nat → Int → Int} {ws : List Int} (hP : rxP249 S0 ws) : bx_obE rxL X S0 rxC249.2.2.1 (rxI249 S0 ws) (rxPS249 S0 ws) 2 rxz249_2 rxe249_2_0 := by
  intro S S' r r' hinv hX hin hsm_ hseg
  obtain ⟨I0, I1, h0_, hr_, b_, f_, d_⟩ := bx_cl (evs := []) (fvs := []) hseg (by decide +kernel) (by decide +kernel)
  have hinv : rxI249_2 S0 ws S (r 8) (r 9) := hinv
  rw [← hr_ 8 (by decide), ← hr_ 9 (by decide)] at hinv
  obtain ⟨⟨l8, u8⟩, ⟨l9, u9⟩, -⟩ := b_
  have w_ := d_
  subst w_
  have g := rxd249_2_0 hP hin hsm_ I0 I1 hinv l8 u8 l9 u9
  refine ⟨bx_narP_ok (l := []) g.1, ?_⟩
  show rxPS249 S0 ws S' (some (bx_num r' (.inr (0, (9, 0)))))
  rw [bx_xv_ok h0_]
  exact g.2
theorem rxd249_4_0 {S0 : Nat → Int → Int} {ws : List Int} {S : Nat → Int → Int} {c res : Int} (hP : rxP249 S0 ws) (hin : bx_same rxL (bx_mdl rxC249.2.2.1) S0 S) (hin2 : bx_same rxL (bx_mdl rxC249.2.2.1) S S) (I0 : bx_Inv rxL S) (I1 : bx_Inv rxL S) (hinv : rxI249_4 S0 ws S c res) (l8 : 0 ≤ c) (u8 : c ≤ 5) (l9 : (-6) ≤ res) (u9 : res ≤ (-1)) : (True) ∧ rxPS249 S0 ws S (some res) := by
  obtain ⟨h1, h2, hw, hs⟩ := hinv
  refine ⟨trivial, c, hw, Or.inr (Or.inl (⟨by omega, by omega, by omega, ?_, ?_⟩))⟩
  · exact congrArg some h1
  · exact hs
theorem rxf249_4_0 {X : (Nat → Int → Int) → Prop} {S0 : Nat → Int → Int} {ws : List Int} (hP : rxP249 S0 ws) : bx_obE rxL X S0 rxC249.2.2.1 (rxI249 S0 ws) (rxPS249 S0 ws) 4 rxz249_4 rxe249_4_0 := by
  intro S S' r r' hinv hX hin hsm_ hseg
  obtain ⟨I0, I1, h0_, hr_, b_, f_, d_⟩ := bx_cl (evs := []) (fvs := []) hseg (by decide +kernel) (by decide +kernel)
  have hinv : rxI249_4 S0 ws S (r 8) (r 9) := hinv
  rw [← hr_ 8 (by decide), ← hr_ 9 (by decide)] at hinv
  obtain ⟨⟨l8, u8⟩, ⟨l9, u9⟩, -⟩ := b_
  have w_ := d_
  subst w_
  have g := rxd249_4_0 hP hin hsm_ I0 I1 hinv l8 u8 l9 u9
  refine ⟨bx_narP_ok (l := []) g.1, ?_⟩
  show rxPS249 S0 ws S' (some (bx_num r' (.inr (0, (9, 0)))))
  rw [bx_xv_ok h0_]
  exact g.2
theorem rxgC249 {X : (Nat → Int → Int) → Prop} {S0 : Nat → Int → Int} {ws : List Int} (hP : rxP249 S0 ws) : bx_allI (fun i q => rxU249 q = true ∨ bx_allP (fun o => bx_obC rxL X S0 rxC249.2.2.1 (rxI249 S0 ws) (rxm249 S0 ws) i q.1 o) q.2.1) 0 rxY249 := ⟨Or.inr ⟨rxg249_0_0 hP, rxg249_0_1 hP, rxg249_0_2 hP, trivial⟩, Or.inl rfl, Or.inr trivial, Or.inl rfl, Or.inr trivial, trivial⟩
theorem rxgE249 {X : (Nat → Int → Int) → Prop} {S0 : Nat → Int → Int} {ws : List Int} (hP : rxP249 S0 ws) : bx_allI (fun i q => rxU249 q = true ∨ bx_allP (fun E => bx_obE rxL X S0 rxC249.2.2.1 (rxI249 S0 ws) (rxPS249 S0 ws) i q.1 E) q.2.2) 0 rxY249 := ⟨Or.inr ⟨rxf249_0_0 hP, trivial⟩, Or.inl rfl, Or.inr ⟨rxf249_2_0 hP, trivial⟩, Or.inl rfl, Or.inr ⟨rxf249_4_0 hP, trivial⟩, trivial⟩
theorem rxu249 {PX : State → Prop} {Dg : va_G} {A : Nat → Prop} {ad xa : Nat → Nat} {l : Launch} {X : (Nat → Int → Int) → Prop} (hPX : rx_PXOK rxNW A PX) (hX : ∀ S S1 : Nat → Int → Int, X S → bx_same rxL (bx_mdl rxC249.2.2.1) S S1 → X S1) (hQ110 : bx_ConP rxG rxNW rxAO PX Dg rxL X vwCl A ad l rxM110 rxC110 rxP110 rxPS110) {S0 : Nat → Int → Int} {ws : List Int} (hP : rxP249 S0 ws) : ∀ (i : Nat) (q : bx_HE), rxY249[i]? = some q → rxU249 q = true → ∀ {p : Program} {e : Env} {R : Room} {s : State} {m : MethodId} {args : Array Value} {below : List Frame} {meth : Method} {c : Code} {Q : State → Prop} {H0 : Heap}, rx_Fr rxG rxNW rxAO PX p s m args meth c rxM249 → (∀ q, H0.size ≤ q → A q) → H0 = s.heap → rxM249.2.2.2.2.2.2.1 ≤ R.cells → rxM249.2.2.2.2.2.2.2 ≤ R.slots → rxC249.2.2.2.1 ≤ R.frames → rxC249.2.2.2.1 * 40 ≤ R.locals → bx_Step p l e R s m args below meth c Q Dg rxL X vwCl A xa H0 ad rxM249 rxY249 (rxI249 S0 ws) (rxm249 S0 ws) S0 rxC249.2.2.1 i q := by
  intro i q hq hus p e R s m args below meth c Q H0 hF hA hH0 hmc hms hd hdl
  match i, hq with
  | 0, hq =>
    cases hq
    exact absurd (show false = true from hus) Bool.false_ne_true
  | 1, hq =>
    cases hq
    exact rx_stepC (ins := .invokevirtual 110) (len := 3) (i' := 2) (M' := rxM110) (d := rxC249.2.2.2.1) (as := [.inr (3, (0, 0)), .inr (0, (0, (-1)))]) (t := []) (ct := rxC110) hPX hF rfl hA hH0 hmc hms hd hdl (by decide +kernel) rfl rfl (by decide +kernel) (by decide +kernel) hQ110 (by decide +kernel) rfl (Or.inr ⟨_, _, _, 1, rfl, rfl, by omega, rfl, rfl, rfl⟩) (rxs249_1 hP)
  | 2, hq =>
    cases hq
    exact absurd (show false = true from hus) Bool.false_ne_true
  | 3, hq =>
    cases hq
    exact rx_stepC (ins := .invokevirtual 110) (len := 3) (i' := 4) (M' := rxM110) (d := rxC249.2.2.2.1) (as := [.inr (3, (0, 0)), .inr (0, (0, (-5)))]) (t := []) (ct := rxC110) hPX hF rfl hA hH0 hmc hms hd hdl (by decide +kernel) rfl rfl (by decide +kernel) (by decide +kernel) hQ110 (by decide +kernel) rfl (Or.inr ⟨_, _, _, 1, rfl, rfl, by omega, rfl, rfl, rfl⟩) (rxs249_3 hP)
  | 4, hq =>
    cases hq
    exact absurd (show false = true from hus) Bool.false_ne_true
  | n + 5, hq => cases hq
theorem rxQ249 {PX : State → Prop} {Dg : va_G} {A : Nat → Prop} {ad xa : Nat → Nat} {l : Launch} {X : (Nat → Int → Int) → Prop} (hPX : rx_PXOK rxNW A PX) (hsl : ∀ s : State, PX s → ∀ o idx n : Nat, rxSl o idx = some n → ∃ tx : String, vk_R (rxNm o) idx tx (ad n) s)
    (hX : ∀ S S' : Nat → Int → Int, X S → bx_same rxL (bx_mdl rxC249.2.2.1) S S' → X S')
    (ih : ∀ (j2 : Nat) (ct2 : bx_Ct) (M2 : rx_Mt), ct2 ∈ rxCnE j2 → ct2.2.2.2.1 + 1 ≤ rxC249.2.2.2.1 → rxT.2.2.2.2.2 j2 = some M2 → bx_Con rxG rxNW rxAO PX Dg rxL X vwCl A ad l M2 ct2) (hQ110 : bx_ConP rxG rxNW rxAO PX Dg rxL X vwCl A ad l rxM110 rxC110 rxP110 rxPS110) : bx_ConP rxG rxNW rxAO PX Dg rxL X vwCl A ad l rxM249 rxC249 rxP249 rxPS249 :=
  rxQof (xa := xa) (Cn := rxCnE) (f := 30000) (j := 249) (tab := rxY249) (us := rxU249) hPX hsl hX ih rfl rxYc249 rxI249 rxm249
    (fun S0 ws r I0 I ht0 ht as he he1 hX0 hI0 hP hs ha => by
      have e := he.symm.trans (show bx_ent0 rxNP rxC249.1 bx_I0 [] = some ([(0, 0), (0, 0), (0, 0), (0, 0), (0, 0), (0, 0), (0, 0), (0, 0), ((-2147483648), 2147483647)], [], [.inr (3, (0, 0)), .inr (0, (8, 0))]) from rfl)
      cases e
      subst ha
      have h0 : r 0 = 0 := hs.1
      show rxI249_0 S0 _ S0 (r 8)
      refine ⟨rfl, ?_⟩
      simp only [List.map_cons, List.map_nil, bx_xv_ok h0]
      rfl)
    (fun S0 ws hP => rxu249 (xa := xa) hPX hX hQ110 hP) (fun S0 ws hP => rxgC249 hP) (fun S0 ws hP => rxgE249 hP)
set_option maxHeartbeats 1000000 in
theorem rzQ249 {PX : State → Prop} {Dg : va_G} {A : Nat → Prop} {ad : Nat → Nat} {l : Launch} (hPX : rx_PXOK rxNW A PX) (hsl : ∀ s : State, PX s → ∀ o idx n : Nat, rxSl o idx = some n → ∃ tx : String, vk_R (rxNm o) idx tx (ad n) s) (ih : ∀ (j : Nat) (ct : bx_Ct) (M : rx_Mt), ct ∈ rxCn j → rxT.2.2.2.2.2 j = some M → bx_Con rxG rxNW rxAO PX Dg rxL rxX vwCl A ad l M ct) : bx_ConP rxG rxNW rxAO PX Dg rxL rxX vwCl A ad l rxM249 rxC249 (fun _ _ => True) rxPS249 := by
  have q110 := rxQ110 (PX := PX) (Dg := Dg) (A := A) (ad := ad) (xa := fun n => n) (l := l) (X := rxX) hPX hsl (fun _ _ h hm => rxX_of (by decide +kernel) h hm) (fun _ _ _ h => absurd h List.not_mem_nil)
  have q := rxQ249 (PX := PX) (Dg := Dg) (A := A) (ad := ad) (xa := fun n => n) (l := l) (X := rxX) hPX hsl (fun _ _ h hm => rxX_of (by decide +kernel) h hm) (fun _ _ _ h => absurd h List.not_mem_nil) q110
  exact fun S0 ws h1 h2 h3 _ => q S0 ws h1 h2 h3 trivial
