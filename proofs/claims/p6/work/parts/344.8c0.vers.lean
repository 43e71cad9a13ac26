/-! CONTRACT BY HAND, by program (wip/sim/genhand.py): DeadUnderstudies$Script.filled -/
def rxCFIL : bx_Ct := ([(3, (2, 10, 0))], some (0, (0, (-2147483648), 2147483647)), [], 0, [])
def rxIFIL_0 (S0 : Nat → Int → Int) (ws : List Int) (S : Nat → Int → Int) (sc : Int) : Prop := S = S0 ∧ ws = [sc]
def rxmFIL_0 (S0 : Nat → Int → Int) (ws : List Int) (S : Nat → Int → Int) (sc : Int) : Nat := 1000
def rxzFIL_0 : rx_Z := ([(0, 0), (0, 0), (0, 0), (0, 0), (0, 0), (0, 0), (0, 0), (0, 0), (0, 1522)], [], [(((8, 0), 1000010), .inl none)], 0, 0, 0, [(0, .inr (3, (8, 0)))], [])
def rxIFIL_1 (S0 : Nat → Int → Int) (ws : List Int) (S : Nat → Int → Int) (sc n i : Int) : Prop := S = S0 ∧ ws = [sc] ∧ n = rjCn (fun t => decide (0 ≤ S0 (sc + 1).toNat t)) i.toNat ∧ n ≤ i
def rxmFIL_1 (S0 : Nat → Int → Int) (ws : List Int) (S : Nat → Int → Int) (sc n i : Int) : Nat := (100 - i).toNat
def rxzFIL_1 : rx_Z := ([(0, 0), (0, 0), (0, 0), (0, 0), (0, 0), (0, 0), (0, 0), (0, 0), (0, 1522), (0, 36), (0, 36)], [], [(((8, 0), 1000010), .inl none)], 0, 0, 4, [(0, .inr (3, (8, 0))), (1, .inr (0, (9, 0))), (2, .inr (0, (10, 0)))], [])
def rxoFIL_0_0 : bx_HO := (([(0, 0), (0, 0), (0, 0), (0, 0), (0, 0), (0, 0), (0, 0), (0, 0), (0, 1522)], [], [(((8, 0), 1000010), .inl none)], 0, 0, 4, [(2, .inr (0, (0, 0))), (1, .inr (0, (0, 0))), (0, .inr (3, (8, 0)))], []), [], [], [(0, 0), (0, 0), (0, 0), (0, 0), (0, 0), (0, 0), (0, 0), (0, 0), (8, 0), (0, 0), (0, 0)], 1)
def rxoFIL_1_0 : bx_HO := (([(0, 0), (0, 0), (0, 0), (0, 0), (0, 0), (0, 0), (0, 0), (0, 0), (0, 1522), (0, 36), (0, 35), (0, 1522), (0, 9)], [], [(((0, 0), 1851192626986356797424370955790042202572729718740712036692394083000000), .inr (0, (12, 0))), (((0, 0), 1851192626986356797424340330377019318111018015026043177553363016000000), .inr (3, (11, 0))), (((8, 0), 0), .inr (3, (11, 0))), (((11, 0), 1000019), .inl none), (((8, 0), 1000010), .inl none)], 0, 0, 4, [(2, .inr (0, (10, 1))), (1, .inr (0, (9, 1))), (0, .inr (3, (8, 0)))], []), [(9, (-1), 35)], [], [(0, 0), (0, 0), (0, 0), (0, 0), (0, 0), (0, 0), (0, 0), (0, 0), (8, 0), (9, 1), (10, 1)], 1)
def rxoFIL_1_1 : bx_HO := (([(0, 0), (0, 0), (0, 0), (0, 0), (0, 0), (0, 0), (0, 0), (0, 0), (0, 1522), (0, 36), (0, 35), (0, 1522), ((-1), (-1))], [], [(((0, 0), 1851192626986356797424370955790042202572729718740712036692394083000000), .inr (0, (12, 0))), (((0, 0), 1851192626986356797424340330377019318111018015026043177553363016000000), .inr (3, (11, 0))), (((8, 0), 0), .inr (3, (11, 0))), (((11, 0), 1000019), .inl none), (((8, 0), 1000010), .inl none)], 0, 0, 4, [(2, .inr (0, (10, 1))), (0, .inr (3, (8, 0))), (1, .inr (0, (9, 0)))], []), [], [], [(0, 0), (0, 0), (0, 0), (0, 0), (0, 0), (0, 0), (0, 0), (0, 0), (8, 0), (9, 0), (10, 1)], 1)
def rxeFIL_1_0 : rx_End × List (Nat × Int × Int) := (([(0, 0), (0, 0), (0, 0), (0, 0), (0, 0), (0, 0), (0, 0), (0, 0), (0, 1522), (0, 36), (36, 36)], [], [(((8, 0), 1000010), .inl none)], some (.inr (0, (9, 0)))), [])
def rxYFIL : List bx_HE := [(rxzFIL_0, [rxoFIL_0_0], []), (rxzFIL_1, [rxoFIL_1_0, rxoFIL_1_1], [rxeFIL_1_0])]
def rxUFIL (q : bx_HE) : Bool := false
def rxYBFIL : bx_B := (rxV, rxNP, rxDmf, bx_mdH rxCFIL.2.2.1)
set_option maxRecDepth 100000 in
theorem rxYcFIL : bx_chkH rxYBFIL rxM114 rxCFIL rxYFIL (rxUFIL, fun cut z => rx_ex2 (rxCT rxYBFIL rxCnE) cut 30000 rxCFIL.2.2.2.1 114 z) = true := by decide +kernel
def rxIFIL (S0 : Nat → Int → Int) (ws : List Int) (i : Nat) : bx_SP := fun S r => match i with | 0 => rxIFIL_0 S0 ws S (r 8) | 1 => rxIFIL_1 S0 ws S (r 8) (r 9) (r 10) | _ => False
def rxmFIL (S0 : Nat → Int → Int) (ws : List Int) (i : Nat) (S : Nat → Int → Int) (r : Nat → Int) : Nat := match i with | 0 => rxmFIL_0 S0 ws S (r 8) | 1 => rxmFIL_1 S0 ws S (r 8) (r 9) (r 10) | _ => 0
def rxPFIL (S0 : Nat → Int → Int) (ws : List Int) : Prop := ∃ sc : Int, ws = [sc] ∧ S0 sc.toNat 0 = sc + 1
def rxPSFIL (S0 : Nat → Int → Int) (ws : List Int) (S : Nat → Int → Int) (w : Option Int) : Prop := S = S0 ∧ ∃ sc : Int, ws = [sc] ∧ w = some (rjCn (fun t => decide (0 ≤ S0 (sc + 1).toNat t)) 36)
theorem rxcFIL_0_0 {S0 : Nat → Int → Int} {ws : List Int} {S : Nat → Int → Int} {sc : Int} (hP : rxPFIL S0 ws) (hin : bx_same rxL (bx_mdl rxCFIL.2.2.1) S0 S) (I0 : bx_Inv rxL S) (hinv : rxIFIL_0 S0 ws S sc) (l8 : 0 ≤ sc) (u8 : sc ≤ 1522) : (True) ∧ (True) ∧ rxIFIL_1 S0 ws S sc 0 0 ∧ rxmFIL_1 S0 ws S sc 0 0 < rxmFIL_0 S0 ws S sc := by
  obtain ⟨rfl, hw⟩ := hinv
  exact ⟨trivial, trivial, ⟨rfl, hw, rfl, by omega⟩, by unfold rxmFIL_0 rxmFIL_1; omega⟩
theorem rxgFIL_0_0 {X : (Nat → Int → Int) → Prop} {S0 : Nat → Int → Int} {ws : List Int} (hP : rxPFIL S0 ws) : bx_obC rxL X S0 rxCFIL.2.2.1 (rxIFIL S0 ws) (rxmFIL S0 ws) 0 rxzFIL_0 rxoFIL_0_0 := by
  intro S S_p r r_p hinv hX hin hsm_ hseg
  obtain ⟨I0, I1, h0_, hr_, b_, f_, d_⟩ := bx_cl (evs := []) (fvs := []) hseg (by decide +kernel) (by decide +kernel)
  have hinv : rxIFIL_0 S0 ws S (r 8) := hinv
  rw [← hr_ 8 (by decide)] at hinv
  obtain ⟨⟨l8, u8⟩, -⟩ := b_
  have w_ := d_
  subst w_
  have g := rxcFIL_0_0 hP hin I0 hinv l8 u8
  refine ⟨bx_narP_ok (l := []) g.1, bx_nfP_ok h0_ (fvs := []) (by decide +kernel) g.2.1, ?_, ?_⟩
  · show rxIFIL_1 S0 ws S_p (bx_val [(0, 0), (0, 0), (0, 0), (0, 0), (0, 0), (0, 0), (0, 0), (0, 0), (8, 0), (0, 0), (0, 0)] r_p 8) (bx_val [(0, 0), (0, 0), (0, 0), (0, 0), (0, 0), (0, 0), (0, 0), (0, 0), (8, 0), (0, 0), (0, 0)] r_p 9) (bx_val [(0, 0), (0, 0), (0, 0), (0, 0), (0, 0), (0, 0), (0, 0), (0, 0), (8, 0), (0, 0), (0, 0)] r_p 10)
    rw [bx_val_x (n := 8) (e := (8, 0)) h0_ rfl, bx_val_x (n := 9) (e := (0, 0)) h0_ rfl, bx_val_x (n := 10) (e := (0, 0)) h0_ rfl]
    exact g.2.2.1
  · show rxmFIL_1 S0 ws S_p (bx_val [(0, 0), (0, 0), (0, 0), (0, 0), (0, 0), (0, 0), (0, 0), (0, 0), (8, 0), (0, 0), (0, 0)] r_p 8) (bx_val [(0, 0), (0, 0), (0, 0), (0, 0), (0, 0), (0, 0), (0, 0), (0, 0), (8, 0), (0, 0), (0, 0)] r_p 9) (bx_val [(0, 0), (0, 0), (0, 0), (0, 0), (0, 0), (0, 0), (0, 0), (0, 0), (8, 0), (0, 0), (0, 0)] r_p 10) < rxmFIL_0 S0 ws S_p (r 8)
    rw [bx_val_x (n := 8) (e := (8, 0)) h0_ rfl, bx_val_x (n := 9) (e := (0, 0)) h0_ rfl, bx_val_x (n := 10) (e := (0, 0)) h0_ rfl, ← hr_ 8 (by decide)]
    exact g.2.2.2
theorem rxcFIL_1_0 {S0 : Nat → Int → Int} {ws : List Int} {S : Nat → Int → Int} {sc n i x11 x12 : Int} (hP : rxPFIL S0 ws) (hin : bx_same rxL (bx_mdl rxCFIL.2.2.1) S0 S) (I0 : bx_Inv rxL S) (hinv : rxIFIL_1 S0 ws S sc n i) (l8 : 0 ≤ sc) (u8 : sc ≤ 1522) (l9 : 0 ≤ n) (u9 : n ≤ 36) (l10 : 0 ≤ i) (u10 : i ≤ 35) (l11 : 0 ≤ x11) (u11 : x11 ≤ 1522) (l12 : 0 ≤ x12) (u12 : x12 ≤ 9) (e1 : S (sc).toNat 0 = x11) (e0 : S (x11).toNat i = x12) : (((-1) ≤ n ∧ n ≤ 35) ∧ True) ∧ (True) ∧ rxIFIL_1 S0 ws S sc (n + 1) (i + 1) ∧ rxmFIL_1 S0 ws S sc (n + 1) (i + 1) < rxmFIL_1 S0 ws S sc n i := by
  obtain ⟨rfl, hw, hn, hle⟩ := hinv
  obtain ⟨sc2, hw2, hs0⟩ := hP
  have k1_ : sc = sc2 := Option.some.inj (congrArg (fun l : List Int => l[0]?) (hw.symm.trans hw2))
  subst k1_
  have hk : ((i.toNat : Nat) : Int) = i := Int.toNat_of_nonneg (by omega)
  have ek : (i + 1).toNat = i.toNat + 1 := by omega
  have a0 : x11 = sc + 1 := e1.symm.trans hs0
  subst a0
  have hb : (fun t => decide (0 ≤ S (sc + 1).toNat t)) i = true := decide_eq_true (by rw [e0]; omega)
  exact ⟨⟨⟨by omega, by omega⟩, trivial⟩, trivial, ⟨rfl, hw2, by rw [ek, rjCn_t hk.symm hb]; omega, by omega⟩, by unfold rxmFIL_1; omega⟩
theorem rxgFIL_1_0 {X : (Nat → Int → Int) → Prop} {S0 : Nat → Int → Int} {ws : List Int} (hP : rxPFIL S0 ws) : bx_obC rxL X S0 rxCFIL.2.2.1 (rxIFIL S0 ws) (rxmFIL S0 ws) 1 rxzFIL_1 rxoFIL_1_0 := by
  intro S S_p r r_p hinv hX hin hsm_ hseg
  obtain ⟨I0, I1, h0_, hr_, b_, f_, d_⟩ := bx_cl (evs := [(0, (11, 0), (10, 0), .inr (0, (12, 0))), (0, (8, 0), (0, 0), .inr (3, (11, 0)))]) (fvs := []) hseg (by decide +kernel) (by decide +kernel)
  have hinv : rxIFIL_1 S0 ws S (r 8) (r 9) (r 10) := hinv
  rw [← hr_ 8 (by decide), ← hr_ 9 (by decide), ← hr_ 10 (by decide)] at hinv
  obtain ⟨⟨l8, u8⟩, ⟨l9, u9⟩, ⟨l10, u10⟩, ⟨l11, u11⟩, ⟨l12, u12⟩, -⟩ := b_
  obtain ⟨e0, ⟨e1, w_⟩⟩ := d_
  subst w_
  have g := rxcFIL_1_0 hP hin I0 hinv l8 u8 l9 u9 l10 u10 l11 u11 l12 u12 e1 e0
  refine ⟨bx_narP_ok (l := [(9, (-1), 35)]) g.1, bx_nfP_ok h0_ (fvs := []) (by decide +kernel) g.2.1, ?_, ?_⟩
  · show rxIFIL_1 S0 ws S_p (bx_val [(0, 0), (0, 0), (0, 0), (0, 0), (0, 0), (0, 0), (0, 0), (0, 0), (8, 0), (9, 1), (10, 1)] r_p 8) (bx_val [(0, 0), (0, 0), (0, 0), (0, 0), (0, 0), (0, 0), (0, 0), (0, 0), (8, 0), (9, 1), (10, 1)] r_p 9) (bx_val [(0, 0), (0, 0), (0, 0), (0, 0), (0, 0), (0, 0), (0, 0), (0, 0), (8, 0), (9, 1), (10, 1)] r_p 10)
    rw [bx_val_x (n := 8) (e := (8, 0)) h0_ rfl, bx_val_x (n := 9) (e := (9, 1)) h0_ rfl, bx_val_x (n := 10) (e := (10, 1)) h0_ rfl]
    exact g.2.2.1
  · show rxmFIL_1 S0 ws S_p (bx_val [(0, 0), (0, 0), (0, 0), (0, 0), (0, 0), (0, 0), (0, 0), (0, 0), (8, 0), (9, 1), (10, 1)] r_p 8) (bx_val [(0, 0), (0, 0), (0, 0), (0, 0), (0, 0), (0, 0), (0, 0), (0, 0), (8, 0), (9, 1), (10, 1)] r_p 9) (bx_val [(0, 0), (0, 0), (0, 0), (0, 0), (0, 0), (0, 0), (0, 0), (0, 0), (8, 0), (9, 1), (10, 1)] r_p 10) < rxmFIL_1 S0 ws S_p (r 8) (r 9) (r 10)
    rw [bx_val_x (n := 8) (e := (8, 0)) h0_ rfl, bx_val_x (n := 9) (e := (9, 1)) h0_ rfl, bx_val_x (n := 10) (e := (10, 1)) h0_ rfl, ← hr_ 8 (by decide), ← hr_ 9 (by decide), ← hr_ 10 (by decide)]
    exact g.2.2.2
theorem rxcFIL_1_1 {S0 : Nat → Int → Int} {ws : List Int} {S : Nat → Int → Int} {sc n i x11 x12 : Int} (hP : rxPFIL S0 ws) (hin : bx_same rxL (bx_mdl rxCFIL.2.2.1) S0 S) (I0 : bx_Inv rxL S) (hinv : rxIFIL_1 S0 ws S sc n i) (l8 : 0 ≤ sc) (u8 : sc ≤ 1522) (l9 : 0 ≤ n) (u9 : n ≤ 36) (l10 : 0 ≤ i) (u10 : i ≤ 35) (l11 : 0 ≤ x11) (u11 : x11 ≤ 1522) (l12 : (-1) ≤ x12) (u12 : x12 ≤ (-1)) (e1 : S (sc).toNat 0 = x11) (e0 : S (x11).toNat i = x12) : (True) ∧ (True) ∧ rxIFIL_1 S0 ws S sc n (i + 1) ∧ rxmFIL_1 S0 ws S sc n (i + 1) < rxmFIL_1 S0 ws S sc n i := by
  obtain ⟨rfl, hw, hn, hle⟩ := hinv
  obtain ⟨sc2, hw2, hs0⟩ := hP
  have k1_ : sc = sc2 := Option.some.inj (congrArg (fun l : List Int => l[0]?) (hw.symm.trans hw2))
  subst k1_
  have hk : ((i.toNat : Nat) : Int) = i := Int.toNat_of_nonneg (by omega)
  have ek : (i + 1).toNat = i.toNat + 1 := by omega
  have a0 : x11 = sc + 1 := e1.symm.trans hs0
  subst a0
  have hb : (fun t => decide (0 ≤ S (sc + 1).toNat t)) i = false := decide_eq_false (by rw [e0]; omega)
  exact ⟨trivial, trivial, ⟨rfl, hw2, by rw [ek, rjCn_f hk.symm hb]; exact hn, by omega⟩, by unfold rxmFIL_1; omega⟩
theorem rxgFIL_1_1 {X : (Nat → Int → Int) → Prop} {S0 : Nat → Int → Int} {ws : List Int} (hP : rxPFIL S0 ws) : bx_obC rxL X S0 rxCFIL.2.2.1 (rxIFIL S0 ws) (rxmFIL S0 ws) 1 rxzFIL_1 rxoFIL_1_1 := by
  intro S S_p r r_p hinv hX hin hsm_ hseg
  obtain ⟨I0, I1, h0_, hr_, b_, f_, d_⟩ := bx_cl (evs := [(0, (11, 0), (10, 0), .inr (0, (12, 0))), (0, (8, 0), (0, 0), .inr (3, (11, 0)))]) (fvs := []) hseg (by decide +kernel) (by decide +kernel)
  have hinv : rxIFIL_1 S0 ws S (r 8) (r 9) (r 10) := hinv
  rw [← hr_ 8 (by decide), ← hr_ 9 (by decide), ← hr_ 10 (by decide)] at hinv
  obtain ⟨⟨l8, u8⟩, ⟨l9, u9⟩, ⟨l10, u10⟩, ⟨l11, u11⟩, ⟨l12, u12⟩, -⟩ := b_
  obtain ⟨e0, ⟨e1, w_⟩⟩ := d_
  subst w_
  have g := rxcFIL_1_1 hP hin I0 hinv l8 u8 l9 u9 l10 u10 l11 u11 l12 u12 e1 e0
  refine ⟨bx_narP_ok (l := []) g.1, bx_nfP_ok h0_ (fvs := []) (by decide +kernel) g.2.1, ?_, ?_⟩
  · show rxIFIL_1 S0 ws S_p (bx_val [(0, 0), (0, 0), (0, 0), (0, 0), (0, 0), (0, 0), (0, 0), (0, 0), (8, 0), (9, 0), (10, 1)] r_p 8) (bx_val [(0, 0), (0, 0), (0, 0), (0, 0), (0, 0), (0, 0), (0, 0), (0, 0), (8, 0), (9, 0), (10, 1)] r_p 9) (bx_val [(0, 0), (0, 0), (0, 0), (0, 0), (0, 0), (0, 0), (0, 0), (0, 0), (8, 0), (9, 0), (10, 1)] r_p 10)
    rw [bx_val_x (n := 8) (e := (8, 0)) h0_ rfl, bx_val_x (n := 9) (e := (9, 0)) h0_ rfl, bx_val_x (n := 10) (e := (10, 1)) h0_ rfl]
    exact g.2.2.1
  · show rxmFIL_1 S0 ws S_p (bx_val [(0, 0), (0, 0), (0, 0), (0, 0), (0, 0), (0, 0), (0, 0), (0, 0), (8, 0), (9, 0), (10, 1)] r_p 8) (bx_val [(0, 0), (0, 0), (0, 0), (0, 0), (0, 0), (0, 0), (0, 0), (0, 0), (8, 0), (9, 0), (10, 1)] r_p 9) (bx_val [(0, 0), (0, 0), (0, 0), (0, 0), (0, 0), (0, 0), (0, 0), (0, 0), (8, 0), (9, 0), (10, 1)] r_p 10) < rxmFIL_1 S0 ws S_p (r 8) (r 9) (r 10)
    rw [bx_val_x (n := 8) (e := (8, 0)) h0_ rfl, bx_val_x (n := 9) (e := (9, 0)) h0_ rfl, bx_val_x (n := 10) (e := (10, 1)) h0_ rfl, ← hr_ 8 (by decide), ← hr_ 9 (by decide), ← hr_ 10 (by decide)]
    exact g.2.2.2
theorem rxdFIL_1_0 {S0 : Nat → Int → Int} {ws : List Int} {S : Nat → Int → Int} {sc n i : Int} (hP : rxPFIL S0 ws) (hin : bx_same rxL (bx_mdl rxCFIL.2.2.1) S0 S) (hin2 : bx_same rxL (bx_mdl rxCFIL.2.2.1) S S) (I0 : bx_Inv rxL S) (I1 : bx_Inv rxL S) (hinv : rxIFIL_1 S0 ws S sc n i) (l8 : 0 ≤ sc) (u8 : sc ≤ 1522) (l9 : 0 ≤ n) (u9 : n ≤ 36) (l10 : 36 ≤ i) (u10 : i ≤ 36) : (True) ∧ rxPSFIL S0 ws S (some n) := by
  obtain ⟨rfl, hw, hn, hle⟩ := hinv
  exact ⟨trivial, rfl, sc, hw, congrArg some (hn.trans (by rw [show i.toNat = 36 by omega]))⟩
theorem rxfFIL_1_0 {X : (Nat → Int → Int) → Prop} {S0 : Nat → Int → Int} {ws : List Int} (hP : rxPFIL S0 ws) : bx_obE rxL X S0 rxCFIL.2.2.1 (rxIFIL S0 ws) (rxPSFIL S0 ws) 1 rxzFIL_1 rxeFIL_1_0 := by
  intro S S_p r r_p hinv hX hin hsm_ hseg
  obtain ⟨I0, I1, h0_, hr_, b_, f_, d_⟩ := bx_cl (evs := []) (fvs := []) hseg (by decide +kernel) (by decide +kernel)
  have hinv : rxIFIL_1 S0 ws S (r 8) (r 9) (r 10) := hinv
  rw [← hr_ 8 (by decide), ← hr_ 9 (by decide), ← hr_ 10 (by decide)] at hinv
  obtain ⟨⟨l8, u8⟩, ⟨l9, u9⟩, ⟨l10, u10⟩, -⟩ := b_
  have w_ := d_
  subst w_
  have g := rxdFIL_1_0 hP hin hsm_ I0 I1 hinv l8 u8 l9 u9 l10 u10
  refine ⟨bx_narP_ok (l := []) g.1, ?_⟩
  show rxPSFIL S0 ws S_p (some (bx_num r_p (.inr (0, (9, 0)))))
  rw [bx_xv_ok h0_]
  exact g.2
theorem rxgCFIL {X : (Nat → Int → Int) → Prop} {S0 : Nat → Int → Int} {ws : List Int} (hP : rxPFIL S0 ws) : bx_allI (fun i q => rxUFIL q = true ∨ bx_allP (fun o => bx_obC rxL X S0 rxCFIL.2.2.1 (rxIFIL S0 ws) (rxmFIL S0 ws) i q.1 o) q.2.1) 0 rxYFIL := ⟨Or.inr ⟨rxgFIL_0_0 hP, trivial⟩, Or.inr ⟨rxgFIL_1_0 hP, rxgFIL_1_1 hP, trivial⟩, trivial⟩
theorem rxgEFIL {X : (Nat → Int → Int) → Prop} {S0 : Nat → Int → Int} {ws : List Int} (hP : rxPFIL S0 ws) : bx_allI (fun i q => rxUFIL q = true ∨ bx_allP (fun E => bx_obE rxL X S0 rxCFIL.2.2.1 (rxIFIL S0 ws) (rxPSFIL S0 ws) i q.1 E) q.2.2) 0 rxYFIL := ⟨Or.inr trivial, Or.inr ⟨rxfFIL_1_0 hP, trivial⟩, trivial⟩
theorem rxQFIL {PX : State → Prop} {Dg : va_G} {A : Nat → Prop} {ad xa : Nat → Nat} {l : Launch} {X : (Nat → Int → Int) → Prop} (hPX : rx_PXOK rxNW A PX) (hsl : ∀ s : State, PX s → ∀ o idx n : Nat, rxSl o idx = some n → ∃ tx : String, vk_R (rxNm o) idx tx (ad n) s)
    (hX : ∀ S S_p : Nat → Int → Int, X S → bx_same rxL (bx_mdl rxCFIL.2.2.1) S S_p → X S_p)
    (ih : ∀ (j2 : Nat) (ct2 : bx_Ct) (M2 : rx_Mt), ct2 ∈ rxCnE j2 → ct2.2.2.2.1 + 1 ≤ rxCFIL.2.2.2.1 → rxT.2.2.2.2.2 j2 = some M2 → bx_Con rxG rxNW rxAO PX Dg rxL X vwCl A ad l M2 ct2) : bx_ConP rxG rxNW rxAO PX Dg rxL X vwCl A ad l rxM114 rxCFIL rxPFIL rxPSFIL :=
  rxQof (xa := xa) (Cn := rxCnE) (f := 30000) (j := 114) (tab := rxYFIL) (us := rxUFIL) hPX hsl hX ih rfl rxYcFIL rxIFIL rxmFIL
    (fun S0 ws r I0 I ht0 ht as he he1 hX0 hI0 hP hs ha => by
      have e := he.symm.trans (show bx_ent0 rxNP rxCFIL.1 bx_I0 [] = some ([(0, 0), (0, 0), (0, 0), (0, 0), (0, 0), (0, 0), (0, 0), (0, 0), (0, 1522)], [(((8, 0), 1000010), .inl none)], [.inr (3, (8, 0))]) from rfl)
      cases e
      subst ha
      have h0 : r 0 = 0 := hs.1
      show rxIFIL_0 S0 _ S0 (r 8)
      refine ⟨rfl, ?_⟩
      simp only [List.map_cons, List.map_nil, bx_xv_ok h0]
      rfl)
    (fun S0 ws hP => fun i q hq hus => absurd (show false = true from hus) Bool.false_ne_true) (fun S0 ws hP => rxgCFIL hP) (fun S0 ws hP => rxgEFIL hP)
/-! CONTRACT BY HAND, by program (wip/sim/genhand.py): DeadUnderstudies$Script.rulesUnlike -/
def rxCRUN : bx_Ct := ([(3, (2, 10, 0)), (3, (2, 10, 0))], some (0, (0, (-2147483648), 2147483647)), [], 0, [])
def rxIRUN_0 (S0 : Nat → Int → Int) (ws : List Int) (S : Nat → Int → Int) (sa sb : Int) : Prop := S = S0 ∧ ws = [sa, sb]
def rxmRUN_0 (S0 : Nat → Int → Int) (ws : List Int) (S : Nat → Int → Int) (sa sb : Int) : Nat := 1000
def rxzRUN_0 : rx_Z := ([(0, 0), (0, 0), (0, 0), (0, 0), (0, 0), (0, 0), (0, 0), (0, 0), (0, 1522), (0, 1522)], [], [(((9, 0), 1000010), .inl none), (((8, 0), 1000010), .inl none)], 0, 0, 0, [(0, .inr (3, (8, 0))), (1, .inr (3, (9, 0)))], [])
def rxIRUN_1 (S0 : Nat → Int → Int) (ws : List Int) (S : Nat → Int → Int) (sa sb n i : Int) : Prop := S = S0 ∧ ws = [sa, sb] ∧ n = rjCn (fun t => decide (S0 (sa + 1).toNat t ≠ S0 (sb + 1).toNat t ∨ S0 (sa + 2).toNat t ≠ S0 (sb + 2).toNat t)) i.toNat ∧ n ≤ i
def rxmRUN_1 (S0 : Nat → Int → Int) (ws : List Int) (S : Nat → Int → Int) (sa sb n i : Int) : Nat := (100 - i).toNat
def rxzRUN_1 : rx_Z := ([(0, 0), (0, 0), (0, 0), (0, 0), (0, 0), (0, 0), (0, 0), (0, 0), (0, 1522), (0, 1522), (0, 36), (0, 36)], [], [(((8, 0), 1000010), .inl none), (((9, 0), 1000010), .inl none)], 0, 0, 4, [(0, .inr (3, (8, 0))), (1, .inr (3, (9, 0))), (2, .inr (0, (10, 0))), (3, .inr (0, (11, 0)))], [])
def rxoRUN_0_0 : bx_HO := (([(0, 0), (0, 0), (0, 0), (0, 0), (0, 0), (0, 0), (0, 0), (0, 0), (0, 1522), (0, 1522)], [], [(((9, 0), 1000010), .inl none), (((8, 0), 1000010), .inl none)], 0, 0, 4, [(3, .inr (0, (0, 0))), (2, .inr (0, (0, 0))), (0, .inr (3, (8, 0))), (1, .inr (3, (9, 0)))], []), [], [], [(0, 0), (0, 0), (0, 0), (0, 0), (0, 0), (0, 0), (0, 0), (0, 0), (8, 0), (9, 0), (0, 0), (0, 0)], 1)
def rxoRUN_1_0 : bx_HO := (([(0, 0), (0, 0), (0, 0), (0, 0), (0, 0), (0, 0), (0, 0), (0, 0), (0, 1522), (0, 1522), (0, 36), (0, 35), (0, 1522), ((-1), 9), (0, 1522), ((-1), 9), (0, 1522), ((-1), 5), (0, 1522), ((-1), 5)], [(3, (17, 0), (19, 0)), (2, (13, 0), (15, 0))], [(((0, 0), 1851192626986356797424374018331344491018900889112178922606297250000000), .inr (0, (19, 0))), (((0, 0), 1851192626986356797625047037163794926384839479479878431107186769000000), .inr (3, (18, 0))), (((9, 0), 1), .inr (3, (18, 0))), (((18, 0), 1000018), .inl none), (((0, 0), 1851192626986356797424374018331344491018900889112178922606297232000000), .inr (0, (17, 0))), (((0, 0), 1851192626986356797625047037163794926384839479479878431107186760000000), .inr (3, (16, 0))), (((8, 0), 1), .inr (3, (16, 0))), (((16, 0), 1000018), .inl none), (((0, 0), 1851192626986356797424374018331344491018900889112178922606297214000000), .inr (0, (15, 0))), (((0, 0), 1851192626986356797424340330377019318111018015026043177553363025000000), .inr (3, (14, 0))), (((9, 0), 0), .inr (3, (14, 0))), (((14, 0), 1000019), .inl none), (((0, 0), 1851192626986356797424374018331344491018900889112178922606297196000000), .inr (0, (13, 0))), (((0, 0), 1851192626986356797424340330377019318111018015026043177553363016000000), .inr (3, (12, 0))), (((8, 0), 0), .inr (3, (12, 0))), (((12, 0), 1000019), .inl none), (((8, 0), 1000010), .inl none), (((9, 0), 1000010), .inl none)], 0, 0, 4, [(3, .inr (0, (11, 1))), (2, .inr (0, (10, 1))), (0, .inr (3, (8, 0))), (1, .inr (3, (9, 0)))], []), [(10, (-1), 35)], [], [(0, 0), (0, 0), (0, 0), (0, 0), (0, 0), (0, 0), (0, 0), (0, 0), (8, 0), (9, 0), (10, 1), (11, 1)], 1)
def rxoRUN_1_1 : bx_HO := (([(0, 0), (0, 0), (0, 0), (0, 0), (0, 0), (0, 0), (0, 0), (0, 0), (0, 1522), (0, 1522), (0, 36), (0, 35), (0, 1522), ((-1), 9), (0, 1522), ((-1), 9), (0, 1522), ((-1), 5), (0, 1522), ((-1), 5)], [(2, (17, 0), (19, 0)), (2, (13, 0), (15, 0))], [(((0, 0), 1851192626986356797424374018331344491018900889112178922606297250000000), .inr (0, (19, 0))), (((0, 0), 1851192626986356797625047037163794926384839479479878431107186769000000), .inr (3, (18, 0))), (((9, 0), 1), .inr (3, (18, 0))), (((18, 0), 1000018), .inl none), (((0, 0), 1851192626986356797424374018331344491018900889112178922606297232000000), .inr (0, (17, 0))), (((0, 0), 1851192626986356797625047037163794926384839479479878431107186760000000), .inr (3, (16, 0))), (((8, 0), 1), .inr (3, (16, 0))), (((16, 0), 1000018), .inl none), (((0, 0), 1851192626986356797424374018331344491018900889112178922606297214000000), .inr (0, (15, 0))), (((0, 0), 1851192626986356797424340330377019318111018015026043177553363025000000), .inr (3, (14, 0))), (((9, 0), 0), .inr (3, (14, 0))), (((14, 0), 1000019), .inl none), (((0, 0), 1851192626986356797424374018331344491018900889112178922606297196000000), .inr (0, (13, 0))), (((0, 0), 1851192626986356797424340330377019318111018015026043177553363016000000), .inr (3, (12, 0))), (((8, 0), 0), .inr (3, (12, 0))), (((12, 0), 1000019), .inl none), (((8, 0), 1000010), .inl none), (((9, 0), 1000010), .inl none)], 0, 0, 4, [(3, .inr (0, (11, 1))), (0, .inr (3, (8, 0))), (1, .inr (3, (9, 0))), (2, .inr (0, (10, 0)))], []), [], [], [(0, 0), (0, 0), (0, 0), (0, 0), (0, 0), (0, 0), (0, 0), (0, 0), (8, 0), (9, 0), (10, 0), (11, 1)], 1)
def rxoRUN_1_2 : bx_HO := (([(0, 0), (0, 0), (0, 0), (0, 0), (0, 0), (0, 0), (0, 0), (0, 0), (0, 1522), (0, 1522), (0, 36), (0, 35), (0, 1522), ((-1), 9), (0, 1522), ((-1), 9)], [(3, (13, 0), (15, 0))], [(((0, 0), 1851192626986356797424374018331344491018900889112178922606297214000000), .inr (0, (15, 0))), (((0, 0), 1851192626986356797424340330377019318111018015026043177553363025000000), .inr (3, (14, 0))), (((9, 0), 0), .inr (3, (14, 0))), (((14, 0), 1000019), .inl none), (((0, 0), 1851192626986356797424374018331344491018900889112178922606297196000000), .inr (0, (13, 0))), (((0, 0), 1851192626986356797424340330377019318111018015026043177553363016000000), .inr (3, (12, 0))), (((8, 0), 0), .inr (3, (12, 0))), (((12, 0), 1000019), .inl none), (((8, 0), 1000010), .inl none), (((9, 0), 1000010), .inl none)], 0, 0, 4, [(3, .inr (0, (11, 1))), (2, .inr (0, (10, 1))), (0, .inr (3, (8, 0))), (1, .inr (3, (9, 0)))], []), [(10, (-1), 35)], [], [(0, 0), (0, 0), (0, 0), (0, 0), (0, 0), (0, 0), (0, 0), (0, 0), (8, 0), (9, 0), (10, 1), (11, 1)], 1)
def rxeRUN_1_0 : rx_End × List (Nat × Int × Int) := (([(0, 0), (0, 0), (0, 0), (0, 0), (0, 0), (0, 0), (0, 0), (0, 0), (0, 1522), (0, 1522), (0, 36), (36, 36)], [], [(((8, 0), 1000010), .inl none), (((9, 0), 1000010), .inl none)], some (.inr (0, (10, 0)))), [])
def rxYRUN : List bx_HE := [(rxzRUN_0, [rxoRUN_0_0], []), (rxzRUN_1, [rxoRUN_1_0, rxoRUN_1_1, rxoRUN_1_2], [rxeRUN_1_0])]
def rxURUN (q : bx_HE) : Bool := false
def rxYBRUN : bx_B := (rxV, rxNP, rxDmf, bx_mdH rxCRUN.2.2.1)
set_option maxRecDepth 100000 in
theorem rxYcRUN : bx_chkH rxYBRUN rxM127 rxCRUN rxYRUN (rxURUN, fun cut z => rx_ex2 (rxCT rxYBRUN rxCnE) cut 30000 rxCRUN.2.2.2.1 127 z) = true := by decide +kernel
def rxIRUN (S0 : Nat → Int → Int) (ws : List Int) (i : Nat) : bx_SP := fun S r => match i with | 0 => rxIRUN_0 S0 ws S (r 8) (r 9) | 1 => rxIRUN_1 S0 ws S (r 8) (r 9) (r 10) (r 11) | _ => False
def rxmRUN (S0 : Nat → Int → Int) (ws : List Int) (i : Nat) (S : Nat → Int → Int) (r : Nat → Int) : Nat := match i with | 0 => rxmRUN_0 S0 ws S (r 8) (r 9) | 1 => rxmRUN_1 S0 ws S (r 8) (r 9) (r 10) (r 11) | _ => 0
def rxPRUN (S0 : Nat → Int → Int) (ws : List Int) : Prop := ∃ sa sb : Int, ws = [sa, sb] ∧ (S0 sa.toNat 0 = sa + 1 ∧ S0 sa.toNat 1 = sa + 2) ∧ S0 sb.toNat 0 = sb + 1 ∧ S0 sb.toNat 1 = sb + 2
def rxPSRUN (S0 : Nat → Int → Int) (ws : List Int) (S : Nat → Int → Int) (w : Option Int) : Prop := S = S0 ∧ ∃ sa sb : Int, ws = [sa, sb] ∧ w = some (rjCn (fun t => decide (S0 (sa + 1).toNat t ≠ S0 (sb + 1).toNat t ∨ S0 (sa + 2).toNat t ≠ S0 (sb + 2).toNat t)) 36)
theorem rxcRUN_0_0 {S0 : Nat → Int → Int} {ws : List Int} {S : Nat → Int → Int} {sa sb : Int} (hP : rxPRUN S0 ws) (hin : bx_same rxL (bx_mdl rxCRUN.2.2.1) S0 S) (I0 : bx_Inv rxL S) (hinv : rxIRUN_0 S0 ws S sa sb) (l8 : 0 ≤ sa) (u8 : sa ≤ 1522) (l9 : 0 ≤ sb) (u9 : sb ≤ 1522) : (True) ∧ (True) ∧ rxIRUN_1 S0 ws S sa sb 0 0 ∧ rxmRUN_1 S0 ws S sa sb 0 0 < rxmRUN_0 S0 ws S sa sb := by
  obtain ⟨rfl, hw⟩ := hinv
  exact ⟨trivial, trivial, ⟨rfl, hw, rfl, by omega⟩, by unfold rxmRUN_0 rxmRUN_1; omega⟩
theorem rxgRUN_0_0 {X : (Nat → Int → Int) → Prop} {S0 : Nat → Int → Int} {ws : List Int} (hP : rxPRUN S0 ws) : bx_obC rxL X S0 rxCRUN.2.2.1 (rxIRUN S0 ws) (rxmRUN S0 ws) 0 rxzRUN_0 rxoRUN_0_0 := by
  intro S S_p r r_p hinv hX hin hsm_ hseg
  obtain ⟨I0, I1, h0_, hr_, b_, f_, d_⟩ := bx_cl (evs := []) (fvs := []) hseg (by decide +kernel) (by decide +kernel)
  have hinv : rxIRUN_0 S0 ws S (r 8) (r 9) := hinv
  rw [← hr_ 8 (by decide), ← hr_ 9 (by decide)] at hinv
  obtain ⟨⟨l8, u8⟩, ⟨l9, u9⟩, -⟩ := b_
  have w_ := d_
  subst w_
  have g := rxcRUN_0_0 hP hin I0 hinv l8 u8 l9 u9
  refine ⟨bx_narP_ok (l := []) g.1, bx_nfP_ok h0_ (fvs := []) (by decide +kernel) g.2.1, ?_, ?_⟩
  · show rxIRUN_1 S0 ws S_p (bx_val [(0, 0), (0, 0), (0, 0), (0, 0), (0, 0), (0, 0), (0, 0), (0, 0), (8, 0), (9, 0), (0, 0), (0, 0)] r_p 8) (bx_val [(0, 0), (0, 0), (0, 0), (0, 0), (0, 0), (0, 0), (0, 0), (0, 0), (8, 0), (9, 0), (0, 0), (0, 0)] r_p 9) (bx_val [(0, 0), (0, 0), (0, 0), (0, 0), (0, 0), (0, 0), (0, 0), (0, 0), (8, 0), (9, 0), (0, 0), (0, 0)] r_p 10) (bx_val [(0, 0), (0, 0), (0, 0), (0, 0), (0, 0), (0, 0), (0, 0), (0, 0), (8, 0), (9, 0), (0, 0), (0, 0)] r_p 11)
    rw [bx_val_x (n := 8) (e := (8, 0)) h0_ rfl, bx_val_x (n := 9) (e := (9, 0)) h0_ rfl, bx_val_x (n := 10) (e := (0, 0)) h0_ rfl, bx_val_x (n := 11) (e := (0, 0)) h0_ rfl]
    exact g.2.2.1
  · show rxmRUN_1 S0 ws S_p (bx_val [(0, 0), (0, 0), (0, 0), (0, 0), (0, 0), (0, 0), (0, 0), (0, 0), (8, 0), (9, 0), (0, 0), (0, 0)] r_p 8) (bx_val [(0, 0), (0, 0), (0, 0), (0, 0), (0, 0), (0, 0), (0, 0), (0, 0), (8, 0), (9, 0), (0, 0), (0, 0)] r_p 9) (bx_val [(0, 0), (0, 0), (0, 0), (0, 0), (0, 0), (0, 0), (0, 0), (0, 0), (8, 0), (9, 0), (0, 0), (0, 0)] r_p 10) (bx_val [(0, 0), (0, 0), (0, 0), (0, 0), (0, 0), (0, 0), (0, 0), (0, 0), (8, 0), (9, 0), (0, 0), (0, 0)] r_p 11) < rxmRUN_0 S0 ws S_p (r 8) (r 9)
    rw [bx_val_x (n := 8) (e := (8, 0)) h0_ rfl, bx_val_x (n := 9) (e := (9, 0)) h0_ rfl, bx_val_x (n := 10) (e := (0, 0)) h0_ rfl, bx_val_x (n := 11) (e := (0, 0)) h0_ rfl, ← hr_ 8 (by decide), ← hr_ 9 (by decide)]
    exact g.2.2.2
theorem rxcRUN_1_0 {S0 : Nat → Int → Int} {ws : List Int} {S : Nat → Int → Int} {sa sb n i x12 x13 x14 x15 x16 x17 x18 x19 : Int} (hP : rxPRUN S0 ws) (hin : bx_same rxL (bx_mdl rxCRUN.2.2.1) S0 S) (I0 : bx_Inv rxL S) (hinv : rxIRUN_1 S0 ws S sa sb n i) (l8 : 0 ≤ sa) (u8 : sa ≤ 1522) (l9 : 0 ≤ sb) (u9 : sb ≤ 1522) (l10 : 0 ≤ n) (u10 : n ≤ 36) (l11 : 0 ≤ i) (u11 : i ≤ 35) (l12 : 0 ≤ x12) (u12 : x12 ≤ 1522) (l13 : (-1) ≤ x13) (u13 : x13 ≤ 9) (l14 : 0 ≤ x14) (u14 : x14 ≤ 1522) (l15 : (-1) ≤ x15) (u15 : x15 ≤ 9) (l16 : 0 ≤ x16) (u16 : x16 ≤ 1522) (l17 : (-1) ≤ x17) (u17 : x17 ≤ 5) (l18 : 0 ≤ x18) (u18 : x18 ≤ 1522) (l19 : (-1) ≤ x19) (u19 : x19 ≤ 5) (f0 : x17 ≠ x19) (f1 : x13 = x15) (e7 : S (sa).toNat 0 = x12) (e6 : S (x12).toNat i = x13) (e5 : S (sb).toNat 0 = x14) (e4 : S (x14).toNat i = x15) (e3 : S (sa).toNat 1 = x16) (e2 : S (x16).toNat i = x17) (e1 : S (sb).toNat 1 = x18) (e0 : S (x18).toNat i = x19) : (((-1) ≤ n ∧ n ≤ 35) ∧ True) ∧ (True) ∧ rxIRUN_1 S0 ws S sa sb (n + 1) (i + 1) ∧ rxmRUN_1 S0 ws S sa sb (n + 1) (i + 1) < rxmRUN_1 S0 ws S sa sb n i := by
  obtain ⟨rfl, hw, hn, hle⟩ := hinv
  obtain ⟨sa2, sb2, hw2, ⟨ha0, ha1⟩, hb0, hb1⟩ := hP
  have k1_ : sa = sa2 := Option.some.inj (congrArg (fun l : List Int => l[0]?) (hw.symm.trans hw2))
  have k2_ : sb = sb2 := Option.some.inj (congrArg (fun l : List Int => l[1]?) (hw.symm.trans hw2))
  subst k1_
  subst k2_
  have hk : ((i.toNat : Nat) : Int) = i := Int.toNat_of_nonneg (by omega)
  have ek : (i + 1).toNat = i.toNat + 1 := by omega
  have ax12 : x12 = sa + 1 := e7.symm.trans ha0
  subst ax12
  have ax16 : x16 = sa + 2 := e3.symm.trans ha1
  subst ax16
  have ax14 : x14 = sb + 1 := e5.symm.trans hb0
  subst ax14
  have ax18 : x18 = sb + 2 := e1.symm.trans hb1
  subst ax18
  have hb : (fun t => decide (S (sa + 1).toNat t ≠ S (sb + 1).toNat t ∨ S (sa + 2).toNat t ≠ S (sb + 2).toNat t)) i = true := decide_eq_true (Or.inr (by rw [e2, e0]; omega))
  exact ⟨⟨⟨by omega, by omega⟩, trivial⟩, trivial, ⟨rfl, hw2, by rw [ek, rjCn_t hk.symm hb]; omega, by omega⟩, by unfold rxmRUN_1; omega⟩
theorem rxgRUN_1_0 {X : (Nat → Int → Int) → Prop} {S0 : Nat → Int → Int} {ws : List Int} (hP : rxPRUN S0 ws) : bx_obC rxL X S0 rxCRUN.2.2.1 (rxIRUN S0 ws) (rxmRUN S0 ws) 1 rxzRUN_1 rxoRUN_1_0 := by
  intro S S_p r r_p hinv hX hin hsm_ hseg
  obtain ⟨I0, I1, h0_, hr_, b_, f_, d_⟩ := bx_cl (evs := [(0, (18, 0), (11, 0), .inr (0, (19, 0))), (0, (9, 0), (0, 1), .inr (3, (18, 0))), (0, (16, 0), (11, 0), .inr (0, (17, 0))), (0, (8, 0), (0, 1), .inr (3, (16, 0))), (0, (14, 0), (11, 0), .inr (0, (15, 0))), (0, (9, 0), (0, 0), .inr (3, (14, 0))), (0, (12, 0), (11, 0), .inr (0, (13, 0))), (0, (8, 0), (0, 0), .inr (3, (12, 0)))]) (fvs := [(3, (17, 0), (19, 0), (0, 0)), (2, (13, 0), (15, 0), (0, 0))]) hseg (by decide +kernel) (by decide +kernel)
  have hinv : rxIRUN_1 S0 ws S (r 8) (r 9) (r 10) (r 11) := hinv
  rw [← hr_ 8 (by decide), ← hr_ 9 (by decide), ← hr_ 10 (by decide), ← hr_ 11 (by decide)] at hinv
  obtain ⟨⟨l8, u8⟩, ⟨l9, u9⟩, ⟨l10, u10⟩, ⟨l11, u11⟩, ⟨l12, u12⟩, ⟨l13, u13⟩, ⟨l14, u14⟩, ⟨l15, u15⟩, ⟨l16, u16⟩, ⟨l17, u17⟩, ⟨l18, u18⟩, ⟨l19, u19⟩, -⟩ := b_
  obtain ⟨f0, f1, -⟩ := f_
  obtain ⟨e0, ⟨e1, ⟨e2, ⟨e3, ⟨e4, ⟨e5, ⟨e6, ⟨e7, w_⟩⟩⟩⟩⟩⟩⟩⟩ := d_
  subst w_
  have g := rxcRUN_1_0 hP hin I0 hinv l8 u8 l9 u9 l10 u10 l11 u11 l12 u12 l13 u13 l14 u14 l15 u15 l16 u16 l17 u17 l18 u18 l19 u19 f0 f1 e7 e6 e5 e4 e3 e2 e1 e0
  refine ⟨bx_narP_ok (l := [(10, (-1), 35)]) g.1, bx_nfP_ok h0_ (fvs := []) (by decide +kernel) g.2.1, ?_, ?_⟩
  · show rxIRUN_1 S0 ws S_p (bx_val [(0, 0), (0, 0), (0, 0), (0, 0), (0, 0), (0, 0), (0, 0), (0, 0), (8, 0), (9, 0), (10, 1), (11, 1)] r_p 8) (bx_val [(0, 0), (0, 0), (0, 0), (0, 0), (0, 0), (0, 0), (0, 0), (0, 0), (8, 0), (9, 0), (10, 1), (11, 1)] r_p 9) (bx_val [(0, 0), (0, 0), (0, 0), (0, 0), (0, 0), (0, 0), (0, 0), (0, 0), (8, 0), (9, 0), (10, 1), (11, 1)] r_p 10) (bx_val [(0, 0), (0, 0), (0, 0), (0, 0), (0, 0), (0, 0), (0, 0), (0, 0), (8, 0), (9, 0), (10, 1), (11, 1)] r_p 11)
    rw [bx_val_x (n := 8) (e := (8, 0)) h0_ rfl, bx_val_x (n := 9) (e := (9, 0)) h0_ rfl, bx_val_x (n := 10) (e := (10, 1)) h0_ rfl, bx_val_x (n := 11) (e := (11, 1)) h0_ rfl]
    exact g.2.2.1
  · show rxmRUN_1 S0 ws S_p (bx_val [(0, 0), (0, 0), (0, 0), (0, 0), (0, 0), (0, 0), (0, 0), (0, 0), (8, 0), (9, 0), (10, 1), (11, 1)] r_p 8) (bx_val [(0, 0), (0, 0), (0, 0), (0, 0), (0, 0), (0, 0), (0, 0), (0, 0), (8, 0), (9, 0), (10, 1), (11, 1)] r_p 9) (bx_val [(0, 0), (0, 0), (0, 0), (0, 0), (0, 0), (0, 0), (0, 0), (0, 0), (8, 0), (9, 0), (10, 1), (11, 1)] r_p 10) (bx_val [(0, 0), (0, 0), (0, 0), (0, 0), (0, 0), (0, 0), (0, 0), (0, 0), (8, 0), (9, 0), (10, 1), (11, 1)] r_p 11) < rxmRUN_1 S0 ws S_p (r 8) (r 9) (r 10) (r 11)
    rw [bx_val_x (n := 8) (e := (8, 0)) h0_ rfl, bx_val_x (n := 9) (e := (9, 0)) h0_ rfl, bx_val_x (n := 10) (e := (10, 1)) h0_ rfl, bx_val_x (n := 11) (e := (11, 1)) h0_ rfl, ← hr_ 8 (by decide), ← hr_ 9 (by decide), ← hr_ 10 (by decide), ← hr_ 11 (by decide)]
    exact g.2.2.2
theorem rxcRUN_1_1 {S0 : Nat → Int → Int} {ws : List Int} {S : Nat → Int → Int} {sa sb n i x12 x13 x14 x15 x16 x17 x18 x19 : Int} (hP : rxPRUN S0 ws) (hin : bx_same rxL (bx_mdl rxCRUN.2.2.1) S0 S) (I0 : bx_Inv rxL S) (hinv : rxIRUN_1 S0 ws S sa sb n i) (l8 : 0 ≤ sa) (u8 : sa ≤ 1522) (l9 : 0 ≤ sb) (u9 : sb ≤ 1522) (l10 : 0 ≤ n) (u10 : n ≤ 36) (l11 : 0 ≤ i) (u11 : i ≤ 35) (l12 : 0 ≤ x12) (u12 : x12 ≤ 1522) (l13 : (-1) ≤ x13) (u13 : x13 ≤ 9) (l14 : 0 ≤ x14) (u14 : x14 ≤ 1522) (l15 : (-1) ≤ x15) (u15 : x15 ≤ 9) (l16 : 0 ≤ x16) (u16 : x16 ≤ 1522) (l17 : (-1) ≤ x17) (u17 : x17 ≤ 5) (l18 : 0 ≤ x18) (u18 : x18 ≤ 1522) (l19 : (-1) ≤ x19) (u19 : x19 ≤ 5) (f0 : x17 = x19) (f1 : x13 = x15) (e7 : S (sa).toNat 0 = x12) (e6 : S (x12).toNat i = x13) (e5 : S (sb).toNat 0 = x14) (e4 : S (x14).toNat i = x15) (e3 : S (sa).toNat 1 = x16) (e2 : S (x16).toNat i = x17) (e1 : S (sb).toNat 1 = x18) (e0 : S (x18).toNat i = x19) : (True) ∧ (True) ∧ rxIRUN_1 S0 ws S sa sb n (i + 1) ∧ rxmRUN_1 S0 ws S sa sb n (i + 1) < rxmRUN_1 S0 ws S sa sb n i := by
  obtain ⟨rfl, hw, hn, hle⟩ := hinv
  obtain ⟨sa2, sb2, hw2, ⟨ha0, ha1⟩, hb0, hb1⟩ := hP
  have k1_ : sa = sa2 := Option.some.inj (congrArg (fun l : List Int => l[0]?) (hw.symm.trans hw2))
  have k2_ : sb = sb2 := Option.some.inj (congrArg (fun l : List Int => l[1]?) (hw.symm.trans hw2))
  subst k1_
  subst k2_
  have hk : ((i.toNat : Nat) : Int) = i := Int.toNat_of_nonneg (by omega)
  have ek : (i + 1).toNat = i.toNat + 1 := by omega
  have ax12 : x12 = sa + 1 := e7.symm.trans ha0
  subst ax12
  have ax16 : x16 = sa + 2 := e3.symm.trans ha1
  subst ax16
  have ax14 : x14 = sb + 1 := e5.symm.trans hb0
  subst ax14
  have ax18 : x18 = sb + 2 := e1.symm.trans hb1
  subst ax18
  have hb : (fun t => decide (S (sa + 1).toNat t ≠ S (sb + 1).toNat t ∨ S (sa + 2).toNat t ≠ S (sb + 2).toNat t)) i = false := decide_eq_false (fun z => by rw [e6, e4, e2, e0] at z; omega)
  exact ⟨trivial, trivial, ⟨rfl, hw2, by rw [ek, rjCn_f hk.symm hb]; exact hn, by omega⟩, by unfold rxmRUN_1; omega⟩
theorem rxgRUN_1_1 {X : (Nat → Int → Int) → Prop} {S0 : Nat → Int → Int} {ws : List Int} (hP : rxPRUN S0 ws) : bx_obC rxL X S0 rxCRUN.2.2.1 (rxIRUN S0 ws) (rxmRUN S0 ws) 1 rxzRUN_1 rxoRUN_1_1 := by
  intro S S_p r r_p hinv hX hin hsm_ hseg
  obtain ⟨I0, I1, h0_, hr_, b_, f_, d_⟩ := bx_cl (evs := [(0, (18, 0), (11, 0), .inr (0, (19, 0))), (0, (9, 0), (0, 1), .inr (3, (18, 0))), (0, (16, 0), (11, 0), .inr (0, (17, 0))), (0, (8, 0), (0, 1), .inr (3, (16, 0))), (0, (14, 0), (11, 0), .inr (0, (15, 0))), (0, (9, 0), (0, 0), .inr (3, (14, 0))), (0, (12, 0), (11, 0), .inr (0, (13, 0))), (0, (8, 0), (0, 0), .inr (3, (12, 0)))]) (fvs := [(2, (17, 0), (19, 0), (0, 0)), (2, (13, 0), (15, 0), (0, 0))]) hseg (by decide +kernel) (by decide +kernel)
  have hinv : rxIRUN_1 S0 ws S (r 8) (r 9) (r 10) (r 11) := hinv
  rw [← hr_ 8 (by decide), ← hr_ 9 (by decide), ← hr_ 10 (by decide), ← hr_ 11 (by decide)] at hinv
  obtain ⟨⟨l8, u8⟩, ⟨l9, u9⟩, ⟨l10, u10⟩, ⟨l11, u11⟩, ⟨l12, u12⟩, ⟨l13, u13⟩, ⟨l14, u14⟩, ⟨l15, u15⟩, ⟨l16, u16⟩, ⟨l17, u17⟩, ⟨l18, u18⟩, ⟨l19, u19⟩, -⟩ := b_
  obtain ⟨f0, f1, -⟩ := f_
  obtain ⟨e0, ⟨e1, ⟨e2, ⟨e3, ⟨e4, ⟨e5, ⟨e6, ⟨e7, w_⟩⟩⟩⟩⟩⟩⟩⟩ := d_
  subst w_
  have g := rxcRUN_1_1 hP hin I0 hinv l8 u8 l9 u9 l10 u10 l11 u11 l12 u12 l13 u13 l14 u14 l15 u15 l16 u16 l17 u17 l18 u18 l19 u19 f0 f1 e7 e6 e5 e4 e3 e2 e1 e0
  refine ⟨bx_narP_ok (l := []) g.1, bx_nfP_ok h0_ (fvs := []) (by decide +kernel) g.2.1, ?_, ?_⟩
  · show rxIRUN_1 S0 ws S_p (bx_val [(0, 0), (0, 0), (0, 0), (0, 0), (0, 0), (0, 0), (0, 0), (0, 0), (8, 0), (9, 0), (10, 0), (11, 1)] r_p 8) (bx_val [(0, 0), (0, 0), (0, 0), (0, 0), (0, 0), (0, 0), (0, 0), (0, 0), (8, 0), (9, 0), (10, 0), (11, 1)] r_p 9) (bx_val [(0, 0), (0, 0), (0, 0), (0, 0), (0, 0), (0, 0), (0, 0), (0, 0), (8, 0), (9, 0), (10, 0), (11, 1)] r_p 10) (bx_val [(0, 0), (0, 0), (0, 0), (0, 0), (0, 0), (0, 0), (0, 0), (0, 0), (8, 0), (9, 0), (10, 0), (11, 1)] r_p 11)
    rw [bx_val_x (n := 8) (e := (8, 0)) h0_ rfl, bx_val_x (n := 9) (e := (9, 0)) h0_ rfl, bx_val_x (n := 10) (e := (10, 0)) h0_ rfl, bx_val_x (n := 11) (e := (11, 1)) h0_ rfl]
    exact g.2.2.1
  · show rxmRUN_1 S0 ws S_p (bx_val [(0, 0), (0, 0), (0, 0), (0, 0), (0, 0), (0, 0), (0, 0), (0, 0), (8, 0), (9, 0), (10, 0), (11, 1)] r_p 8) (bx_val [(0, 0), (0, 0), (0, 0), (0, 0), (0, 0), (0, 0), (0, 0), (0, 0), (8, 0), (9, 0), (10, 0), (11, 1)] r_p 9) (bx_val [(0, 0), (0, 0), (0, 0), (0, 0), (0, 0), (0, 0), (0, 0), (0, 0), (8, 0), (9, 0), (10, 0), (11, 1)] r_p 10) (bx_val [(0, 0), (0, 0), (0, 0), (0, 0), (0, 0), (0, 0), (0, 0), (0, 0), (8, 0), (9, 0), (10, 0), (11, 1)] r_p 11) < rxmRUN_1 S0 ws S_p (r 8) (r 9) (r 10) (r 11)
    rw [bx_val_x (n := 8) (e := (8, 0)) h0_ rfl, bx_val_x (n := 9) (e := (9, 0)) h0_ rfl, bx_val_x (n := 10) (e := (10, 0)) h0_ rfl, bx_val_x (n := 11) (e := (11, 1)) h0_ rfl, ← hr_ 8 (by decide), ← hr_ 9 (by decide), ← hr_ 10 (by decide), ← hr_ 11 (by decide)]
    exact g.2.2.2
theorem rxcRUN_1_2 {S0 : Nat → Int → Int} {ws : List Int} {S : Nat → Int → Int} {sa sb n i x12 x13 x14 x15 : Int} (hP : rxPRUN S0 ws) (hin : bx_same rxL (bx_mdl rxCRUN.2.2.1) S0 S) (I0 : bx_Inv rxL S) (hinv : rxIRUN_1 S0 ws S sa sb n i) (l8 : 0 ≤ sa) (u8 : sa ≤ 1522) (l9 : 0 ≤ sb) (u9 : sb ≤ 1522) (l10 : 0 ≤ n) (u10 : n ≤ 36) (l11 : 0 ≤ i) (u11 : i ≤ 35) (l12 : 0 ≤ x12) (u12 : x12 ≤ 1522) (l13 : (-1) ≤ x13) (u13 : x13 ≤ 9) (l14 : 0 ≤ x14) (u14 : x14 ≤ 1522) (l15 : (-1) ≤ x15) (u15 : x15 ≤ 9) (f0 : x13 ≠ x15) (e3 : S (sa).toNat 0 = x12) (e2 : S (x12).toNat i = x13) (e1 : S (sb).toNat 0 = x14) (e0 : S (x14).toNat i = x15) : (((-1) ≤ n ∧ n ≤ 35) ∧ True) ∧ (True) ∧ rxIRUN_1 S0 ws S sa sb (n + 1) (i + 1) ∧ rxmRUN_1 S0 ws S sa sb (n + 1) (i + 1) < rxmRUN_1 S0 ws S sa sb n i := by
  obtain ⟨rfl, hw, hn, hle⟩ := hinv
  obtain ⟨sa2, sb2, hw2, ⟨ha0, ha1⟩, hb0, hb1⟩ := hP
  have k1_ : sa = sa2 := Option.some.inj (congrArg (fun l : List Int => l[0]?) (hw.symm.trans hw2))
  have k2_ : sb = sb2 := Option.some.inj (congrArg (fun l : List Int => l[1]?) (hw.symm.trans hw2))
  subst k1_
  subst k2_
  have hk : ((i.toNat : Nat) : Int) = i := Int.toNat_of_nonneg (by omega)
  have ek : (i + 1).toNat = i.toNat + 1 := by omega
  have ax12 : x12 = sa + 1 := e3.symm.trans ha0
  subst ax12
  have ax14 : x14 = sb + 1 := e1.symm.trans hb0
  subst ax14
  have hb : (fun t => decide (S (sa + 1).toNat t ≠ S (sb + 1).toNat t ∨ S (sa + 2).toNat t ≠ S (sb + 2).toNat t)) i = true := decide_eq_true (Or.inl (by rw [e2, e0]; omega))
  exact ⟨⟨⟨by omega, by omega⟩, trivial⟩, trivial, ⟨rfl, hw2, by rw [ek, rjCn_t hk.symm hb]; omega, by omega⟩, by unfold rxmRUN_1; omega⟩
theorem rxgRUN_1_2 {X : (Nat → Int → Int) → Prop} {S0 : Nat → Int → Int} {ws : List Int} (hP : rxPRUN S0 ws) : bx_obC rxL X S0 rxCRUN.2.2.1 (rxIRUN S0 ws) (rxmRUN S0 ws) 1 rxzRUN_1 rxoRUN_1_2 := by
  intro S S_p r r_p hinv hX hin hsm_ hseg
  obtain ⟨I0, I1, h0_, hr_, b_, f_, d_⟩ := bx_cl (evs := [(0, (14, 0), (11, 0), .inr (0, (15, 0))), (0, (9, 0), (0, 0), .inr (3, (14, 0))), (0, (12, 0), (11, 0), .inr (0, (13, 0))), (0, (8, 0), (0, 0), .inr (3, (12, 0)))]) (fvs := [(3, (13, 0), (15, 0), (0, 0))]) hseg (by decide +kernel) (by decide +kernel)
  have hinv : rxIRUN_1 S0 ws S (r 8) (r 9) (r 10) (r 11) := hinv
  rw [← hr_ 8 (by decide), ← hr_ 9 (by decide), ← hr_ 10 (by decide), ← hr_ 11 (by decide)] at hinv
  obtain ⟨⟨l8, u8⟩, ⟨l9, u9⟩, ⟨l10, u10⟩, ⟨l11, u11⟩, ⟨l12, u12⟩, ⟨l13, u13⟩, ⟨l14, u14⟩, ⟨l15, u15⟩, -⟩ := b_
  obtain ⟨f0, -⟩ := f_
  obtain ⟨e0, ⟨e1, ⟨e2, ⟨e3, w_⟩⟩⟩⟩ := d_
  subst w_
  have g := rxcRUN_1_2 hP hin I0 hinv l8 u8 l9 u9 l10 u10 l11 u11 l12 u12 l13 u13 l14 u14 l15 u15 f0 e3 e2 e1 e0
  refine ⟨bx_narP_ok (l := [(10, (-1), 35)]) g.1, bx_nfP_ok h0_ (fvs := []) (by decide +kernel) g.2.1, ?_, ?_⟩
  · show rxIRUN_1 S0 ws S_p (bx_val [(0, 0), (0, 0), (0, 0), (0, 0), (0, 0), (0, 0), (0, 0), (0, 0), (8, 0), (9, 0), (10, 1), (11, 1)] r_p 8) (bx_val [(0, 0), (0, 0), (0, 0), (0, 0), (0, 0), (0, 0), (0, 0), (0, 0), (8, 0), (9, 0), (10, 1), (11, 1)] r_p 9) (bx_val [(0, 0), (0, 0), (0, 0), (0, 0), (0, 0), (0, 0), (0, 0), (0, 0), (8, 0), (9, 0), (10, 1), (11, 1)] r_p 10) (bx_val [(0, 0), (0, 0), (0, 0), (0, 0), (0, 0), (0, 0), (0, 0), (0, 0), (8, 0), (9, 0), (10, 1), (11, 1)] r_p 11)
    rw [bx_val_x (n := 8) (e := (8, 0)) h0_ rfl, bx_val_x (n := 9) (e := (9, 0)) h0_ rfl, bx_val_x (n := 10) (e := (10, 1)) h0_ rfl, bx_val_x (n := 11) (e := (11, 1)) h0_ rfl]
    exact g.2.2.1
  · show rxmRUN_1 S0 ws S_p (bx_val [(0, 0), (0, 0), (0, 0), (0, 0), (0, 0), (0, 0), (0, 0), (0, 0), (8, 0), (9, 0), (10, 1), (11, 1)] r_p 8) (bx_val [(0, 0), (0, 0), (0, 0), (0, 0), (0, 0), (0, 0), (0, 0), (0, 0), (8, 0), (9, 0), (10, 1), (11, 1)] r_p 9) (bx_val [(0, 0), (0, 0), (0, 0), (0, 0), (0, 0), (0, 0), (0, 0), (0, 0), (8, 0), (9, 0), (10, 1), (11, 1)] r_p 10) (bx_val [(0, 0), (0, 0), (0, 0), (0, 0), (0, 0), (0, 0), (0, 0), (0, 0), (8, 0), (9, 0), (10, 1), (11, 1)] r_p 11) < rxmRUN_1 S0 ws S_p (r 8) (r 9) (r 10) (r 11)
    rw [bx_val_x (n := 8) (e := (8, 0)) h0_ rfl, bx_val_x (n := 9) (e := (9, 0)) h0_ rfl, bx_val_x (n := 10) (e := (10, 1)) h0_ rfl, bx_val_x (n := 11) (e := (11, 1)) h0_ rfl, ← hr_ 8 (by decide), ← hr_ 9 (by decide), ← hr_ 10 (by decide), ← hr_ 11 (by decide)]
    exact g.2.2.2
theorem rxdRUN_1_0 {S0 : Nat → Int → Int} {ws : List Int} {S : Nat → Int → Int} {sa sb n i : Int} (hP : rxPRUN S0 ws) (hin : bx_same rxL (bx_mdl rxCRUN.2.2.1) S0 S) (hin2 : bx_same rxL (bx_mdl rxCRUN.2.2.1) S S) (I0 : bx_Inv rxL S) (I1 : bx_Inv rxL S) (hinv : rxIRUN_1 S0 ws S sa sb n i) (l8 : 0 ≤ sa) (u8 : sa ≤ 1522) (l9 : 0 ≤ sb) (u9 : sb ≤ 1522) (l10 : 0 ≤ n) (u10 : n ≤ 36) (l11 : 36 ≤ i) (u11 : i ≤ 36) : (True) ∧ rxPSRUN S0 ws S (some n) := by
  obtain ⟨rfl, hw, hn, hle⟩ := hinv
  exact ⟨trivial, rfl, sa, sb, hw, congrArg some (hn.trans (by rw [show i.toNat = 36 by omega]))⟩
theorem rxfRUN_1_0 {X : (Nat → Int → Int) → Prop} {S0 : Nat → Int → Int} {ws : List Int} (hP : rxPRUN S0 ws) : bx_obE rxL X S0 rxCRUN.2.2.1 (rxIRUN S0 ws) (rxPSRUN S0 ws) 1 rxzRUN_1 rxeRUN_1_0 := by
  intro S S_p r r_p hinv hX hin hsm_ hseg
  obtain ⟨I0, I1, h0_, hr_, b_, f_, d_⟩ := bx_cl (evs := []) (fvs := []) hseg (by decide +kernel) (by decide +kernel)
  have hinv : rxIRUN_1 S0 ws S (r 8) (r 9) (r 10) (r 11) := hinv
  rw [← hr_ 8 (by decide), ← hr_ 9 (by decide), ← hr_ 10 (by decide), ← hr_ 11 (by decide)] at hinv
  obtain ⟨⟨l8, u8⟩, ⟨l9, u9⟩, ⟨l10, u10⟩, ⟨l11, u11⟩, -⟩ := b_
  have w_ := d_
  subst w_
  have g := rxdRUN_1_0 hP hin hsm_ I0 I1 hinv l8 u8 l9 u9 l10 u10 l11 u11
  refine ⟨bx_narP_ok (l := []) g.1, ?_⟩
  show rxPSRUN S0 ws S_p (some (bx_num r_p (.inr (0, (10, 0)))))
  rw [bx_xv_ok h0_]
  exact g.2
theorem rxgCRUN {X : (Nat → Int → Int) → Prop} {S0 : Nat → Int → Int} {ws : List Int} (hP : rxPRUN S0 ws) : bx_allI (fun i q => rxURUN q = true ∨ bx_allP (fun o => bx_obC rxL X S0 rxCRUN.2.2.1 (rxIRUN S0 ws) (rxmRUN S0 ws) i q.1 o) q.2.1) 0 rxYRUN := ⟨Or.inr ⟨rxgRUN_0_0 hP, trivial⟩, Or.inr ⟨rxgRUN_1_0 hP, rxgRUN_1_1 hP, rxgRUN_1_2 hP, trivial⟩, trivial⟩
theorem rxgERUN {X : (Nat → Int → Int) → Prop} {S0 : Nat → Int → Int} {ws : List Int} (hP : rxPRUN S0 ws) : bx_allI (fun i q => rxURUN q = true ∨ bx_allP (fun E => bx_obE rxL X S0 rxCRUN.2.2.1 (rxIRUN S0 ws) (rxPSRUN S0 ws) i q.1 E) q.2.2) 0 rxYRUN := ⟨Or.inr trivial, Or.inr ⟨rxfRUN_1_0 hP, trivial⟩, trivial⟩
theorem rxQRUN {PX : State → Prop} {Dg : va_G} {A : Nat → Prop} {ad xa : Nat → Nat} {l : Launch} {X : (Nat → Int → Int) → Prop} (hPX : rx_PXOK rxNW A PX) (hsl : ∀ s : State, PX s → ∀ o idx n : Nat, rxSl o idx = some n → ∃ tx : String, vk_R (rxNm o) idx tx (ad n) s)
    (hX : ∀ S S_p : Nat → Int → Int, X S → bx_same rxL (bx_mdl rxCRUN.2.2.1) S S_p → X S_p)
    (ih : ∀ (j2 : Nat) (ct2 : bx_Ct) (M2 : rx_Mt), ct2 ∈ rxCnE j2 → ct2.2.2.2.1 + 1 ≤ rxCRUN.2.2.2.1 → rxT.2.2.2.2.2 j2 = some M2 → bx_Con rxG rxNW rxAO PX Dg rxL X vwCl A ad l M2 ct2) : bx_ConP rxG rxNW rxAO PX Dg rxL X vwCl A ad l rxM127 rxCRUN rxPRUN rxPSRUN :=
  rxQof (xa := xa) (Cn := rxCnE) (f := 30000) (j := 127) (tab := rxYRUN) (us := rxURUN) hPX hsl hX ih rfl rxYcRUN rxIRUN rxmRUN
    (fun S0 ws r I0 I ht0 ht as he he1 hX0 hI0 hP hs ha => by
      have e := he.symm.trans (show bx_ent0 rxNP rxCRUN.1 bx_I0 [] = some ([(0, 0), (0, 0), (0, 0), (0, 0), (0, 0), (0, 0), (0, 0), (0, 0), (0, 1522), (0, 1522)], [(((9, 0), 1000010), .inl none), (((8, 0), 1000010), .inl none)], [.inr (3, (8, 0)), .inr (3, (9, 0))]) from rfl)
      cases e
      subst ha
      have h0 : r 0 = 0 := hs.1
      show rxIRUN_0 S0 _ S0 (r 8) (r 9)
      refine ⟨rfl, ?_⟩
      simp only [List.map_cons, List.map_nil, bx_xv_ok h0]
      rfl)
    (fun S0 ws hP => fun i q hq hus => absurd (show false = true from hus) Bool.false_ne_true) (fun S0 ws hP => rxgCRUN hP) (fun S0 ws hP => rxgERUN hP)
/-! CONTRACT BY HAND, by program (wip/sim/genhand.py): DeadUnderstudies$Town.versionsOf -/
def rxCVOF : bx_Ct := ([(3, (1, 1, 0)), (0, (0, 0, 5))], some (0, (0, (-2147483648), 2147483647)), [], 0, [])
def rxIVOF_0 (S0 : Nat → Int → Int) (ws : List Int) (S : Nat → Int → Int) (pa : Int) : Prop := S = S0 ∧ ws = [1, pa]
def rxmVOF_0 (S0 : Nat → Int → Int) (ws : List Int) (S : Nat → Int → Int) (pa : Int) : Nat := 1000
def rxzVOF_0 : rx_Z := ([(0, 0), (0, 0), (0, 0), (0, 0), (0, 0), (0, 0), (0, 0), (0, 0), (0, 5)], [], [], 0, 0, 0, [(0, .inr (3, (0, 1))), (1, .inr (0, (8, 0)))], [])
def rxIVOF_1 (S0 : Nat → Int → Int) (ws : List Int) (S : Nat → Int → Int) (pa n i : Int) : Prop := S = S0 ∧ ws = [1, pa] ∧ n = rjCn (fun t => decide (S0 9 t = pa)) i.toNat ∧ n ≤ i ∧ i ≤ S0 1 5
def rxmVOF_1 (S0 : Nat → Int → Int) (ws : List Int) (S : Nat → Int → Int) (pa n i : Int) : Nat := (100 - i).toNat
def rxzVOF_1 : rx_Z := ([(0, 0), (0, 0), (0, 0), (0, 0), (0, 0), (0, 0), (0, 0), (0, 0), (0, 5), (0, 12), (0, 12)], [], [], 0, 0, 4, [(0, .inr (3, (0, 1))), (1, .inr (0, (8, 0))), (2, .inr (0, (9, 0))), (3, .inr (0, (10, 0)))], [])
def rxoVOF_0_0 : bx_HO := (([(0, 0), (0, 0), (0, 0), (0, 0), (0, 0), (0, 0), (0, 0), (0, 0), (0, 5)], [], [], 0, 0, 4, [(3, .inr (0, (0, 0))), (2, .inr (0, (0, 0))), (0, .inr (3, (0, 1))), (1, .inr (0, (8, 0)))], []), [], [], [(0, 0), (0, 0), (0, 0), (0, 0), (0, 0), (0, 0), (0, 0), (0, 0), (8, 0), (0, 0), (0, 0)], 1)
def rxoVOF_1_0 : bx_HO := (([(0, 0), (0, 0), (0, 0), (0, 0), (0, 0), (0, 0), (0, 0), (0, 0), (0, 5), (0, 12), (0, 11), (1, 12), (0, 5)], [(2, (12, 0), (8, 0)), (0, (10, 0), (11, 0))], [(((0, 0), 1851192626986356797424370955790042202572729718740712036697702400000000), .inr (0, (12, 0))), (((0, 1), 6), .inr (3, (0, 9))), (((0, 0), 1851192626986356798427873864310897359480125337295219445323071488000000), .inr (0, (11, 0))), (((0, 1), 5), .inr (0, (11, 0)))], 0, 0, 4, [(3, .inr (0, (10, 1))), (2, .inr (0, (9, 1))), (0, .inr (3, (0, 1))), (1, .inr (0, (8, 0)))], []), [(9, (-1), 11)], [], [(0, 0), (0, 0), (0, 0), (0, 0), (0, 0), (0, 0), (0, 0), (0, 0), (8, 0), (9, 1), (10, 1)], 1)
def rxoVOF_1_1 : bx_HO := (([(0, 0), (0, 0), (0, 0), (0, 0), (0, 0), (0, 0), (0, 0), (0, 0), (0, 5), (0, 12), (0, 11), (1, 12), (0, 5)], [(3, (12, 0), (8, 0)), (0, (10, 0), (11, 0))], [(((0, 0), 1851192626986356797424370955790042202572729718740712036697702400000000), .inr (0, (12, 0))), (((0, 1), 6), .inr (3, (0, 9))), (((0, 0), 1851192626986356798427873864310897359480125337295219445323071488000000), .inr (0, (11, 0))), (((0, 1), 5), .inr (0, (11, 0)))], 0, 0, 4, [(3, .inr (0, (10, 1))), (0, .inr (3, (0, 1))), (1, .inr (0, (8, 0))), (2, .inr (0, (9, 0)))], []), [], [], [(0, 0), (0, 0), (0, 0), (0, 0), (0, 0), (0, 0), (0, 0), (0, 0), (8, 0), (9, 0), (10, 1)], 1)
def rxeVOF_1_0 : rx_End × List (Nat × Int × Int) := (([(0, 0), (0, 0), (0, 0), (0, 0), (0, 0), (0, 0), (0, 0), (0, 0), (0, 5), (0, 12), (0, 12), (0, 12)], [(1, (11, 0), (10, 0))], [(((0, 0), 1851192626986356798427873864310897359480125337295219445323071488000000), .inr (0, (11, 0))), (((0, 1), 5), .inr (0, (11, 0)))], some (.inr (0, (9, 0)))), [])
def rxYVOF : List bx_HE := [(rxzVOF_0, [rxoVOF_0_0], []), (rxzVOF_1, [rxoVOF_1_0, rxoVOF_1_1], [rxeVOF_1_0])]
def rxUVOF (q : bx_HE) : Bool := false
def rxYBVOF : bx_B := (rxV, rxNP, rxDmf, bx_mdH rxCVOF.2.2.1)
set_option maxRecDepth 100000 in
theorem rxYcVOF : bx_chkH rxYBVOF rxM115 rxCVOF rxYVOF (rxUVOF, fun cut z => rx_ex2 (rxCT rxYBVOF rxCnE) cut 30000 rxCVOF.2.2.2.1 115 z) = true := by decide +kernel
def rxIVOF (S0 : Nat → Int → Int) (ws : List Int) (i : Nat) : bx_SP := fun S r => match i with | 0 => rxIVOF_0 S0 ws S (r 8) | 1 => rxIVOF_1 S0 ws S (r 8) (r 9) (r 10) | _ => False
def rxmVOF (S0 : Nat → Int → Int) (ws : List Int) (i : Nat) (S : Nat → Int → Int) (r : Nat → Int) : Nat := match i with | 0 => rxmVOF_0 S0 ws S (r 8) | 1 => rxmVOF_1 S0 ws S (r 8) (r 9) (r 10) | _ => 0
def rxPVOF (S0 : Nat → Int → Int) (ws : List Int) : Prop := True
def rxPSVOF (S0 : Nat → Int → Int) (ws : List Int) (S : Nat → Int → Int) (w : Option Int) : Prop := S = S0 ∧ ∃ pa : Int, ws = [1, pa] ∧ w = some (rjCn (fun t => decide (S0 9 t = pa)) (S0 1 5).toNat)
theorem rxcVOF_0_0 {S0 : Nat → Int → Int} {ws : List Int} {S : Nat → Int → Int} {pa : Int} (hP : rxPVOF S0 ws) (hin : bx_same rxL (bx_mdl rxCVOF.2.2.1) S0 S) (I0 : bx_Inv rxL S) (hinv : rxIVOF_0 S0 ws S pa) (l8 : 0 ≤ pa) (u8 : pa ≤ 5) : (True) ∧ (True) ∧ rxIVOF_1 S0 ws S pa 0 0 ∧ rxmVOF_1 S0 ws S pa 0 0 < rxmVOF_0 S0 ws S pa := by
  obtain ⟨rfl, hw⟩ := hinv
  have b5 : 0 ≤ S 1 5 ∧ S 1 5 ≤ 12 := I0 1 5 (by decide) (by decide)
  exact ⟨trivial, trivial, ⟨rfl, hw, rfl, by omega, b5.1⟩, by unfold rxmVOF_0 rxmVOF_1; omega⟩
theorem rxgVOF_0_0 {X : (Nat → Int → Int) → Prop} {S0 : Nat → Int → Int} {ws : List Int} (hP : rxPVOF S0 ws) : bx_obC rxL X S0 rxCVOF.2.2.1 (rxIVOF S0 ws) (rxmVOF S0 ws) 0 rxzVOF_0 rxoVOF_0_0 := by
  intro S S_p r r_p hinv hX hin hsm_ hseg
  obtain ⟨I0, I1, h0_, hr_, b_, f_, d_⟩ := bx_cl (evs := []) (fvs := []) hseg (by decide +kernel) (by decide +kernel)
  have hinv : rxIVOF_0 S0 ws S (r 8) := hinv
  rw [← hr_ 8 (by decide)] at hinv
  obtain ⟨⟨l8, u8⟩, -⟩ := b_
  have w_ := d_
  subst w_
  have g := rxcVOF_0_0 hP hin I0 hinv l8 u8
  refine ⟨bx_narP_ok (l := []) g.1, bx_nfP_ok h0_ (fvs := []) (by decide +kernel) g.2.1, ?_, ?_⟩
  · show rxIVOF_1 S0 ws S_p (bx_val [(0, 0), (0, 0), (0, 0), (0, 0), (0, 0), (0, 0), (0, 0), (0, 0), (8, 0), (0, 0), (0, 0)] r_p 8) (bx_val [(0, 0), (0, 0), (0, 0), (0, 0), (0, 0), (0, 0), (0, 0), (0, 0), (8, 0), (0, 0), (0, 0)] r_p 9) (bx_val [(0, 0), (0, 0), (0, 0), (0, 0), (0, 0), (0, 0), (0, 0), (0, 0), (8, 0), (0, 0), (0, 0)] r_p 10)
    rw [bx_val_x (n := 8) (e := (8, 0)) h0_ rfl, bx_val_x (n := 9) (e := (0, 0)) h0_ rfl, bx_val_x (n := 10) (e := (0, 0)) h0_ rfl]
    exact g.2.2.1
  · show rxmVOF_1 S0 ws S_p (bx_val [(0, 0), (0, 0), (0, 0), (0, 0), (0, 0), (0, 0), (0, 0), (0, 0), (8, 0), (0, 0), (0, 0)] r_p 8) (bx_val [(0, 0), (0, 0), (0, 0), (0, 0), (0, 0), (0, 0), (0, 0), (0, 0), (8, 0), (0, 0), (0, 0)] r_p 9) (bx_val [(0, 0), (0, 0), (0, 0), (0, 0), (0, 0), (0, 0), (0, 0), (0, 0), (8, 0), (0, 0), (0, 0)] r_p 10) < rxmVOF_0 S0 ws S_p (r 8)
    rw [bx_val_x (n := 8) (e := (8, 0)) h0_ rfl, bx_val_x (n := 9) (e := (0, 0)) h0_ rfl, bx_val_x (n := 10) (e := (0, 0)) h0_ rfl, ← hr_ 8 (by decide)]
    exact g.2.2.2
theorem rxcVOF_1_0 {S0 : Nat → Int → Int} {ws : List Int} {S : Nat → Int → Int} {pa n i x11 x12 : Int} (hP : rxPVOF S0 ws) (hin : bx_same rxL (bx_mdl rxCVOF.2.2.1) S0 S) (I0 : bx_Inv rxL S) (hinv : rxIVOF_1 S0 ws S pa n i) (l8 : 0 ≤ pa) (u8 : pa ≤ 5) (l9 : 0 ≤ n) (u9 : n ≤ 12) (l10 : 0 ≤ i) (u10 : i ≤ 11) (l11 : 1 ≤ x11) (u11 : x11 ≤ 12) (l12 : 0 ≤ x12) (u12 : x12 ≤ 5) (f0 : x12 = pa) (f1 : i < x11) (e1 : S 1 5 = x11) (e0 : S 9 i = x12) : (((-1) ≤ n ∧ n ≤ 11) ∧ True) ∧ (True) ∧ rxIVOF_1 S0 ws S pa (n + 1) (i + 1) ∧ rxmVOF_1 S0 ws S pa (n + 1) (i + 1) < rxmVOF_1 S0 ws S pa n i := by
  obtain ⟨rfl, hw, hn, hle, hi⟩ := hinv
  have hk : ((i.toNat : Nat) : Int) = i := Int.toNat_of_nonneg (by omega)
  have ek : (i + 1).toNat = i.toNat + 1 := by omega
  have hb : (fun t => decide (S 9 t = pa)) i = true := decide_eq_true (by rw [e0]; omega)
  exact ⟨⟨⟨by omega, by omega⟩, trivial⟩, trivial, ⟨rfl, hw, by rw [ek, rjCn_t hk.symm hb]; omega, by omega, by omega⟩, by unfold rxmVOF_1; omega⟩
theorem rxgVOF_1_0 {X : (Nat → Int → Int) → Prop} {S0 : Nat → Int → Int} {ws : List Int} (hP : rxPVOF S0 ws) : bx_obC rxL X S0 rxCVOF.2.2.1 (rxIVOF S0 ws) (rxmVOF S0 ws) 1 rxzVOF_1 rxoVOF_1_0 := by
  intro S S_p r r_p hinv hX hin hsm_ hseg
  obtain ⟨I0, I1, h0_, hr_, b_, f_, d_⟩ := bx_cl (evs := [(0, (0, 9), (10, 0), .inr (0, (12, 0))), (0, (0, 1), (0, 5), .inr (0, (11, 0)))]) (fvs := [(2, (12, 0), (8, 0), (0, 0)), (0, (10, 0), (11, 0), (0, 0))]) hseg (by decide +kernel) (by decide +kernel)
  have hinv : rxIVOF_1 S0 ws S (r 8) (r 9) (r 10) := hinv
  rw [← hr_ 8 (by decide), ← hr_ 9 (by decide), ← hr_ 10 (by decide)] at hinv
  obtain ⟨⟨l8, u8⟩, ⟨l9, u9⟩, ⟨l10, u10⟩, ⟨l11, u11⟩, ⟨l12, u12⟩, -⟩ := b_
  obtain ⟨f0, f1, -⟩ := f_
  obtain ⟨e0, ⟨e1, w_⟩⟩ := d_
  subst w_
  have g := rxcVOF_1_0 hP hin I0 hinv l8 u8 l9 u9 l10 u10 l11 u11 l12 u12 f0 f1 e1 e0
  refine ⟨bx_narP_ok (l := [(9, (-1), 11)]) g.1, bx_nfP_ok h0_ (fvs := []) (by decide +kernel) g.2.1, ?_, ?_⟩
  · show rxIVOF_1 S0 ws S_p (bx_val [(0, 0), (0, 0), (0, 0), (0, 0), (0, 0), (0, 0), (0, 0), (0, 0), (8, 0), (9, 1), (10, 1)] r_p 8) (bx_val [(0, 0), (0, 0), (0, 0), (0, 0), (0, 0), (0, 0), (0, 0), (0, 0), (8, 0), (9, 1), (10, 1)] r_p 9) (bx_val [(0, 0), (0, 0), (0, 0), (0, 0), (0, 0), (0, 0), (0, 0), (0, 0), (8, 0), (9, 1), (10, 1)] r_p 10)
    rw [bx_val_x (n := 8) (e := (8, 0)) h0_ rfl, bx_val_x (n := 9) (e := (9, 1)) h0_ rfl, bx_val_x (n := 10) (e := (10, 1)) h0_ rfl]
    exact g.2.2.1
  · show rxmVOF_1 S0 ws S_p (bx_val [(0, 0), (0, 0), (0, 0), (0, 0), (0, 0), (0, 0), (0, 0), (0, 0), (8, 0), (9, 1), (10, 1)] r_p 8) (bx_val [(0, 0), (0, 0), (0, 0), (0, 0), (0, 0), (0, 0), (0, 0), (0, 0), (8, 0), (9, 1), (10, 1)] r_p 9) (bx_val [(0, 0), (0, 0), (0, 0), (0, 0), (0, 0), (0, 0), (0, 0), (0, 0), (8, 0), (9, 1), (10, 1)] r_p 10) < rxmVOF_1 S0 ws S_p (r 8) (r 9) (r 10)
    rw [bx_val_x (n := 8) (e := (8, 0)) h0_ rfl, bx_val_x (n := 9) (e := (9, 1)) h0_ rfl, bx_val_x (n := 10) (e := (10, 1)) h0_ rfl, ← hr_ 8 (by decide), ← hr_ 9 (by decide), ← hr_ 10 (by decide)]
    exact g.2.2.2
theorem rxcVOF_1_1 {S0 : Nat → Int → Int} {ws : List Int} {S : Nat → Int → Int} {pa n i x11 x12 : Int} (hP : rxPVOF S0 ws) (hin : bx_same rxL (bx_mdl rxCVOF.2.2.1) S0 S) (I0 : bx_Inv rxL S) (hinv : rxIVOF_1 S0 ws S pa n i) (l8 : 0 ≤ pa) (u8 : pa ≤ 5) (l9 : 0 ≤ n) (u9 : n ≤ 12) (l10 : 0 ≤ i) (u10 : i ≤ 11) (l11 : 1 ≤ x11) (u11 : x11 ≤ 12) (l12 : 0 ≤ x12) (u12 : x12 ≤ 5) (f0 : x12 ≠ pa) (f1 : i < x11) (e1 : S 1 5 = x11) (e0 : S 9 i = x12) : (True) ∧ (True) ∧ rxIVOF_1 S0 ws S pa n (i + 1) ∧ rxmVOF_1 S0 ws S pa n (i + 1) < rxmVOF_1 S0 ws S pa n i := by
  obtain ⟨rfl, hw, hn, hle, hi⟩ := hinv
  have hk : ((i.toNat : Nat) : Int) = i := Int.toNat_of_nonneg (by omega)
  have ek : (i + 1).toNat = i.toNat + 1 := by omega
  have hb : (fun t => decide (S 9 t = pa)) i = false := decide_eq_false (by rw [e0]; omega)
  exact ⟨trivial, trivial, ⟨rfl, hw, by rw [ek, rjCn_f hk.symm hb]; exact hn, by omega, by omega⟩, by unfold rxmVOF_1; omega⟩
theorem rxgVOF_1_1 {X : (Nat → Int → Int) → Prop} {S0 : Nat → Int → Int} {ws : List Int} (hP : rxPVOF S0 ws) : bx_obC rxL X S0 rxCVOF.2.2.1 (rxIVOF S0 ws) (rxmVOF S0 ws) 1 rxzVOF_1 rxoVOF_1_1 := by
  intro S S_p r r_p hinv hX hin hsm_ hseg
  obtain ⟨I0, I1, h0_, hr_, b_, f_, d_⟩ := bx_cl (evs := [(0, (0, 9), (10, 0), .inr (0, (12, 0))), (0, (0, 1), (0, 5), .inr (0, (11, 0)))]) (fvs := [(3, (12, 0), (8, 0), (0, 0)), (0, (10, 0), (11, 0), (0, 0))]) hseg (by decide +kernel) (by decide +kernel)
  have hinv : rxIVOF_1 S0 ws S (r 8) (r 9) (r 10) := hinv
  rw [← hr_ 8 (by decide), ← hr_ 9 (by decide), ← hr_ 10 (by decide)] at hinv
  obtain ⟨⟨l8, u8⟩, ⟨l9, u9⟩, ⟨l10, u10⟩, ⟨l11, u11⟩, ⟨l12, u12⟩, -⟩ := b_
  obtain ⟨f0, f1, -⟩ := f_
  obtain ⟨e0, ⟨e1, w_⟩⟩ := d_
  subst w_
  have g := rxcVOF_1_1 hP hin I0 hinv l8 u8 l9 u9 l10 u10 l11 u11 l12 u12 f0 f1 e1 e0
  refine ⟨bx_narP_ok (l := []) g.1, bx_nfP_ok h0_ (fvs := []) (by decide +kernel) g.2.1, ?_, ?_⟩
  · show rxIVOF_1 S0 ws S_p (bx_val [(0, 0), (0, 0), (0, 0), (0, 0), (0, 0), (0, 0), (0, 0), (0, 0), (8, 0), (9, 0), (10, 1)] r_p 8) (bx_val [(0, 0), (0, 0), (0, 0), (0, 0), (0, 0), (0, 0), (0, 0), (0, 0), (8, 0), (9, 0), (10, 1)] r_p 9) (bx_val [(0, 0), (0, 0), (0, 0), (0, 0), (0, 0), (0, 0), (0, 0), (0, 0), (8, 0), (9, 0), (10, 1)] r_p 10)
    rw [bx_val_x (n := 8) (e := (8, 0)) h0_ rfl, bx_val_x (n := 9) (e := (9, 0)) h0_ rfl, bx_val_x (n := 10) (e := (10, 1)) h0_ rfl]
    exact g.2.2.1
  · show rxmVOF_1 S0 ws S_p (bx_val [(0, 0), (0, 0), (0, 0), (0, 0), (0, 0), (0, 0), (0, 0), (0, 0), (8, 0), (9, 0), (10, 1)] r_p 8) (bx_val [(0, 0), (0, 0), (0, 0), (0, 0), (0, 0), (0, 0), (0, 0), (0, 0), (8, 0), (9, 0), (10, 1)] r_p 9) (bx_val [(0, 0), (0, 0), (0, 0), (0, 0), (0, 0), (0, 0), (0, 0), (0, 0), (8, 0), (9, 0), (10, 1)] r_p 10) < rxmVOF_1 S0 ws S_p (r 8) (r 9) (r 10)
    rw [bx_val_x (n := 8) (e := (8, 0)) h0_ rfl, bx_val_x (n := 9) (e := (9, 0)) h0_ rfl, bx_val_x (n := 10) (e := (10, 1)) h0_ rfl, ← hr_ 8 (by decide), ← hr_ 9 (by decide), ← hr_ 10 (by decide)]
    exact g.2.2.2
theorem rxdVOF_1_0 {S0 : Nat → Int → Int} {ws : List Int} {S : Nat → Int → Int} {pa n i x11 : Int} (hP : rxPVOF S0 ws) (hin : bx_same rxL (bx_mdl rxCVOF.2.2.1) S0 S) (hin2 : bx_same rxL (bx_mdl rxCVOF.2.2.1) S S) (I0 : bx_Inv rxL S) (I1 : bx_Inv rxL S) (hinv : rxIVOF_1 S0 ws S pa n i) (l8 : 0 ≤ pa) (u8 : pa ≤ 5) (l9 : 0 ≤ n) (u9 : n ≤ 12) (l10 : 0 ≤ i) (u10 : i ≤ 12) (l11 : 0 ≤ x11) (u11 : x11 ≤ 12) (f0 : x11 ≤ i) (e0 : S 1 5 = x11) : (True) ∧ rxPSVOF S0 ws S (some n) := by
  obtain ⟨rfl, hw, hn, hle, hi⟩ := hinv
  exact ⟨trivial, rfl, pa, hw, congrArg some (hn.trans (by rw [show i.toNat = (S 1 5).toNat by omega]))⟩
theorem rxfVOF_1_0 {X : (Nat → Int → Int) → Prop} {S0 : Nat → Int → Int} {ws : List Int} (hP : rxPVOF S0 ws) : bx_obE rxL X S0 rxCVOF.2.2.1 (rxIVOF S0 ws) (rxPSVOF S0 ws) 1 rxzVOF_1 rxeVOF_1_0 := by
  intro S S_p r r_p hinv hX hin hsm_ hseg
  obtain ⟨I0, I1, h0_, hr_, b_, f_, d_⟩ := bx_cl (evs := [(0, (0, 1), (0, 5), .inr (0, (11, 0)))]) (fvs := [(1, (11, 0), (10, 0), (0, 0))]) hseg (by decide +kernel) (by decide +kernel)
  have hinv : rxIVOF_1 S0 ws S (r 8) (r 9) (r 10) := hinv
  rw [← hr_ 8 (by decide), ← hr_ 9 (by decide), ← hr_ 10 (by decide)] at hinv
  obtain ⟨⟨l8, u8⟩, ⟨l9, u9⟩, ⟨l10, u10⟩, ⟨l11, u11⟩, -⟩ := b_
  obtain ⟨f0, -⟩ := f_
  obtain ⟨e0, w_⟩ := d_
  subst w_
  have g := rxdVOF_1_0 hP hin hsm_ I0 I1 hinv l8 u8 l9 u9 l10 u10 l11 u11 f0 e0
  refine ⟨bx_narP_ok (l := []) g.1, ?_⟩
  show rxPSVOF S0 ws S_p (some (bx_num r_p (.inr (0, (9, 0)))))
  rw [bx_xv_ok h0_]
  exact g.2
theorem rxgCVOF {X : (Nat → Int → Int) → Prop} {S0 : Nat → Int → Int} {ws : List Int} (hP : rxPVOF S0 ws) : bx_allI (fun i q => rxUVOF q = true ∨ bx_allP (fun o => bx_obC rxL X S0 rxCVOF.2.2.1 (rxIVOF S0 ws) (rxmVOF S0 ws) i q.1 o) q.2.1) 0 rxYVOF := ⟨Or.inr ⟨rxgVOF_0_0 hP, trivial⟩, Or.inr ⟨rxgVOF_1_0 hP, rxgVOF_1_1 hP, trivial⟩, trivial⟩
theorem rxgEVOF {X : (Nat → Int → Int) → Prop} {S0 : Nat → Int → Int} {ws : List Int} (hP : rxPVOF S0 ws) : bx_allI (fun i q => rxUVOF q = true ∨ bx_allP (fun E => bx_obE rxL X S0 rxCVOF.2.2.1 (rxIVOF S0 ws) (rxPSVOF S0 ws) i q.1 E) q.2.2) 0 rxYVOF := ⟨Or.inr trivial, Or.inr ⟨rxfVOF_1_0 hP, trivial⟩, trivial⟩
theorem rxQVOF {PX : State → Prop} {Dg : va_G} {A : Nat → Prop} {ad xa : Nat → Nat} {l : Launch} {X : (Nat → Int → Int) → Prop} (hPX : rx_PXOK rxNW A PX) (hsl : ∀ s : State, PX s → ∀ o idx n : Nat, rxSl o idx = some n → ∃ tx : String, vk_R (rxNm o) idx tx (ad n) s)
    (hX : ∀ S S_p : Nat → Int → Int, X S → bx_same rxL (bx_mdl rxCVOF.2.2.1) S S_p → X S_p)
    (ih : ∀ (j2 : Nat) (ct2 : bx_Ct) (M2 : rx_Mt), ct2 ∈ rxCnE j2 → ct2.2.2.2.1 + 1 ≤ rxCVOF.2.2.2.1 → rxT.2.2.2.2.2 j2 = some M2 → bx_Con rxG rxNW rxAO PX Dg rxL X vwCl A ad l M2 ct2) : bx_ConP rxG rxNW rxAO PX Dg rxL X vwCl A ad l rxM115 rxCVOF rxPVOF rxPSVOF :=
  rxQof (xa := xa) (Cn := rxCnE) (f := 30000) (j := 115) (tab := rxYVOF) (us := rxUVOF) hPX hsl hX ih rfl rxYcVOF rxIVOF rxmVOF
    (fun S0 ws r I0 I ht0 ht as he he1 hX0 hI0 hP hs ha => by
      have e := he.symm.trans (show bx_ent0 rxNP rxCVOF.1 bx_I0 [] = some ([(0, 0), (0, 0), (0, 0), (0, 0), (0, 0), (0, 0), (0, 0), (0, 0), (0, 5)], [], [.inr (3, (0, 1)), .inr (0, (8, 0))]) from rfl)
      cases e
      subst ha
      have h0 : r 0 = 0 := hs.1
      show rxIVOF_0 S0 _ S0 (r 8)
      refine ⟨rfl, ?_⟩
      simp only [List.map_cons, List.map_nil, bx_xv_ok h0]
      rfl)
    (fun S0 ws hP => fun i q hq hus => absurd (show false = true from hus) Bool.false_ne_true) (fun S0 ws hP => rxgCVOF hP) (fun S0 ws hP => rxgEVOF hP)
/-! CONTRACT BY HAND, by program (wip/sim/genhand.py): DeadUnderstudiesModel.told -/
def rxCTLD : bx_Ct := ([(3, (1, 480, 0)), (0, (0, 22, 694))], some (0, (0, (-2147483648), 2147483647)), [], 0, [])
def rxITLD_0 (S0 : Nat → Int → Int) (ws : List Int) (S : Nat → Int → Int) (at_ : Int) : Prop := S = S0 ∧ ws = [480, at_]
def rxmTLD_0 (S0 : Nat → Int → Int) (ws : List Int) (S : Nat → Int → Int) (at_ : Int) : Nat := 1000
def rxzTLD_0 : rx_Z := ([(0, 0), (0, 0), (0, 0), (0, 0), (0, 0), (0, 0), (0, 0), (0, 0), (22, 694)], [], [], 0, 0, 0, [(0, .inr (3, (0, 480))), (1, .inr (0, (8, 0)))], [])
def rxITLD_1 (S0 : Nat → Int → Int) (ws : List Int) (S : Nat → Int → Int) (at_ n i : Int) : Prop := S = S0 ∧ ws = [480, at_] ∧ n = rjCn (fun t => decide (S0 482 (at_ + t) ≠ -1)) i.toNat ∧ n ≤ i
def rxmTLD_1 (S0 : Nat → Int → Int) (ws : List Int) (S : Nat → Int → Int) (at_ n i : Int) : Nat := (100 - i).toNat
def rxzTLD_1 : rx_Z := ([(0, 0), (0, 0), (0, 0), (0, 0), (0, 0), (0, 0), (0, 0), (0, 0), (22, 694), (0, 36), (0, 36)], [], [], 0, 0, 4, [(0, .inr (3, (0, 480))), (1, .inr (0, (8, 0))), (2, .inr (0, (9, 0))), (3, .inr (0, (10, 0)))], [])
def rxoTLD_0_0 : bx_HO := (([(0, 0), (0, 0), (0, 0), (0, 0), (0, 0), (0, 0), (0, 0), (0, 0), (22, 694)], [], [], 0, 0, 4, [(3, .inr (0, (0, 0))), (2, .inr (0, (0, 0))), (0, .inr (3, (0, 480))), (1, .inr (0, (8, 0)))], []), [], [], [(0, 0), (0, 0), (0, 0), (0, 0), (0, 0), (0, 0), (0, 0), (0, 0), (8, 0), (0, 0), (0, 0)], 1)
def rxoTLD_1_0 : bx_HO := (([(0, 0), (0, 0), (0, 0), (0, 0), (0, 0), (0, 0), (0, 0), (0, 0), (22, 694), (0, 36), (0, 35), (22, 729), ((-1), (-1))], [(604462909807314587353098000000, (11, 0), (8, 0))], [(((0, 0), 1851192626986356797424374018331344491018900889112178922890592256000000), .inr (0, (12, 0))), (((0, 480), 3), .inr (3, (0, 482)))], 0, 0, 4, [(3, .inr (0, (10, 1))), (2, .inr (0, (9, 0))), (0, .inr (3, (0, 480))), (1, .inr (0, (8, 0)))], []), [], [], [(0, 0), (0, 0), (0, 0), (0, 0), (0, 0), (0, 0), (0, 0), (0, 0), (8, 0), (9, 0), (10, 1)], 1)
def rxoTLD_1_1 : bx_HO := (([(0, 0), (0, 0), (0, 0), (0, 0), (0, 0), (0, 0), (0, 0), (0, 0), (22, 694), (0, 36), (0, 35), (22, 729), (0, 300)], [(3, (12, 0), (0, (-1))), (604462909807314587353098000000, (11, 0), (8, 0))], [(((0, 0), 1851192626986356797424374018331344491018900889112178922890592256000000), .inr (0, (12, 0))), (((0, 480), 3), .inr (3, (0, 482)))], 0, 0, 4, [(3, .inr (0, (10, 1))), (2, .inr (0, (9, 1))), (0, .inr (3, (0, 480))), (1, .inr (0, (8, 0)))], []), [(9, (-1), 35)], [], [(0, 0), (0, 0), (0, 0), (0, 0), (0, 0), (0, 0), (0, 0), (0, 0), (8, 0), (9, 1), (10, 1)], 1)
def rxeTLD_1_0 : rx_End × List (Nat × Int × Int) := (([(0, 0), (0, 0), (0, 0), (0, 0), (0, 0), (0, 0), (0, 0), (0, 0), (22, 694), (0, 36), (36, 36)], [], [], some (.inr (0, (9, 0)))), [])
def rxYTLD : List bx_HE := [(rxzTLD_0, [rxoTLD_0_0], []), (rxzTLD_1, [rxoTLD_1_0, rxoTLD_1_1], [rxeTLD_1_0])]
def rxUTLD (q : bx_HE) : Bool := false
def rxYBTLD : bx_B := (rxV, rxNP, rxDmf, bx_mdH rxCTLD.2.2.1)
set_option maxRecDepth 100000 in
theorem rxYcTLD : bx_chkH rxYBTLD rxM260 rxCTLD rxYTLD (rxUTLD, fun cut z => rx_ex2 (rxCT rxYBTLD rxCnE) cut 30000 rxCTLD.2.2.2.1 260 z) = true := by decide +kernel
def rxITLD (S0 : Nat → Int → Int) (ws : List Int) (i : Nat) : bx_SP := fun S r => match i with | 0 => rxITLD_0 S0 ws S (r 8) | 1 => rxITLD_1 S0 ws S (r 8) (r 9) (r 10) | _ => False
def rxmTLD (S0 : Nat → Int → Int) (ws : List Int) (i : Nat) (S : Nat → Int → Int) (r : Nat → Int) : Nat := match i with | 0 => rxmTLD_0 S0 ws S (r 8) | 1 => rxmTLD_1 S0 ws S (r 8) (r 9) (r 10) | _ => 0
def rxPTLD (S0 : Nat → Int → Int) (ws : List Int) : Prop := True
def rxPSTLD (S0 : Nat → Int → Int) (ws : List Int) (S : Nat → Int → Int) (w : Option Int) : Prop := S = S0 ∧ ∃ at_ : Int, ws = [480, at_] ∧ w = some (rjCn (fun t => decide (S0 482 (at_ + t) ≠ -1)) 36)
theorem rxcTLD_0_0 {S0 : Nat → Int → Int} {ws : List Int} {S : Nat → Int → Int} {at_ : Int} (hP : rxPTLD S0 ws) (hin : bx_same rxL (bx_mdl rxCTLD.2.2.1) S0 S) (I0 : bx_Inv rxL S) (hinv : rxITLD_0 S0 ws S at_) (l8 : 22 ≤ at_) (u8 : at_ ≤ 694) : (True) ∧ (True) ∧ rxITLD_1 S0 ws S at_ 0 0 ∧ rxmTLD_1 S0 ws S at_ 0 0 < rxmTLD_0 S0 ws S at_ := by
  obtain ⟨rfl, hw⟩ := hinv
  exact ⟨trivial, trivial, ⟨rfl, hw, rfl, by omega⟩, by unfold rxmTLD_0 rxmTLD_1; omega⟩
theorem rxgTLD_0_0 {X : (Nat → Int → Int) → Prop} {S0 : Nat → Int → Int} {ws : List Int} (hP : rxPTLD S0 ws) : bx_obC rxL X S0 rxCTLD.2.2.1 (rxITLD S0 ws) (rxmTLD S0 ws) 0 rxzTLD_0 rxoTLD_0_0 := by
  intro S S_p r r_p hinv hX hin hsm_ hseg
  obtain ⟨I0, I1, h0_, hr_, b_, f_, d_⟩ := bx_cl (evs := []) (fvs := []) hseg (by decide +kernel) (by decide +kernel)
  have hinv : rxITLD_0 S0 ws S (r 8) := hinv
  rw [← hr_ 8 (by decide)] at hinv
  obtain ⟨⟨l8, u8⟩, -⟩ := b_
  have w_ := d_
  subst w_
  have g := rxcTLD_0_0 hP hin I0 hinv l8 u8
  refine ⟨bx_narP_ok (l := []) g.1, bx_nfP_ok h0_ (fvs := []) (by decide +kernel) g.2.1, ?_, ?_⟩
  · show rxITLD_1 S0 ws S_p (bx_val [(0, 0), (0, 0), (0, 0), (0, 0), (0, 0), (0, 0), (0, 0), (0, 0), (8, 0), (0, 0), (0, 0)] r_p 8) (bx_val [(0, 0), (0, 0), (0, 0), (0, 0), (0, 0), (0, 0), (0, 0), (0, 0), (8, 0), (0, 0), (0, 0)] r_p 9) (bx_val [(0, 0), (0, 0), (0, 0), (0, 0), (0, 0), (0, 0), (0, 0), (0, 0), (8, 0), (0, 0), (0, 0)] r_p 10)
    rw [bx_val_x (n := 8) (e := (8, 0)) h0_ rfl, bx_val_x (n := 9) (e := (0, 0)) h0_ rfl, bx_val_x (n := 10) (e := (0, 0)) h0_ rfl]
    exact g.2.2.1
  · show rxmTLD_1 S0 ws S_p (bx_val [(0, 0), (0, 0), (0, 0), (0, 0), (0, 0), (0, 0), (0, 0), (0, 0), (8, 0), (0, 0), (0, 0)] r_p 8) (bx_val [(0, 0), (0, 0), (0, 0), (0, 0), (0, 0), (0, 0), (0, 0), (0, 0), (8, 0), (0, 0), (0, 0)] r_p 9) (bx_val [(0, 0), (0, 0), (0, 0), (0, 0), (0, 0), (0, 0), (0, 0), (0, 0), (8, 0), (0, 0), (0, 0)] r_p 10) < rxmTLD_0 S0 ws S_p (r 8)
    rw [bx_val_x (n := 8) (e := (8, 0)) h0_ rfl, bx_val_x (n := 9) (e := (0, 0)) h0_ rfl, bx_val_x (n := 10) (e := (0, 0)) h0_ rfl, ← hr_ 8 (by decide)]
    exact g.2.2.2
theorem rxcTLD_1_0 {S0 : Nat → Int → Int} {ws : List Int} {S : Nat → Int → Int} {at_ n i x11 x12 : Int} (hP : rxPTLD S0 ws) (hin : bx_same rxL (bx_mdl rxCTLD.2.2.1) S0 S) (I0 : bx_Inv rxL S) (hinv : rxITLD_1 S0 ws S at_ n i) (l8 : 22 ≤ at_) (u8 : at_ ≤ 694) (l9 : 0 ≤ n) (u9 : n ≤ 36) (l10 : 0 ≤ i) (u10 : i ≤ 35) (l11 : 22 ≤ x11) (u11 : x11 ≤ 729) (l12 : (-1) ≤ x12) (u12 : x12 ≤ (-1)) (f0 : x11 = at_ + i) (e0 : S 482 x11 = x12) : (True) ∧ (True) ∧ rxITLD_1 S0 ws S at_ n (i + 1) ∧ rxmTLD_1 S0 ws S at_ n (i + 1) < rxmTLD_1 S0 ws S at_ n i := by
  obtain ⟨rfl, hw, hn, hle⟩ := hinv
  have hk : ((i.toNat : Nat) : Int) = i := Int.toNat_of_nonneg (by omega)
  have ek : (i + 1).toNat = i.toNat + 1 := by omega
  have ix : x11 = at_ + i := by omega
  have q := e0
  rw [ix] at q
  have hb : (fun t => decide (S 482 (at_ + t) ≠ -1)) i = false := decide_eq_false (fun z => z (by rw [q]; omega))
  exact ⟨trivial, trivial, ⟨rfl, hw, by rw [ek, rjCn_f hk.symm hb]; exact hn, by omega⟩, by unfold rxmTLD_1; omega⟩
theorem rxgTLD_1_0 {X : (Nat → Int → Int) → Prop} {S0 : Nat → Int → Int} {ws : List Int} (hP : rxPTLD S0 ws) : bx_obC rxL X S0 rxCTLD.2.2.1 (rxITLD S0 ws) (rxmTLD S0 ws) 1 rxzTLD_1 rxoTLD_1_0 := by
  intro S S_p r r_p hinv hX hin hsm_ hseg
  obtain ⟨I0, I1, h0_, hr_, b_, f_, d_⟩ := bx_cl (evs := [(0, (0, 482), (11, 0), .inr (0, (12, 0)))]) (fvs := [(5, (11, 0), (8, 0), (10, 0))]) hseg (by decide +kernel) (by decide +kernel)
  have hinv : rxITLD_1 S0 ws S (r 8) (r 9) (r 10) := hinv
  rw [← hr_ 8 (by decide), ← hr_ 9 (by decide), ← hr_ 10 (by decide)] at hinv
  obtain ⟨⟨l8, u8⟩, ⟨l9, u9⟩, ⟨l10, u10⟩, ⟨l11, u11⟩, ⟨l12, u12⟩, -⟩ := b_
  obtain ⟨f0, -⟩ := f_
  obtain ⟨e0, w_⟩ := d_
  subst w_
  have g := rxcTLD_1_0 hP hin I0 hinv l8 u8 l9 u9 l10 u10 l11 u11 l12 u12 f0 e0
  refine ⟨bx_narP_ok (l := []) g.1, bx_nfP_ok h0_ (fvs := []) (by decide +kernel) g.2.1, ?_, ?_⟩
  · show rxITLD_1 S0 ws S_p (bx_val [(0, 0), (0, 0), (0, 0), (0, 0), (0, 0), (0, 0), (0, 0), (0, 0), (8, 0), (9, 0), (10, 1)] r_p 8) (bx_val [(0, 0), (0, 0), (0, 0), (0, 0), (0, 0), (0, 0), (0, 0), (0, 0), (8, 0), (9, 0), (10, 1)] r_p 9) (bx_val [(0, 0), (0, 0), (0, 0), (0, 0), (0, 0), (0, 0), (0, 0), (0, 0), (8, 0), (9, 0), (10, 1)] r_p 10)
    rw [bx_val_x (n := 8) (e := (8, 0)) h0_ rfl, bx_val_x (n := 9) (e := (9, 0)) h0_ rfl, bx_val_x (n := 10) (e := (10, 1)) h0_ rfl]
    exact g.2.2.1
  · show rxmTLD_1 S0 ws S_p (bx_val [(0, 0), (0, 0), (0, 0), (0, 0), (0, 0), (0, 0), (0, 0), (0, 0), (8, 0), (9, 0), (10, 1)] r_p 8) (bx_val [(0, 0), (0, 0), (0, 0), (0, 0), (0, 0), (0, 0), (0, 0), (0, 0), (8, 0), (9, 0), (10, 1)] r_p 9) (bx_val [(0, 0), (0, 0), (0, 0), (0, 0), (0, 0), (0, 0), (0, 0), (0, 0), (8, 0), (9, 0), (10, 1)] r_p 10) < rxmTLD_1 S0 ws S_p (r 8) (r 9) (r 10)
    rw [bx_val_x (n := 8) (e := (8, 0)) h0_ rfl, bx_val_x (n := 9) (e := (9, 0)) h0_ rfl, bx_val_x (n := 10) (e := (10, 1)) h0_ rfl, ← hr_ 8 (by decide), ← hr_ 9 (by decide), ← hr_ 10 (by decide)]
    exact g.2.2.2
theorem rxcTLD_1_1 {S0 : Nat → Int → Int} {ws : List Int} {S : Nat → Int → Int} {at_ n i x11 x12 : Int} (hP : rxPTLD S0 ws) (hin : bx_same rxL (bx_mdl rxCTLD.2.2.1) S0 S) (I0 : bx_Inv rxL S) (hinv : rxITLD_1 S0 ws S at_ n i) (l8 : 22 ≤ at_) (u8 : at_ ≤ 694) (l9 : 0 ≤ n) (u9 : n ≤ 36) (l10 : 0 ≤ i) (u10 : i ≤ 35) (l11 : 22 ≤ x11) (u11 : x11 ≤ 729) (l12 : 0 ≤ x12) (u12 : x12 ≤ 300) (f0 : x12 ≠ (-1)) (f1 : x11 = at_ + i) (e0 : S 482 x11 = x12) : (((-1) ≤ n ∧ n ≤ 35) ∧ True) ∧ (True) ∧ rxITLD_1 S0 ws S at_ (n + 1) (i + 1) ∧ rxmTLD_1 S0 ws S at_ (n + 1) (i + 1) < rxmTLD_1 S0 ws S at_ n i := by
  obtain ⟨rfl, hw, hn, hle⟩ := hinv
  have hk : ((i.toNat : Nat) : Int) = i := Int.toNat_of_nonneg (by omega)
  have ek : (i + 1).toNat = i.toNat + 1 := by omega
  have ix : x11 = at_ + i := by omega
  have q := e0
  rw [ix] at q
  have hb : (fun t => decide (S 482 (at_ + t) ≠ -1)) i = true := decide_eq_true (by rw [q]; omega)
  exact ⟨⟨⟨by omega, by omega⟩, trivial⟩, trivial, ⟨rfl, hw, by rw [ek, rjCn_t hk.symm hb]; omega, by omega⟩, by unfold rxmTLD_1; omega⟩
theorem rxgTLD_1_1 {X : (Nat → Int → Int) → Prop} {S0 : Nat → Int → Int} {ws : List Int} (hP : rxPTLD S0 ws) : bx_obC rxL X S0 rxCTLD.2.2.1 (rxITLD S0 ws) (rxmTLD S0 ws) 1 rxzTLD_1 rxoTLD_1_1 := by
  intro S S_p r r_p hinv hX hin hsm_ hseg
  obtain ⟨I0, I1, h0_, hr_, b_, f_, d_⟩ := bx_cl (evs := [(0, (0, 482), (11, 0), .inr (0, (12, 0)))]) (fvs := [(3, (12, 0), (0, (-1)), (0, 0)), (5, (11, 0), (8, 0), (10, 0))]) hseg (by decide +kernel) (by decide +kernel)
  have hinv : rxITLD_1 S0 ws S (r 8) (r 9) (r 10) := hinv
  rw [← hr_ 8 (by decide), ← hr_ 9 (by decide), ← hr_ 10 (by decide)] at hinv
  obtain ⟨⟨l8, u8⟩, ⟨l9, u9⟩, ⟨l10, u10⟩, ⟨l11, u11⟩, ⟨l12, u12⟩, -⟩ := b_
  obtain ⟨f0, f1, -⟩ := f_
  obtain ⟨e0, w_⟩ := d_
  subst w_
  have g := rxcTLD_1_1 hP hin I0 hinv l8 u8 l9 u9 l10 u10 l11 u11 l12 u12 f0 f1 e0
  refine ⟨bx_narP_ok (l := [(9, (-1), 35)]) g.1, bx_nfP_ok h0_ (fvs := []) (by decide +kernel) g.2.1, ?_, ?_⟩
  · show rxITLD_1 S0 ws S_p (bx_val [(0, 0), (0, 0), (0, 0), (0, 0), (0, 0), (0, 0), (0, 0), (0, 0), (8, 0), (9, 1), (10, 1)] r_p 8) (bx_val [(0, 0), (0, 0), (0, 0), (0, 0), (0, 0), (0, 0), (0, 0), (0, 0), (8, 0), (9, 1), (10, 1)] r_p 9) (bx_val [(0, 0), (0, 0), (0, 0), (0, 0), (0, 0), (0, 0), (0, 0), (0, 0), (8, 0), (9, 1), (10, 1)] r_p 10)
    rw [bx_val_x (n := 8) (e := (8, 0)) h0_ rfl, bx_val_x (n := 9) (e := (9, 1)) h0_ rfl, bx_val_x (n := 10) (e := (10, 1)) h0_ rfl]
    exact g.2.2.1
  · show rxmTLD_1 S0 ws S_p (bx_val [(0, 0), (0, 0), (0, 0), (0, 0), (0, 0), (0, 0), (0, 0), (0, 0), (8, 0), (9, 1), (10, 1)] r_p 8) (bx_val [(0, 0), (0, 0), (0, 0), (0, 0), (0, 0), (0, 0), (0, 0), (0, 0), (8, 0), (9, 1), (10, 1)] r_p 9) (bx_val [(0, 0), (0, 0), (0, 0), (0, 0), (0, 0), (0, 0), (0, 0), (0, 0), (8, 0), (9, 1), (10, 1)] r_p 10) < rxmTLD_1 S0 ws S_p (r 8) (r 9) (r 10)
    rw [bx_val_x (n := 8) (e := (8, 0)) h0_ rfl, bx_val_x (n := 9) (e := (9, 1)) h0_ rfl, bx_val_x (n := 10) (e := (10, 1)) h0_ rfl, ← hr_ 8 (by decide), ← hr_ 9 (by decide), ← hr_ 10 (by decide)]
    exact g.2.2.2
theorem rxdTLD_1_0 {S0 : Nat → Int → Int} {ws : List Int} {S : Nat → Int → Int} {at_ n i : Int} (hP : rxPTLD S0 ws) (hin : bx_same rxL (bx_mdl rxCTLD.2.2.1) S0 S) (hin2 : bx_same rxL (bx_mdl rxCTLD.2.2.1) S S) (I0 : bx_Inv rxL S) (I1 : bx_Inv rxL S) (hinv : rxITLD_1 S0 ws S at_ n i) (l8 : 22 ≤ at_) (u8 : at_ ≤ 694) (l9 : 0 ≤ n) (u9 : n ≤ 36) (l10 : 36 ≤ i) (u10 : i ≤ 36) : (True) ∧ rxPSTLD S0 ws S (some n) := by
  obtain ⟨rfl, hw, hn, hle⟩ := hinv
  exact ⟨trivial, rfl, at_, hw, congrArg some (hn.trans (by rw [show i.toNat = 36 by omega]))⟩
theorem rxfTLD_1_0 {X : (Nat → Int → Int) → Prop} {S0 : Nat → Int → Int} {ws : List Int} (hP : rxPTLD S0 ws) : bx_obE rxL X S0 rxCTLD.2.2.1 (rxITLD S0 ws) (rxPSTLD S0 ws) 1 rxzTLD_1 rxeTLD_1_0 := by
  intro S S_p r r_p hinv hX hin hsm_ hseg
  obtain ⟨I0, I1, h0_, hr_, b_, f_, d_⟩ := bx_cl (evs := []) (fvs := []) hseg (by decide +kernel) (by decide +kernel)
  have hinv : rxITLD_1 S0 ws S (r 8) (r 9) (r 10) := hinv
  rw [← hr_ 8 (by decide), ← hr_ 9 (by decide), ← hr_ 10 (by decide)] at hinv
  obtain ⟨⟨l8, u8⟩, ⟨l9, u9⟩, ⟨l10, u10⟩, -⟩ := b_
  have w_ := d_
  subst w_
  have g := rxdTLD_1_0 hP hin hsm_ I0 I1 hinv l8 u8 l9 u9 l10 u10
  refine ⟨bx_narP_ok (l := []) g.1, ?_⟩
  show rxPSTLD S0 ws S_p (some (bx_num r_p (.inr (0, (9, 0)))))
  rw [bx_xv_ok h0_]
  exact g.2
theorem rxgCTLD {X : (Nat → Int → Int) → Prop} {S0 : Nat → Int → Int} {ws : List Int} (hP : rxPTLD S0 ws) : bx_allI (fun i q => rxUTLD q = true ∨ bx_allP (fun o => bx_obC rxL X S0 rxCTLD.2.2.1 (rxITLD S0 ws) (rxmTLD S0 ws) i q.1 o) q.2.1) 0 rxYTLD := ⟨Or.inr ⟨rxgTLD_0_0 hP, trivial⟩, Or.inr ⟨rxgTLD_1_0 hP, rxgTLD_1_1 hP, trivial⟩, trivial⟩
theorem rxgETLD {X : (Nat → Int → Int) → Prop} {S0 : Nat → Int → Int} {ws : List Int} (hP : rxPTLD S0 ws) : bx_allI (fun i q => rxUTLD q = true ∨ bx_allP (fun E => bx_obE rxL X S0 rxCTLD.2.2.1 (rxITLD S0 ws) (rxPSTLD S0 ws) i q.1 E) q.2.2) 0 rxYTLD := ⟨Or.inr trivial, Or.inr ⟨rxfTLD_1_0 hP, trivial⟩, trivial⟩
theorem rxQTLD {PX : State → Prop} {Dg : va_G} {A : Nat → Prop} {ad xa : Nat → Nat} {l : Launch} {X : (Nat → Int → Int) → Prop} (hPX : rx_PXOK rxNW A PX) (hsl : ∀ s : State, PX s → ∀ o idx n : Nat, rxSl o idx = some n → ∃ tx : String, vk_R (rxNm o) idx tx (ad n) s)
    (hX : ∀ S S_p : Nat → Int → Int, X S → bx_same rxL (bx_mdl rxCTLD.2.2.1) S S_p → X S_p)
    (ih : ∀ (j2 : Nat) (ct2 : bx_Ct) (M2 : rx_Mt), ct2 ∈ rxCnE j2 → ct2.2.2.2.1 + 1 ≤ rxCTLD.2.2.2.1 → rxT.2.2.2.2.2 j2 = some M2 → bx_Con rxG rxNW rxAO PX Dg rxL X vwCl A ad l M2 ct2) : bx_ConP rxG rxNW rxAO PX Dg rxL X vwCl A ad l rxM260 rxCTLD rxPTLD rxPSTLD :=
  rxQof (xa := xa) (Cn := rxCnE) (f := 30000) (j := 260) (tab := rxYTLD) (us := rxUTLD) hPX hsl hX ih rfl rxYcTLD rxITLD rxmTLD
    (fun S0 ws r I0 I ht0 ht as he he1 hX0 hI0 hP hs ha => by
      have e := he.symm.trans (show bx_ent0 rxNP rxCTLD.1 bx_I0 [] = some ([(0, 0), (0, 0), (0, 0), (0, 0), (0, 0), (0, 0), (0, 0), (0, 0), (22, 694)], [], [.inr (3, (0, 480)), .inr (0, (8, 0))]) from rfl)
      cases e
      subst ha
      have h0 : r 0 = 0 := hs.1
      show rxITLD_0 S0 _ S0 (r 8)
      refine ⟨rfl, ?_⟩
      simp only [List.map_cons, List.map_nil, bx_xv_ok h0]
      rfl)
    (fun S0 ws hP => fun i q hq hus => absurd (show false = true from hus) Bool.false_ne_true) (fun S0 ws hP => rxgCTLD hP) (fun S0 ws hP => rxgETLD hP)
