/-! CONTRACT BY HAND, by program (wip/sim/genhand.py): DeadUnderstudies$Reader.isWord -/
def rxI59_0 (S0 : Nat → Int → Int) (ws : List Int) (S : Nat → Int → Int) (tx : Int) : Prop := S = S0 ∧ ws = [412, tx]
def rxm59_0 (S0 : Nat → Int → Int) (ws : List Int) (S : Nat → Int → Int) (tx : Int) : Nat := 1000000
def rxz59_0 : rx_Z := ([(0, 0), (0, 0), (0, 0), (0, 0), (0, 0), (0, 0), (0, 0), (0, 0), (0, 1522)], [], [(((0, 412), 0), .inr (3, (0, 411))), (((8, 0), 1000021), .inl none)], 0, 0, 0, [(0, .inr (3, (0, 412))), (1, .inr (3, (8, 0)))], [])
def rxI59_1 (S0 : Nat → Int → Int) (ws : List Int) (S : Nat → Int → Int) (tx d : Int) : Prop := S = S0 ∧ ws = [412, tx] ∧ d = S 412 3 - S 412 2
def rxm59_1 (S0 : Nat → Int → Int) (ws : List Int) (S : Nat → Int → Int) (tx d : Int) : Nat := 900000
def rxz59_1 : rx_Z := ([(0, 0), (0, 0), (0, 0), (0, 0), (0, 0), (0, 0), (0, 0), (0, 0), (0, 1522), ((-400), 400)], [], [(((8, 0), 1000021), .inl none), (((0, 412), 0), .inr (3, (0, 411)))], 0, 0, 10, [(0, .inr (3, (0, 412))), (1, .inr (3, (8, 0)))], [.inr (3, (8, 0)), .inr (0, (9, 0))])
def rxI59_2 (S0 : Nat → Int → Int) (ws : List Int) (S : Nat → Int → Int) (tx d n : Int) : Prop := S = S0 ∧ ws = [412, tx] ∧ d = S 412 3 - S 412 2 ∧ n = rxLn tx
def rxm59_2 (S0 : Nat → Int → Int) (ws : List Int) (S : Nat → Int → Int) (tx d n : Int) : Nat := 800000
def rxz59_2 : rx_Z := ([(0, 0), (0, 0), (0, 0), (0, 0), (0, 0), (0, 0), (0, 0), (0, 0), (0, 1522), ((-400), 400), (0, 999)], [], [(((8, 0), 1000021), .inl none), (((0, 412), 0), .inr (3, (0, 411)))], 0, 0, 13, [(0, .inr (3, (0, 412))), (1, .inr (3, (8, 0)))], [.inr (0, (10, 0)), .inr (0, (9, 0))])
def rxI59_3 (S0 : Nat → Int → Int) (ws : List Int) (S : Nat → Int → Int) (tx i : Int) : Prop := S = S0 ∧ ws = [412, tx] ∧ S 412 3 - S 412 2 = rxLn tx ∧ S 412 3 ≤ S 412 1
def rxm59_3 (S0 : Nat → Int → Int) (ws : List Int) (S : Nat → Int → Int) (tx i : Int) : Nat := 100 * (500 - i).toNat + 50
def rxz59_3 : rx_Z := ([(0, 0), (0, 0), (0, 0), (0, 0), (0, 0), (0, 0), (0, 0), (0, 0), (0, 1522), (0, 400)], [], [(((8, 0), 1000021), .inl none), (((0, 412), 0), .inr (3, (0, 411)))], 0, 0, 31, [(0, .inr (3, (0, 412))), (1, .inr (3, (8, 0))), (2, .inr (0, (9, 0)))], [])
def rxI59_4 (S0 : Nat → Int → Int) (ws : List Int) (S : Nat → Int → Int) (tx i i2 : Int) : Prop := i2 = i ∧ S = S0 ∧ ws = [412, tx] ∧ S 412 3 - S 412 2 = rxLn tx ∧ S 412 3 ≤ S 412 1
def rxm59_4 (S0 : Nat → Int → Int) (ws : List Int) (S : Nat → Int → Int) (tx i i2 : Int) : Nat := 100 * (500 - i).toNat + 40
def rxz59_4 : rx_Z := ([(0, 0), (0, 0), (0, 0), (0, 0), (0, 0), (0, 0), (0, 0), (0, 0), (0, 1522), (0, 400), (0, 400)], [], [(((8, 0), 1000021), .inl none), (((0, 412), 0), .inr (3, (0, 411)))], 0, 0, 33, [(0, .inr (3, (0, 412))), (1, .inr (3, (8, 0))), (2, .inr (0, (9, 0)))], [.inr (3, (8, 0)), .inr (0, (10, 0))])
def rxI59_5 (S0 : Nat → Int → Int) (ws : List Int) (S : Nat → Int → Int) (tx i i2 n : Int) : Prop := i2 = i ∧ n = rxLn tx ∧ S = S0 ∧ ws = [412, tx] ∧ S 412 3 - S 412 2 = rxLn tx ∧ S 412 3 ≤ S 412 1
def rxm59_5 (S0 : Nat → Int → Int) (ws : List Int) (S : Nat → Int → Int) (tx i i2 n : Int) : Nat := 100 * (500 - i).toNat + 30
def rxz59_5 : rx_Z := ([(0, 0), (0, 0), (0, 0), (0, 0), (0, 0), (0, 0), (0, 0), (0, 0), (0, 1522), (0, 400), (0, 400), (0, 999)], [], [(((8, 0), 1000021), .inl none), (((0, 412), 0), .inr (3, (0, 411)))], 0, 0, 36, [(0, .inr (3, (0, 412))), (1, .inr (3, (8, 0))), (2, .inr (0, (9, 0)))], [.inr (0, (11, 0)), .inr (0, (10, 0))])
def rxI59_6 (S0 : Nat → Int → Int) (ws : List Int) (S : Nat → Int → Int) (tx i ix : Int) : Prop := i < rxLn tx ∧ S = S0 ∧ ws = [412, tx] ∧ S 412 3 - S 412 2 = rxLn tx ∧ S 412 3 ≤ S 412 1
def rxm59_6 (S0 : Nat → Int → Int) (ws : List Int) (S : Nat → Int → Int) (tx i ix : Int) : Nat := 100 * (500 - i).toNat + 20
def rxz59_6 : rx_Z := ([(0, 0), (0, 0), (0, 0), (0, 0), (0, 0), (0, 0), (0, 0), (0, 0), (0, 1522), (0, 399), (0, 399)], [], [(((8, 0), 1000021), .inl none), (((0, 412), 0), .inr (3, (0, 411)))], 0, 0, 49, [(0, .inr (3, (0, 412))), (1, .inr (3, (8, 0))), (2, .inr (0, (9, 0)))], [.inr (0, (10, 0)), .inr (3, (0, 411))])
def rxI59_7 (S0 : Nat → Int → Int) (ws : List Int) (S : Nat → Int → Int) (tx i cv i3 : Int) : Prop := i3 = i ∧ i < rxLn tx ∧ S = S0 ∧ ws = [412, tx] ∧ S 412 3 - S 412 2 = rxLn tx ∧ S 412 3 ≤ S 412 1
def rxm59_7 (S0 : Nat → Int → Int) (ws : List Int) (S : Nat → Int → Int) (tx i cv i3 : Int) : Nat := 100 * (500 - i).toNat + 10
def rxz59_7 : rx_Z := ([(0, 0), (0, 0), (0, 0), (0, 0), (0, 0), (0, 0), (0, 0), (0, 0), (0, 1522), (0, 399), (0, 255), (0, 399)], [], [(((8, 0), 1000021), .inl none), (((0, 412), 0), .inr (3, (0, 411)))], 0, 0, 52, [(0, .inr (3, (0, 412))), (1, .inr (3, (8, 0))), (2, .inr (0, (9, 0)))], [.inr (0, (11, 0)), .inr (3, (8, 0)), .inr (0, (10, 0))])
def rxI59_8 (S0 : Nat → Int → Int) (ws : List Int) (S : Nat → Int → Int) (tx i cv i3 ch : Int) : Prop := i < rxLn tx ∧ S = S0 ∧ ws = [412, tx] ∧ S 412 3 - S 412 2 = rxLn tx ∧ S 412 3 ≤ S 412 1
def rxm59_8 (S0 : Nat → Int → Int) (ws : List Int) (S : Nat → Int → Int) (tx i cv i3 ch : Int) : Nat := 100 * (500 - i).toNat + 5
def rxz59_8 : rx_Z := ([(0, 0), (0, 0), (0, 0), (0, 0), (0, 0), (0, 0), (0, 0), (0, 0), (0, 1522), (0, 399), (0, 255), (0, 399), (0, 255)], [], [(((8, 0), 1000021), .inl none), (((0, 412), 0), .inr (3, (0, 411)))], 0, 0, 55, [(0, .inr (3, (0, 412))), (1, .inr (3, (8, 0))), (2, .inr (0, (9, 0)))], [.inr (0, (12, 0)), .inr (0, (10, 0))])
def rxo59_0_0 : bx_HO := (([(0, 0), (0, 0), (0, 0), (0, 0), (0, 0), (0, 0), (0, 0), (0, 0), (0, 1522), (0, 400), (0, 400), ((-400), 400)], [(604462909807314587353098000000, (9, 0), (11, 0))], [(((0, 0), 1851192626986356797825753743950570534658660943933713684904017920000000), .inr (0, (10, 0))), (((0, 412), 2), .inr (0, (10, 0))), (((0, 0), 1851192626986356798026460450737346142932482408387548938457841664000000), .inr (0, (9, 0))), (((0, 412), 3), .inr (0, (9, 0))), (((0, 412), 0), .inr (3, (0, 411))), (((8, 0), 1000021), .inl none)], 0, 0, 10, [(0, .inr (3, (0, 412))), (1, .inr (3, (8, 0)))], [.inr (3, (8, 0)), .inr (0, (11, 0))]), [], [], [(0, 0), (0, 0), (0, 0), (0, 0), (0, 0), (0, 0), (0, 0), (0, 0), (8, 0), (11, 0)], 1)
def rxo59_2_0 : bx_HO := (([(0, 0), (0, 0), (0, 0), (0, 0), (0, 0), (0, 0), (0, 0), (0, 0), (0, 1522), (0, 400), (0, 400), (0, 400), (0, 400)], [(1, (11, 0), (12, 0)), (2, (9, 0), (10, 0))], [(((0, 0), 1851192626986356797625047037163794926384839479479878431350194176000000), .inr (0, (12, 0))), (((0, 412), 1), .inr (0, (12, 0))), (((0, 0), 1851192626986356798026460450737346142932482408387548938457841664000000), .inr (0, (11, 0))), (((0, 412), 3), .inr (0, (11, 0))), (((8, 0), 1000021), .inl none), (((0, 412), 0), .inr (3, (0, 411)))], 0, 0, 31, [(2, .inr (0, (0, 0))), (0, .inr (3, (0, 412))), (1, .inr (3, (8, 0)))], []), [], [], [(0, 0), (0, 0), (0, 0), (0, 0), (0, 0), (0, 0), (0, 0), (0, 0), (8, 0), (0, 0)], 3)
def rxe59_2_0 : rx_End × List (Nat × Int × Int) := (([(0, 0), (0, 0), (0, 0), (0, 0), (0, 0), (0, 0), (0, 0), (0, 0), (0, 1522), (0, 400), (0, 400), (1, 400), (0, 399)], [(0, (12, 0), (11, 0)), (2, (9, 0), (10, 0))], [(((0, 0), 1851192626986356797625047037163794926384839479479878431350194176000000), .inr (0, (12, 0))), (((0, 412), 1), .inr (0, (12, 0))), (((0, 0), 1851192626986356798026460450737346142932482408387548938457841664000000), .inr (0, (11, 0))), (((0, 412), 3), .inr (0, (11, 0))), (((8, 0), 1000021), .inl none), (((0, 412), 0), .inr (3, (0, 411)))], some (.inr (0, (0, 0)))), [])
def rxe59_2_1 : rx_End × List (Nat × Int × Int) := (([(0, 0), (0, 0), (0, 0), (0, 0), (0, 0), (0, 0), (0, 0), (0, 0), (0, 1522), ((-400), 400), (0, 999)], [(3, (9, 0), (10, 0))], [(((8, 0), 1000021), .inl none), (((0, 412), 0), .inr (3, (0, 411)))], some (.inr (0, (0, 0)))), [])
def rxo59_3_0 : bx_HO := (([(0, 0), (0, 0), (0, 0), (0, 0), (0, 0), (0, 0), (0, 0), (0, 0), (0, 1522), (0, 400)], [], [(((8, 0), 1000021), .inl none), (((0, 412), 0), .inr (3, (0, 411)))], 0, 0, 33, [(0, .inr (3, (0, 412))), (1, .inr (3, (8, 0))), (2, .inr (0, (9, 0)))], [.inr (3, (8, 0)), .inr (0, (9, 0))]), [], [], [(0, 0), (0, 0), (0, 0), (0, 0), (0, 0), (0, 0), (0, 0), (0, 0), (8, 0), (9, 0), (9, 0)], 4)
def rxo59_5_0 : bx_HO := (([(0, 0), (0, 0), (0, 0), (0, 0), (0, 0), (0, 0), (0, 0), (0, 0), (0, 1522), (0, 400), (0, 400), (1, 999), (0, 400), (0, 800)], [(604462909807314587353097000000, (13, 0), (12, 0)), (0, (10, 0), (11, 0))], [(((0, 0), 1851192626986356797825753743950570534658660943933713684904017920000000), .inr (0, (12, 0))), (((0, 412), 2), .inr (0, (12, 0))), (((8, 0), 1000021), .inl none), (((0, 412), 0), .inr (3, (0, 411)))], 0, 0, 49, [(0, .inr (3, (0, 412))), (1, .inr (3, (8, 0))), (2, .inr (0, (9, 0)))], [.inr (0, (13, 0)), .inr (3, (0, 411))]), [(9, 0, 399), (13, 0, 399)], [], [(0, 0), (0, 0), (0, 0), (0, 0), (0, 0), (0, 0), (0, 0), (0, 0), (8, 0), (9, 0), (13, 0)], 6)
def rxe59_5_0 : rx_End × List (Nat × Int × Int) := (([(0, 0), (0, 0), (0, 0), (0, 0), (0, 0), (0, 0), (0, 0), (0, 0), (0, 1522), (0, 400), (0, 400), (0, 400)], [(1, (11, 0), (10, 0))], [(((8, 0), 1000021), .inl none), (((0, 412), 0), .inr (3, (0, 411)))], some (.inr (0, (0, 1)))), [])
def rxo59_6_0 : bx_HO := (([(0, 0), (0, 0), (0, 0), (0, 0), (0, 0), (0, 0), (0, 0), (0, 0), (0, 1522), (0, 399), (0, 399), (0, 255)], [], [(((0, 0), 1851192626986356797424370955790042202572729718740712036934811648000000), .inr (0, (11, 0))), (((8, 0), 1000021), .inl none), (((0, 412), 0), .inr (3, (0, 411)))], 0, 0, 52, [(0, .inr (3, (0, 412))), (1, .inr (3, (8, 0))), (2, .inr (0, (9, 0)))], [.inr (0, (9, 0)), .inr (3, (8, 0)), .inr (0, (11, 0))]), [], [], [(0, 0), (0, 0), (0, 0), (0, 0), (0, 0), (0, 0), (0, 0), (0, 0), (8, 0), (9, 0), (11, 0), (9, 0)], 7)
def rxo59_8_0 : bx_HO := (([(0, 0), (0, 0), (0, 0), (0, 0), (0, 0), (0, 0), (0, 0), (0, 0), (0, 1522), (0, 399), (0, 255), (0, 399), (0, 255)], [(2, (10, 0), (12, 0))], [(((8, 0), 1000021), .inl none), (((0, 412), 0), .inr (3, (0, 411)))], 0, 0, 31, [(2, .inr (0, (9, 1))), (0, .inr (3, (0, 412))), (1, .inr (3, (8, 0)))], []), [], [], [(0, 0), (0, 0), (0, 0), (0, 0), (0, 0), (0, 0), (0, 0), (0, 0), (8, 0), (9, 1)], 3)
def rxe59_8_0 : rx_End × List (Nat × Int × Int) := (([(0, 0), (0, 0), (0, 0), (0, 0), (0, 0), (0, 0), (0, 0), (0, 0), (0, 1522), (0, 399), (0, 255), (0, 399), (0, 255)], [(3, (10, 0), (12, 0))], [(((8, 0), 1000021), .inl none), (((0, 412), 0), .inr (3, (0, 411)))], some (.inr (0, (0, 0)))), [])
def rxY59 : List bx_HE := [(rxz59_0, [rxo59_0_0], []), (rxz59_1, [], []), (rxz59_2, [rxo59_2_0], [rxe59_2_0, rxe59_2_1]), (rxz59_3, [rxo59_3_0], []), (rxz59_4, [], []), (rxz59_5, [rxo59_5_0], [rxe59_5_0]), (rxz59_6, [rxo59_6_0], []), (rxz59_7, [], []), (rxz59_8, [rxo59_8_0], [rxe59_8_0])]
def rxU59 (q : bx_HE) : Bool := Nat.beq (rx_zpc q.1) 10 || Nat.beq (rx_zpc q.1) 33 || Nat.beq (rx_zpc q.1) 52
def rxYB59 : bx_B := (rxV, rxNP, rxDmf, bx_mdH rxC59.2.2.1)
set_option maxRecDepth 100000 in
theorem rxYc59 : bx_chkH rxYB59 rxM59 rxC59 rxY59 (rxU59, fun cut z => rx_ex2 (rxCT rxYB59 rxCnE) cut 30000 rxC59.2.2.2.1 59 z) = true := by decide +kernel
def rxI59 (S0 : Nat → Int → Int) (ws : List Int) (i : Nat) : bx_SP := fun S r => match i with | 0 => rxI59_0 S0 ws S (r 8) | 1 => rxI59_1 S0 ws S (r 8) (r 9) | 2 => rxI59_2 S0 ws S (r 8) (r 9) (r 10) | 3 => rxI59_3 S0 ws S (r 8) (r 9) | 4 => rxI59_4 S0 ws S (r 8) (r 9) (r 10) | 5 => rxI59_5 S0 ws S (r 8) (r 9) (r 10) (r 11) | 6 => rxI59_6 S0 ws S (r 8) (r 9) (r 10) | 7 => rxI59_7 S0 ws S (r 8) (r 9) (r 10) (r 11) | 8 => rxI59_8 S0 ws S (r 8) (r 9) (r 10) (r 11) (r 12) | _ => False
def rxm59 (S0 : Nat → Int → Int) (ws : List Int) (i : Nat) (S : Nat → Int → Int) (r : Nat → Int) : Nat := match i with | 0 => rxm59_0 S0 ws S (r 8) | 1 => rxm59_1 S0 ws S (r 8) (r 9) | 2 => rxm59_2 S0 ws S (r 8) (r 9) (r 10) | 3 => rxm59_3 S0 ws S (r 8) (r 9) | 4 => rxm59_4 S0 ws S (r 8) (r 9) (r 10) | 5 => rxm59_5 S0 ws S (r 8) (r 9) (r 10) (r 11) | 6 => rxm59_6 S0 ws S (r 8) (r 9) (r 10) | 7 => rxm59_7 S0 ws S (r 8) (r 9) (r 10) (r 11) | 8 => rxm59_8 S0 ws S (r 8) (r 9) (r 10) (r 11) (r 12) | _ => 0
def rxP59 (S0 : Nat → Int → Int) (ws : List Int) : Prop := ∃ tx : Int, ws = [412, tx] ∧ 522 ≤ tx ∧ tx < 547
def rxPS59 (S0 : Nat → Int → Int) (ws : List Int) (S : Nat → Int → Int) (w : Option Int) : Prop := True
theorem rxq59_1 {S0 : Nat → Int → Int} {ws : List Int} {S : Nat → Int → Int} {tx d : Int} (hP : rxP59 S0 ws) (hin : bx_same rxL (bx_mdl rxC59.2.2.1) S0 S) (I0 : bx_Inv rxL S) (hinv : rxI59_1 S0 ws S tx d) (l8 : 0 ≤ tx) (u8 : tx ≤ 1522) (l9 : (-400) ≤ d) (u9 : d ≤ 400) : (522 ≤ tx ∧ tx < 547) ∧ ∀ n : Int, n = rxLn tx → (0 ≤ n ∧ n ≤ 999) → rxI59_2 S0 ws S tx d n ∧ rxm59_2 S0 ws S tx d n < rxm59_1 S0 ws S tx d := by
  obtain ⟨rfl, hw, hd⟩ := hinv
  obtain ⟨tx2, hw2, x1, x2⟩ := hP
  have hx : tx = tx2 := Option.some.inj (congrArg (fun l => l[1]?) (hw.symm.trans hw2))
  have hl := rxLn_box (k := tx)
  exact ⟨⟨by omega, by omega⟩, fun n hn hb => ⟨⟨rfl, hw, hd, hn⟩, by unfold rxm59_1 rxm59_2; omega⟩⟩
theorem rxs59_1 {X : (Nat → Int → Int) → Prop} {S0 : Nat → Int → Int} {ws : List Int} (hP : rxP59 S0 ws) : rx_obT X S0 rxC59.2.2.1 (rxI59 S0 ws) (rxm59 S0 ws) 1 2 rxz59_1 (8, 0) none 0 999 := by
  intro S r hinv hXS I0 hin hs_ hf_
  have b_ := bx_bds_sat hs_
  obtain ⟨⟨l8, u8⟩, ⟨l9, u9⟩, -⟩ := b_
  have g := rxq59_1 hP hin I0 hinv l8 u8 l9 u9
  rw [bx_x_ok hs_.1]
  refine ⟨g.1, fun a ha => absurd ha (by simp), fun r_p hr h0_ hv hb => ?_⟩
  · have g2 := g.2 (r_p 10) (hv rfl) hb
    show rxI59_2 S0 ws S (r_p 8) (r_p 9) (r_p 10) ∧ rxm59_2 S0 ws S (r_p 8) (r_p 9) (r_p 10) < _
    rw [hr 8 (by decide), hr 9 (by decide)]
    exact g2
theorem rxq59_4 {S0 : Nat → Int → Int} {ws : List Int} {S : Nat → Int → Int} {tx i i2 : Int} (hP : rxP59 S0 ws) (hin : bx_same rxL (bx_mdl rxC59.2.2.1) S0 S) (I0 : bx_Inv rxL S) (hinv : rxI59_4 S0 ws S tx i i2) (l8 : 0 ≤ tx) (u8 : tx ≤ 1522) (l9 : 0 ≤ i) (u9 : i ≤ 400) (l10 : 0 ≤ i2) (u10 : i2 ≤ 400) : (522 ≤ tx ∧ tx < 547) ∧ ∀ n : Int, n = rxLn tx → (0 ≤ n ∧ n ≤ 999) → rxI59_5 S0 ws S tx i i2 n ∧ rxm59_5 S0 ws S tx i i2 n < rxm59_4 S0 ws S tx i i2 := by
  obtain ⟨hi, rfl, hw, h1, h2⟩ := hinv
  obtain ⟨tx2, hw2, x1, x2⟩ := hP
  have hx : tx = tx2 := Option.some.inj (congrArg (fun l => l[1]?) (hw.symm.trans hw2))
  have hl := rxLn_box (k := tx)
  exact ⟨⟨by omega, by omega⟩, fun n hn hb => ⟨⟨hi, hn, rfl, hw, h1, h2⟩, by unfold rxm59_4 rxm59_5; omega⟩⟩
theorem rxs59_4 {X : (Nat → Int → Int) → Prop} {S0 : Nat → Int → Int} {ws : List Int} (hP : rxP59 S0 ws) : rx_obT X S0 rxC59.2.2.1 (rxI59 S0 ws) (rxm59 S0 ws) 4 5 rxz59_4 (8, 0) none 0 999 := by
  intro S r hinv hXS I0 hin hs_ hf_
  have b_ := bx_bds_sat hs_
  obtain ⟨⟨l8, u8⟩, ⟨l9, u9⟩, ⟨l10, u10⟩, -⟩ := b_
  have g := rxq59_4 hP hin I0 hinv l8 u8 l9 u9 l10 u10
  rw [bx_x_ok hs_.1]
  refine ⟨g.1, fun a ha => absurd ha (by simp), fun r_p hr h0_ hv hb => ?_⟩
  · have g2 := g.2 (r_p 11) (hv rfl) hb
    show rxI59_5 S0 ws S (r_p 8) (r_p 9) (r_p 10) (r_p 11) ∧ rxm59_5 S0 ws S (r_p 8) (r_p 9) (r_p 10) (r_p 11) < _
    rw [hr 8 (by decide), hr 9 (by decide), hr 10 (by decide)]
    exact g2
theorem rxq59_7 {S0 : Nat → Int → Int} {ws : List Int} {S : Nat → Int → Int} {tx i cv i3 : Int} (hP : rxP59 S0 ws) (hin : bx_same rxL (bx_mdl rxC59.2.2.1) S0 S) (I0 : bx_Inv rxL S) (hinv : rxI59_7 S0 ws S tx i cv i3) (l8 : 0 ≤ tx) (u8 : tx ≤ 1522) (l9 : 0 ≤ i) (u9 : i ≤ 399) (l10 : 0 ≤ cv) (u10 : cv ≤ 255) (l11 : 0 ≤ i3) (u11 : i3 ≤ 399) : (522 ≤ tx ∧ tx < 547) ∧ (0 ≤ i3 ∧ i3 < rxLn tx) ∧ ∀ ch : Int, (0 ≤ ch ∧ ch ≤ 255) → rxI59_8 S0 ws S tx i cv i3 ch ∧ rxm59_8 S0 ws S tx i cv i3 ch < rxm59_7 S0 ws S tx i cv i3 := by
  obtain ⟨hi, hi2, rfl, hw, h1, h2⟩ := hinv
  obtain ⟨tx2, hw2, x1, x2⟩ := hP
  have hx : tx = tx2 := Option.some.inj (congrArg (fun l => l[1]?) (hw.symm.trans hw2))
  have hl := rxLn_box (k := tx)
  exact ⟨⟨by omega, by omega⟩, ⟨by omega, by omega⟩, fun ch hb => ⟨⟨hi2, rfl, hw, h1, h2⟩, by unfold rxm59_7 rxm59_8; omega⟩⟩
theorem rxs59_7 {X : (Nat → Int → Int) → Prop} {S0 : Nat → Int → Int} {ws : List Int} (hP : rxP59 S0 ws) : rx_obT X S0 rxC59.2.2.1 (rxI59 S0 ws) (rxm59 S0 ws) 7 8 rxz59_7 (8, 0) (some (11, 0)) 0 255 := by
  intro S r hinv hXS I0 hin hs_ hf_
  have b_ := bx_bds_sat hs_
  obtain ⟨⟨l8, u8⟩, ⟨l9, u9⟩, ⟨l10, u10⟩, ⟨l11, u11⟩, -⟩ := b_
  have g := rxq59_7 hP hin I0 hinv l8 u8 l9 u9 l10 u10 l11 u11
  rw [bx_x_ok hs_.1]
  refine ⟨g.1, fun a ha => ?_, fun r_p hr h0_ _ hb => ?_⟩
  · cases ha
    rw [bx_x_ok hs_.1]
    exact g.2.1
  · have g2 := g.2.2 (r_p 12) hb
    show rxI59_8 S0 ws S (r_p 8) (r_p 9) (r_p 10) (r_p 11) (r_p 12) ∧ rxm59_8 S0 ws S (r_p 8) (r_p 9) (r_p 10) (r_p 11) (r_p 12) < _
    rw [hr 8 (by decide), hr 9 (by decide), hr 10 (by decide), hr 11 (by decide)]
    exact g2
theorem rxc59_0_0 {S0 : Nat → Int → Int} {ws : List Int} {S : Nat → Int → Int} {tx x9 x10 x11 : Int} (hP : rxP59 S0 ws) (hin : bx_same rxL (bx_mdl rxC59.2.2.1) S0 S) (I0 : bx_Inv rxL S) (hinv : rxI59_0 S0 ws S tx) (l8 : 0 ≤ tx) (u8 : tx ≤ 1522) (l9 : 0 ≤ x9) (u9 : x9 ≤ 400) (l10 : 0 ≤ x10) (u10 : x10 ≤ 400) (l11 : (-400) ≤ x11) (u11 : x11 ≤ 400) (f0 : x9 = x11 + x10) (e1 : S 412 3 = x9) (e0 : S 412 2 = x10) : (True) ∧ (True) ∧ rxI59_1 S0 ws S tx x11 ∧ rxm59_1 S0 ws S tx x11 < rxm59_0 S0 ws S tx := by
  obtain ⟨rfl, hw⟩ := hinv
  exact ⟨trivial, trivial, ⟨rfl, hw, by omega⟩, by unfold rxm59_0 rxm59_1; omega⟩
theorem rxg59_0_0 {X : (Nat → Int → Int) → Prop} {S0 : Nat → Int → Int} {ws : List Int} (hP : rxP59 S0 ws) : bx_obC rxL X S0 rxC59.2.2.1 (rxI59 S0 ws) (rxm59 S0 ws) 0 rxz59_0 rxo59_0_0 := by
  intro S S_p r r_p hinv hX hin hsm_ hseg
  obtain ⟨I0, I1, h0_, hr_, b_, f_, d_⟩ := bx_cl (evs := [(0, (0, 412), (0, 2), .inr (0, (10, 0))), (0, (0, 412), (0, 3), .inr (0, (9, 0)))]) (fvs := [(5, (9, 0), (11, 0), (10, 0))]) hseg (by decide +kernel) (by decide +kernel)
  have hinv : rxI59_0 S0 ws S (r 8) := hinv
  rw [← hr_ 8 (by decide)] at hinv
  obtain ⟨⟨l8, u8⟩, ⟨l9, u9⟩, ⟨l10, u10⟩, ⟨l11, u11⟩, -⟩ := b_
  obtain ⟨f0, -⟩ := f_
  obtain ⟨e0, ⟨e1, w_⟩⟩ := d_
  subst w_
  have g := rxc59_0_0 hP hin I0 hinv l8 u8 l9 u9 l10 u10 l11 u11 f0 e1 e0
  refine ⟨bx_narP_ok (l := []) g.1, bx_nfP_ok h0_ (fvs := []) (by decide +kernel) g.2.1, ?_, ?_⟩
  · show rxI59_1 S0 ws S_p (bx_val [(0, 0), (0, 0), (0, 0), (0, 0), (0, 0), (0, 0), (0, 0), (0, 0), (8, 0), (11, 0)] r_p 8) (bx_val [(0, 0), (0, 0), (0, 0), (0, 0), (0, 0), (0, 0), (0, 0), (0, 0), (8, 0), (11, 0)] r_p 9)
    rw [bx_val_x (n := 8) (e := (8, 0)) h0_ rfl, bx_val_x (n := 9) (e := (11, 0)) h0_ rfl]
    exact g.2.2.1
  · show rxm59_1 S0 ws S_p (bx_val [(0, 0), (0, 0), (0, 0), (0, 0), (0, 0), (0, 0), (0, 0), (0, 0), (8, 0), (11, 0)] r_p 8) (bx_val [(0, 0), (0, 0), (0, 0), (0, 0), (0, 0), (0, 0), (0, 0), (0, 0), (8, 0), (11, 0)] r_p 9) < rxm59_0 S0 ws S_p (r 8)
    rw [bx_val_x (n := 8) (e := (8, 0)) h0_ rfl, bx_val_x (n := 9) (e := (11, 0)) h0_ rfl, ← hr_ 8 (by decide)]
    exact g.2.2.2
theorem rxc59_2_0 {S0 : Nat → Int → Int} {ws : List Int} {S : Nat → Int → Int} {tx d n x11 x12 : Int} (hP : rxP59 S0 ws) (hin : bx_same rxL (bx_mdl rxC59.2.2.1) S0 S) (I0 : bx_Inv rxL S) (hinv : rxI59_2 S0 ws S tx d n) (l8 : 0 ≤ tx) (u8 : tx ≤ 1522) (l9 : 0 ≤ d) (u9 : d ≤ 400) (l10 : 0 ≤ n) (u10 : n ≤ 400) (l11 : 0 ≤ x11) (u11 : x11 ≤ 400) (l12 : 0 ≤ x12) (u12 : x12 ≤ 400) (f0 : x11 ≤ x12) (f1 : d = n) (e1 : S 412 3 = x11) (e0 : S 412 1 = x12) : (True) ∧ (True) ∧ rxI59_3 S0 ws S tx 0 ∧ rxm59_3 S0 ws S tx 0 < rxm59_2 S0 ws S tx d n := by
  obtain ⟨rfl, hw, hd, hn⟩ := hinv
  exact ⟨trivial, trivial, ⟨rfl, hw, by omega, by omega⟩, by unfold rxm59_2 rxm59_3; omega⟩
theorem rxg59_2_0 {X : (Nat → Int → Int) → Prop} {S0 : Nat → Int → Int} {ws : List Int} (hP : rxP59 S0 ws) : bx_obC rxL X S0 rxC59.2.2.1 (rxI59 S0 ws) (rxm59 S0 ws) 2 rxz59_2 rxo59_2_0 := by
  intro S S_p r r_p hinv hX hin hsm_ hseg
  obtain ⟨I0, I1, h0_, hr_, b_, f_, d_⟩ := bx_cl (evs := [(0, (0, 412), (0, 1), .inr (0, (12, 0))), (0, (0, 412), (0, 3), .inr (0, (11, 0)))]) (fvs := [(1, (11, 0), (12, 0), (0, 0)), (2, (9, 0), (10, 0), (0, 0))]) hseg (by decide +kernel) (by decide +kernel)
  have hinv : rxI59_2 S0 ws S (r 8) (r 9) (r 10) := hinv
  rw [← hr_ 8 (by decide), ← hr_ 9 (by decide), ← hr_ 10 (by decide)] at hinv
  obtain ⟨⟨l8, u8⟩, ⟨l9, u9⟩, ⟨l10, u10⟩, ⟨l11, u11⟩, ⟨l12, u12⟩, -⟩ := b_
  obtain ⟨f0, f1, -⟩ := f_
  obtain ⟨e0, ⟨e1, w_⟩⟩ := d_
  subst w_
  have g := rxc59_2_0 hP hin I0 hinv l8 u8 l9 u9 l10 u10 l11 u11 l12 u12 f0 f1 e1 e0
  refine ⟨bx_narP_ok (l := []) g.1, bx_nfP_ok h0_ (fvs := []) (by decide +kernel) g.2.1, ?_, ?_⟩
  · show rxI59_3 S0 ws S_p (bx_val [(0, 0), (0, 0), (0, 0), (0, 0), (0, 0), (0, 0), (0, 0), (0, 0), (8, 0), (0, 0)] r_p 8) (bx_val [(0, 0), (0, 0), (0, 0), (0, 0), (0, 0), (0, 0), (0, 0), (0, 0), (8, 0), (0, 0)] r_p 9)
    rw [bx_val_x (n := 8) (e := (8, 0)) h0_ rfl, bx_val_x (n := 9) (e := (0, 0)) h0_ rfl]
    exact g.2.2.1
  · show rxm59_3 S0 ws S_p (bx_val [(0, 0), (0, 0), (0, 0), (0, 0), (0, 0), (0, 0), (0, 0), (0, 0), (8, 0), (0, 0)] r_p 8) (bx_val [(0, 0), (0, 0), (0, 0), (0, 0), (0, 0), (0, 0), (0, 0), (0, 0), (8, 0), (0, 0)] r_p 9) < rxm59_2 S0 ws S_p (r 8) (r 9) (r 10)
    rw [bx_val_x (n := 8) (e := (8, 0)) h0_ rfl, bx_val_x (n := 9) (e := (0, 0)) h0_ rfl, ← hr_ 8 (by decide), ← hr_ 9 (by decide), ← hr_ 10 (by decide)]
    exact g.2.2.2
theorem rxd59_2_0 {S0 : Nat → Int → Int} {ws : List Int} {S : Nat → Int → Int} {tx d n x11 x12 : Int} (hP : rxP59 S0 ws) (hin : bx_same rxL (bx_mdl rxC59.2.2.1) S0 S) (hin2 : bx_same rxL (bx_mdl rxC59.2.2.1) S S) (I0 : bx_Inv rxL S) (I1 : bx_Inv rxL S) (hinv : rxI59_2 S0 ws S tx d n) (l8 : 0 ≤ tx) (u8 : tx ≤ 1522) (l9 : 0 ≤ d) (u9 : d ≤ 400) (l10 : 0 ≤ n) (u10 : n ≤ 400) (l11 : 1 ≤ x11) (u11 : x11 ≤ 400) (l12 : 0 ≤ x12) (u12 : x12 ≤ 399) (f0 : x12 < x11) (f1 : d = n) (e1 : S 412 3 = x11) (e0 : S 412 1 = x12) : (True) ∧ rxPS59 S0 ws S (some 0) := by
  exact ⟨trivial, trivial⟩
theorem rxf59_2_0 {X : (Nat → Int → Int) → Prop} {S0 : Nat → Int → Int} {ws : List Int} (hP : rxP59 S0 ws) : bx_obE rxL X S0 rxC59.2.2.1 (rxI59 S0 ws) (rxPS59 S0 ws) 2 rxz59_2 rxe59_2_0 := by
  intro S S_p r r_p hinv hX hin hsm_ hseg
  obtain ⟨I0, I1, h0_, hr_, b_, f_, d_⟩ := bx_cl (evs := [(0, (0, 412), (0, 1), .inr (0, (12, 0))), (0, (0, 412), (0, 3), .inr (0, (11, 0)))]) (fvs := [(0, (12, 0), (11, 0), (0, 0)), (2, (9, 0), (10, 0), (0, 0))]) hseg (by decide +kernel) (by decide +kernel)
  have hinv : rxI59_2 S0 ws S (r 8) (r 9) (r 10) := hinv
  rw [← hr_ 8 (by decide), ← hr_ 9 (by decide), ← hr_ 10 (by decide)] at hinv
  obtain ⟨⟨l8, u8⟩, ⟨l9, u9⟩, ⟨l10, u10⟩, ⟨l11, u11⟩, ⟨l12, u12⟩, -⟩ := b_
  obtain ⟨f0, f1, -⟩ := f_
  obtain ⟨e0, ⟨e1, w_⟩⟩ := d_
  subst w_
  have g := rxd59_2_0 hP hin hsm_ I0 I1 hinv l8 u8 l9 u9 l10 u10 l11 u11 l12 u12 f0 f1 e1 e0
  refine ⟨bx_narP_ok (l := []) g.1, ?_⟩
  show rxPS59 S0 ws S_p (some (bx_num r_p (.inr (0, (0, 0)))))
  rw [bx_xv_ok h0_]
  exact g.2
theorem rxd59_2_1 {S0 : Nat → Int → Int} {ws : List Int} {S : Nat → Int → Int} {tx d n : Int} (hP : rxP59 S0 ws) (hin : bx_same rxL (bx_mdl rxC59.2.2.1) S0 S) (hin2 : bx_same rxL (bx_mdl rxC59.2.2.1) S S) (I0 : bx_Inv rxL S) (I1 : bx_Inv rxL S) (hinv : rxI59_2 S0 ws S tx d n) (l8 : 0 ≤ tx) (u8 : tx ≤ 1522) (l9 : (-400) ≤ d) (u9 : d ≤ 400) (l10 : 0 ≤ n) (u10 : n ≤ 999) (f0 : d ≠ n) : (True) ∧ rxPS59 S0 ws S (some 0) := by
  exact ⟨trivial, trivial⟩
theorem rxf59_2_1 {X : (Nat → Int → Int) → Prop} {S0 : Nat → Int → Int} {ws : List Int} (hP : rxP59 S0 ws) : bx_obE rxL X S0 rxC59.2.2.1 (rxI59 S0 ws) (rxPS59 S0 ws) 2 rxz59_2 rxe59_2_1 := by
  intro S S_p r r_p hinv hX hin hsm_ hseg
  obtain ⟨I0, I1, h0_, hr_, b_, f_, d_⟩ := bx_cl (evs := []) (fvs := [(3, (9, 0), (10, 0), (0, 0))]) hseg (by decide +kernel) (by decide +kernel)
  have hinv : rxI59_2 S0 ws S (r 8) (r 9) (r 10) := hinv
  rw [← hr_ 8 (by decide), ← hr_ 9 (by decide), ← hr_ 10 (by decide)] at hinv
  obtain ⟨⟨l8, u8⟩, ⟨l9, u9⟩, ⟨l10, u10⟩, -⟩ := b_
  obtain ⟨f0, -⟩ := f_
  have w_ := d_
  subst w_
  have g := rxd59_2_1 hP hin hsm_ I0 I1 hinv l8 u8 l9 u9 l10 u10 f0
  refine ⟨bx_narP_ok (l := []) g.1, ?_⟩
  show rxPS59 S0 ws S_p (some (bx_num r_p (.inr (0, (0, 0)))))
  rw [bx_xv_ok h0_]
  exact g.2
theorem rxc59_3_0 {S0 : Nat → Int → Int} {ws : List Int} {S : Nat → Int → Int} {tx i : Int} (hP : rxP59 S0 ws) (hin : bx_same rxL (bx_mdl rxC59.2.2.1) S0 S) (I0 : bx_Inv rxL S) (hinv : rxI59_3 S0 ws S tx i) (l8 : 0 ≤ tx) (u8 : tx ≤ 1522) (l9 : 0 ≤ i) (u9 : i ≤ 400) : (True) ∧ (True) ∧ rxI59_4 S0 ws S tx i i ∧ rxm59_4 S0 ws S tx i i < rxm59_3 S0 ws S tx i := by
  exact ⟨trivial, trivial, ⟨by omega, hinv⟩, by unfold rxm59_3 rxm59_4; omega⟩
theorem rxg59_3_0 {X : (Nat → Int → Int) → Prop} {S0 : Nat → Int → Int} {ws : List Int} (hP : rxP59 S0 ws) : bx_obC rxL X S0 rxC59.2.2.1 (rxI59 S0 ws) (rxm59 S0 ws) 3 rxz59_3 rxo59_3_0 := by
  intro S S_p r r_p hinv hX hin hsm_ hseg
  obtain ⟨I0, I1, h0_, hr_, b_, f_, d_⟩ := bx_cl (evs := []) (fvs := []) hseg (by decide +kernel) (by decide +kernel)
  have hinv : rxI59_3 S0 ws S (r 8) (r 9) := hinv
  rw [← hr_ 8 (by decide), ← hr_ 9 (by decide)] at hinv
  obtain ⟨⟨l8, u8⟩, ⟨l9, u9⟩, -⟩ := b_
  have w_ := d_
  subst w_
  have g := rxc59_3_0 hP hin I0 hinv l8 u8 l9 u9
  refine ⟨bx_narP_ok (l := []) g.1, bx_nfP_ok h0_ (fvs := []) (by decide +kernel) g.2.1, ?_, ?_⟩
  · show rxI59_4 S0 ws S_p (bx_val [(0, 0), (0, 0), (0, 0), (0, 0), (0, 0), (0, 0), (0, 0), (0, 0), (8, 0), (9, 0), (9, 0)] r_p 8) (bx_val [(0, 0), (0, 0), (0, 0), (0, 0), (0, 0), (0, 0), (0, 0), (0, 0), (8, 0), (9, 0), (9, 0)] r_p 9) (bx_val [(0, 0), (0, 0), (0, 0), (0, 0), (0, 0), (0, 0), (0, 0), (0, 0), (8, 0), (9, 0), (9, 0)] r_p 10)
    rw [bx_val_x (n := 8) (e := (8, 0)) h0_ rfl, bx_val_x (n := 9) (e := (9, 0)) h0_ rfl, bx_val_x (n := 10) (e := (9, 0)) h0_ rfl]
    exact g.2.2.1
  · show rxm59_4 S0 ws S_p (bx_val [(0, 0), (0, 0), (0, 0), (0, 0), (0, 0), (0, 0), (0, 0), (0, 0), (8, 0), (9, 0), (9, 0)] r_p 8) (bx_val [(0, 0), (0, 0), (0, 0), (0, 0), (0, 0), (0, 0), (0, 0), (0, 0), (8, 0), (9, 0), (9, 0)] r_p 9) (bx_val [(0, 0), (0, 0), (0, 0), (0, 0), (0, 0), (0, 0), (0, 0), (0, 0), (8, 0), (9, 0), (9, 0)] r_p 10) < rxm59_3 S0 ws S_p (r 8) (r 9)
    rw [bx_val_x (n := 8) (e := (8, 0)) h0_ rfl, bx_val_x (n := 9) (e := (9, 0)) h0_ rfl, bx_val_x (n := 10) (e := (9, 0)) h0_ rfl, ← hr_ 8 (by decide), ← hr_ 9 (by decide)]
    exact g.2.2.2
theorem rxc59_5_0 {S0 : Nat → Int → Int} {ws : List Int} {S : Nat → Int → Int} {tx i i2 n x12 x13 : Int} (hP : rxP59 S0 ws) (hin : bx_same rxL (bx_mdl rxC59.2.2.1) S0 S) (I0 : bx_Inv rxL S) (hinv : rxI59_5 S0 ws S tx i i2 n) (l8 : 0 ≤ tx) (u8 : tx ≤ 1522) (l9 : 0 ≤ i) (u9 : i ≤ 400) (l10 : 0 ≤ i2) (u10 : i2 ≤ 400) (l11 : 1 ≤ n) (u11 : n ≤ 999) (l12 : 0 ≤ x12) (u12 : x12 ≤ 400) (l13 : 0 ≤ x13) (u13 : x13 ≤ 800) (f0 : x13 = x12 + i) (f1 : i2 < n) (e0 : S 412 2 = x12) : ((0 ≤ i ∧ i ≤ 399) ∧ (0 ≤ x13 ∧ x13 ≤ 399) ∧ True) ∧ (True) ∧ rxI59_6 S0 ws S tx i x13 ∧ rxm59_6 S0 ws S tx i x13 < rxm59_5 S0 ws S tx i i2 n := by
  have b3 : 0 ≤ S 412 3 ∧ S 412 3 ≤ 400 := I0 412 3 (by decide) (by decide)
  have b1 : 0 ≤ S 412 1 ∧ S 412 1 ≤ 400 := I0 412 1 (by decide) (by decide)
  have b2 : 0 ≤ S 412 2 ∧ S 412 2 ≤ 400 := I0 412 2 (by decide) (by decide)
  obtain ⟨hi, hn, hm⟩ := hinv
  have h1 := hm.2.2.1
  have h2 := hm.2.2.2
  exact ⟨⟨by omega, by omega, trivial⟩, trivial, ⟨by omega, hm⟩, by unfold rxm59_5 rxm59_6; omega⟩
theorem rxg59_5_0 {X : (Nat → Int → Int) → Prop} {S0 : Nat → Int → Int} {ws : List Int} (hP : rxP59 S0 ws) : bx_obC rxL X S0 rxC59.2.2.1 (rxI59 S0 ws) (rxm59 S0 ws) 5 rxz59_5 rxo59_5_0 := by
  intro S S_p r r_p hinv hX hin hsm_ hseg
  obtain ⟨I0, I1, h0_, hr_, b_, f_, d_⟩ := bx_cl (evs := [(0, (0, 412), (0, 2), .inr (0, (12, 0)))]) (fvs := [(5, (13, 0), (12, 0), (9, 0)), (0, (10, 0), (11, 0), (0, 0))]) hseg (by decide +kernel) (by decide +kernel)
  have hinv : rxI59_5 S0 ws S (r 8) (r 9) (r 10) (r 11) := hinv
  rw [← hr_ 8 (by decide), ← hr_ 9 (by decide), ← hr_ 10 (by decide), ← hr_ 11 (by decide)] at hinv
  obtain ⟨⟨l8, u8⟩, ⟨l9, u9⟩, ⟨l10, u10⟩, ⟨l11, u11⟩, ⟨l12, u12⟩, ⟨l13, u13⟩, -⟩ := b_
  obtain ⟨f0, f1, -⟩ := f_
  obtain ⟨e0, w_⟩ := d_
  subst w_
  have g := rxc59_5_0 hP hin I0 hinv l8 u8 l9 u9 l10 u10 l11 u11 l12 u12 l13 u13 f0 f1 e0
  refine ⟨bx_narP_ok (l := [(9, 0, 399), (13, 0, 399)]) g.1, bx_nfP_ok h0_ (fvs := []) (by decide +kernel) g.2.1, ?_, ?_⟩
  · show rxI59_6 S0 ws S_p (bx_val [(0, 0), (0, 0), (0, 0), (0, 0), (0, 0), (0, 0), (0, 0), (0, 0), (8, 0), (9, 0), (13, 0)] r_p 8) (bx_val [(0, 0), (0, 0), (0, 0), (0, 0), (0, 0), (0, 0), (0, 0), (0, 0), (8, 0), (9, 0), (13, 0)] r_p 9) (bx_val [(0, 0), (0, 0), (0, 0), (0, 0), (0, 0), (0, 0), (0, 0), (0, 0), (8, 0), (9, 0), (13, 0)] r_p 10)
    rw [bx_val_x (n := 8) (e := (8, 0)) h0_ rfl, bx_val_x (n := 9) (e := (9, 0)) h0_ rfl, bx_val_x (n := 10) (e := (13, 0)) h0_ rfl]
    exact g.2.2.1
  · show rxm59_6 S0 ws S_p (bx_val [(0, 0), (0, 0), (0, 0), (0, 0), (0, 0), (0, 0), (0, 0), (0, 0), (8, 0), (9, 0), (13, 0)] r_p 8) (bx_val [(0, 0), (0, 0), (0, 0), (0, 0), (0, 0), (0, 0), (0, 0), (0, 0), (8, 0), (9, 0), (13, 0)] r_p 9) (bx_val [(0, 0), (0, 0), (0, 0), (0, 0), (0, 0), (0, 0), (0, 0), (0, 0), (8, 0), (9, 0), (13, 0)] r_p 10) < rxm59_5 S0 ws S_p (r 8) (r 9) (r 10) (r 11)
    rw [bx_val_x (n := 8) (e := (8, 0)) h0_ rfl, bx_val_x (n := 9) (e := (9, 0)) h0_ rfl, bx_val_x (n := 10) (e := (13, 0)) h0_ rfl, ← hr_ 8 (by decide), ← hr_ 9 (by decide), ← hr_ 10 (by decide), ← hr_ 11 (by decide)]
    exact g.2.2.2
theorem rxd59_5_0 {S0 : Nat → Int → Int} {ws : List Int} {S : Nat → Int → Int} {tx i i2 n : Int} (hP : rxP59 S0 ws) (hin : bx_same rxL (bx_mdl rxC59.2.2.1) S0 S) (hin2 : bx_same rxL (bx_mdl rxC59.2.2.1) S S) (I0 : bx_Inv rxL S) (I1 : bx_Inv rxL S) (hinv : rxI59_5 S0 ws S tx i i2 n) (l8 : 0 ≤ tx) (u8 : tx ≤ 1522) (l9 : 0 ≤ i) (u9 : i ≤ 400) (l10 : 0 ≤ i2) (u10 : i2 ≤ 400) (l11 : 0 ≤ n) (u11 : n ≤ 400) (f0 : n ≤ i2) : (True) ∧ rxPS59 S0 ws S (some 1) := by
  exact ⟨trivial, trivial⟩
theorem rxf59_5_0 {X : (Nat → Int → Int) → Prop} {S0 : Nat → Int → Int} {ws : List Int} (hP : rxP59 S0 ws) : bx_obE rxL X S0 rxC59.2.2.1 (rxI59 S0 ws) (rxPS59 S0 ws) 5 rxz59_5 rxe59_5_0 := by
  intro S S_p r r_p hinv hX hin hsm_ hseg
  obtain ⟨I0, I1, h0_, hr_, b_, f_, d_⟩ := bx_cl (evs := []) (fvs := [(1, (11, 0), (10, 0), (0, 0))]) hseg (by decide +kernel) (by decide +kernel)
  have hinv : rxI59_5 S0 ws S (r 8) (r 9) (r 10) (r 11) := hinv
  rw [← hr_ 8 (by decide), ← hr_ 9 (by decide), ← hr_ 10 (by decide), ← hr_ 11 (by decide)] at hinv
  obtain ⟨⟨l8, u8⟩, ⟨l9, u9⟩, ⟨l10, u10⟩, ⟨l11, u11⟩, -⟩ := b_
  obtain ⟨f0, -⟩ := f_
  have w_ := d_
  subst w_
  have g := rxd59_5_0 hP hin hsm_ I0 I1 hinv l8 u8 l9 u9 l10 u10 l11 u11 f0
  refine ⟨bx_narP_ok (l := []) g.1, ?_⟩
  show rxPS59 S0 ws S_p (some (bx_num r_p (.inr (0, (0, 1)))))
  rw [bx_xv_ok h0_]
  exact g.2
theorem rxc59_6_0 {S0 : Nat → Int → Int} {ws : List Int} {S : Nat → Int → Int} {tx i ix x11 : Int} (hP : rxP59 S0 ws) (hin : bx_same rxL (bx_mdl rxC59.2.2.1) S0 S) (I0 : bx_Inv rxL S) (hinv : rxI59_6 S0 ws S tx i ix) (l8 : 0 ≤ tx) (u8 : tx ≤ 1522) (l9 : 0 ≤ i) (u9 : i ≤ 399) (l10 : 0 ≤ ix) (u10 : ix ≤ 399) (l11 : 0 ≤ x11) (u11 : x11 ≤ 255) (e0 : S 411 ix = x11) : (True) ∧ (True) ∧ rxI59_7 S0 ws S tx i x11 i ∧ rxm59_7 S0 ws S tx i x11 i < rxm59_6 S0 ws S tx i ix := by
  exact ⟨trivial, trivial, ⟨by omega, hinv⟩, by unfold rxm59_6 rxm59_7; omega⟩
theorem rxg59_6_0 {X : (Nat → Int → Int) → Prop} {S0 : Nat → Int → Int} {ws : List Int} (hP : rxP59 S0 ws) : bx_obC rxL X S0 rxC59.2.2.1 (rxI59 S0 ws) (rxm59 S0 ws) 6 rxz59_6 rxo59_6_0 := by
  intro S S_p r r_p hinv hX hin hsm_ hseg
  obtain ⟨I0, I1, h0_, hr_, b_, f_, d_⟩ := bx_cl (evs := [(0, (0, 411), (10, 0), .inr (0, (11, 0)))]) (fvs := []) hseg (by decide +kernel) (by decide +kernel)
  have hinv : rxI59_6 S0 ws S (r 8) (r 9) (r 10) := hinv
  rw [← hr_ 8 (by decide), ← hr_ 9 (by decide), ← hr_ 10 (by decide)] at hinv
  obtain ⟨⟨l8, u8⟩, ⟨l9, u9⟩, ⟨l10, u10⟩, ⟨l11, u11⟩, -⟩ := b_
  obtain ⟨e0, w_⟩ := d_
  subst w_
  have g := rxc59_6_0 hP hin I0 hinv l8 u8 l9 u9 l10 u10 l11 u11 e0
  refine ⟨bx_narP_ok (l := []) g.1, bx_nfP_ok h0_ (fvs := []) (by decide +kernel) g.2.1, ?_, ?_⟩
  · show rxI59_7 S0 ws S_p (bx_val [(0, 0), (0, 0), (0, 0), (0, 0), (0, 0), (0, 0), (0, 0), (0, 0), (8, 0), (9, 0), (11, 0), (9, 0)] r_p 8) (bx_val [(0, 0), (0, 0), (0, 0), (0, 0), (0, 0), (0, 0), (0, 0), (0, 0), (8, 0), (9, 0), (11, 0), (9, 0)] r_p 9) (bx_val [(0, 0), (0, 0), (0, 0), (0, 0), (0, 0), (0, 0), (0, 0), (0, 0), (8, 0), (9, 0), (11, 0), (9, 0)] r_p 10) (bx_val [(0, 0), (0, 0), (0, 0), (0, 0), (0, 0), (0, 0), (0, 0), (0, 0), (8, 0), (9, 0), (11, 0), (9, 0)] r_p 11)
    rw [bx_val_x (n := 8) (e := (8, 0)) h0_ rfl, bx_val_x (n := 9) (e := (9, 0)) h0_ rfl, bx_val_x (n := 10) (e := (11, 0)) h0_ rfl, bx_val_x (n := 11) (e := (9, 0)) h0_ rfl]
    exact g.2.2.1
  · show rxm59_7 S0 ws S_p (bx_val [(0, 0), (0, 0), (0, 0), (0, 0), (0, 0), (0, 0), (0, 0), (0, 0), (8, 0), (9, 0), (11, 0), (9, 0)] r_p 8) (bx_val [(0, 0), (0, 0), (0, 0), (0, 0), (0, 0), (0, 0), (0, 0), (0, 0), (8, 0), (9, 0), (11, 0), (9, 0)] r_p 9) (bx_val [(0, 0), (0, 0), (0, 0), (0, 0), (0, 0), (0, 0), (0, 0), (0, 0), (8, 0), (9, 0), (11, 0), (9, 0)] r_p 10) (bx_val [(0, 0), (0, 0), (0, 0), (0, 0), (0, 0), (0, 0), (0, 0), (0, 0), (8, 0), (9, 0), (11, 0), (9, 0)] r_p 11) < rxm59_6 S0 ws S_p (r 8) (r 9) (r 10)
    rw [bx_val_x (n := 8) (e := (8, 0)) h0_ rfl, bx_val_x (n := 9) (e := (9, 0)) h0_ rfl, bx_val_x (n := 10) (e := (11, 0)) h0_ rfl, bx_val_x (n := 11) (e := (9, 0)) h0_ rfl, ← hr_ 8 (by decide), ← hr_ 9 (by decide), ← hr_ 10 (by decide)]
    exact g.2.2.2
theorem rxc59_8_0 {S0 : Nat → Int → Int} {ws : List Int} {S : Nat → Int → Int} {tx i cv i3 ch : Int} (hP : rxP59 S0 ws) (hin : bx_same rxL (bx_mdl rxC59.2.2.1) S0 S) (I0 : bx_Inv rxL S) (hinv : rxI59_8 S0 ws S tx i cv i3 ch) (l8 : 0 ≤ tx) (u8 : tx ≤ 1522) (l9 : 0 ≤ i) (u9 : i ≤ 399) (l10 : 0 ≤ cv) (u10 : cv ≤ 255) (l11 : 0 ≤ i3) (u11 : i3 ≤ 399) (l12 : 0 ≤ ch) (u12 : ch ≤ 255) (f0 : cv = ch) : (True) ∧ (True) ∧ rxI59_3 S0 ws S tx (i + 1) ∧ rxm59_3 S0 ws S tx (i + 1) < rxm59_8 S0 ws S tx i cv i3 ch := by
  obtain ⟨hi, hm⟩ := hinv
  have hl := rxLn_box (k := tx)
  exact ⟨trivial, trivial, hm, by unfold rxm59_8 rxm59_3; omega⟩
theorem rxg59_8_0 {X : (Nat → Int → Int) → Prop} {S0 : Nat → Int → Int} {ws : List Int} (hP : rxP59 S0 ws) : bx_obC rxL X S0 rxC59.2.2.1 (rxI59 S0 ws) (rxm59 S0 ws) 8 rxz59_8 rxo59_8_0 := by
  intro S S_p r r_p hinv hX hin hsm_ hseg
  obtain ⟨I0, I1, h0_, hr_, b_, f_, d_⟩ := bx_cl (evs := []) (fvs := [(2, (10, 0), (12, 0), (0, 0))]) hseg (by decide +kernel) (by decide +kernel)
  have hinv : rxI59_8 S0 ws S (r 8) (r 9) (r 10) (r 11) (r 12) := hinv
  rw [← hr_ 8 (by decide), ← hr_ 9 (by decide), ← hr_ 10 (by decide), ← hr_ 11 (by decide), ← hr_ 12 (by decide)] at hinv
  obtain ⟨⟨l8, u8⟩, ⟨l9, u9⟩, ⟨l10, u10⟩, ⟨l11, u11⟩, ⟨l12, u12⟩, -⟩ := b_
  obtain ⟨f0, -⟩ := f_
  have w_ := d_
  subst w_
  have g := rxc59_8_0 hP hin I0 hinv l8 u8 l9 u9 l10 u10 l11 u11 l12 u12 f0
  refine ⟨bx_narP_ok (l := []) g.1, bx_nfP_ok h0_ (fvs := []) (by decide +kernel) g.2.1, ?_, ?_⟩
  · show rxI59_3 S0 ws S_p (bx_val [(0, 0), (0, 0), (0, 0), (0, 0), (0, 0), (0, 0), (0, 0), (0, 0), (8, 0), (9, 1)] r_p 8) (bx_val [(0, 0), (0, 0), (0, 0), (0, 0), (0, 0), (0, 0), (0, 0), (0, 0), (8, 0), (9, 1)] r_p 9)
    rw [bx_val_x (n := 8) (e := (8, 0)) h0_ rfl, bx_val_x (n := 9) (e := (9, 1)) h0_ rfl]
    exact g.2.2.1
  · show rxm59_3 S0 ws S_p (bx_val [(0, 0), (0, 0), (0, 0), (0, 0), (0, 0), (0, 0), (0, 0), (0, 0), (8, 0), (9, 1)] r_p 8) (bx_val [(0, 0), (0, 0), (0, 0), (0, 0), (0, 0), (0, 0), (0, 0), (0, 0), (8, 0), (9, 1)] r_p 9) < rxm59_8 S0 ws S_p (r 8) (r 9) (r 10) (r 11) (r 12)
    rw [bx_val_x (n := 8) (e := (8, 0)) h0_ rfl, bx_val_x (n := 9) (e := (9, 1)) h0_ rfl, ← hr_ 8 (by decide), ← hr_ 9 (by decide), ← hr_ 10 (by decide), ← hr_ 11 (by decide), ← hr_ 12 (by decide)]
    exact g.2.2.2
theorem rxd59_8_0 {S0 : Nat → Int → Int} {ws : List Int} {S : Nat → Int → Int} {tx i cv i3 ch : Int} (hP : rxP59 S0 ws) (hin : bx_same rxL (bx_mdl rxC59.2.2.1) S0 S) (hin2 : bx_same rxL (bx_mdl rxC59.2.2.1) S S) (I0 : bx_Inv rxL S) (I1 : bx_Inv rxL S) (hinv : rxI59_8 S0 ws S tx i cv i3 ch) (l8 : 0 ≤ tx) (u8 : tx ≤ 1522) (l9 : 0 ≤ i) (u9 : i ≤ 399) (l10 : 0 ≤ cv) (u10 : cv ≤ 255) (l11 : 0 ≤ i3) (u11 : i3 ≤ 399) (l12 : 0 ≤ ch) (u12 : ch ≤ 255) (f0 : cv ≠ ch) : (True) ∧ rxPS59 S0 ws S (some 0) := by
  exact ⟨trivial, trivial⟩
theorem rxf59_8_0 {X : (Nat → Int → Int) → Prop} {S0 : Nat → Int → Int} {ws : List Int} (hP : rxP59 S0 ws) : bx_obE rxL X S0 rxC59.2.2.1 (rxI59 S0 ws) (rxPS59 S0 ws) 8 rxz59_8 rxe59_8_0 := by
  intro S S_p r r_p hinv hX hin hsm_ hseg
  obtain ⟨I0, I1, h0_, hr_, b_, f_, d_⟩ := bx_cl (evs := []) (fvs := [(3, (10, 0), (12, 0), (0, 0))]) hseg (by decide +kernel) (by decide +kernel)
  have hinv : rxI59_8 S0 ws S (r 8) (r 9) (r 10) (r 11) (r 12) := hinv
  rw [← hr_ 8 (by decide), ← hr_ 9 (by decide), ← hr_ 10 (by decide), ← hr_ 11 (by decide), ← hr_ 12 (by decide)] at hinv
  obtain ⟨⟨l8, u8⟩, ⟨l9, u9⟩, ⟨l10, u10⟩, ⟨l11, u11⟩, ⟨l12, u12⟩, -⟩ := b_
  obtain ⟨f0, -⟩ := f_
  have w_ := d_
  subst w_
  have g := rxd59_8_0 hP hin hsm_ I0 I1 hinv l8 u8 l9 u9 l10 u10 l11 u11 l12 u12 f0
  refine ⟨bx_narP_ok (l := []) g.1, ?_⟩
  show rxPS59 S0 ws S_p (some (bx_num r_p (.inr (0, (0, 0)))))
  rw [bx_xv_ok h0_]
  exact g.2
theorem rxgC59 {X : (Nat → Int → Int) → Prop} {S0 : Nat → Int → Int} {ws : List Int} (hP : rxP59 S0 ws) : bx_allI (fun i q => rxU59 q = true ∨ bx_allP (fun o => bx_obC rxL X S0 rxC59.2.2.1 (rxI59 S0 ws) (rxm59 S0 ws) i q.1 o) q.2.1) 0 rxY59 := ⟨Or.inr ⟨rxg59_0_0 hP, trivial⟩, Or.inl rfl, Or.inr ⟨rxg59_2_0 hP, trivial⟩, Or.inr ⟨rxg59_3_0 hP, trivial⟩, Or.inl rfl, Or.inr ⟨rxg59_5_0 hP, trivial⟩, Or.inr ⟨rxg59_6_0 hP, trivial⟩, Or.inl rfl, Or.inr ⟨rxg59_8_0 hP, trivial⟩, trivial⟩
theorem rxgE59 {X : (Nat → Int → Int) → Prop} {S0 : Nat → Int → Int} {ws : List Int} (hP : rxP59 S0 ws) : bx_allI (fun i q => rxU59 q = true ∨ bx_allP (fun E => bx_obE rxL X S0 rxC59.2.2.1 (rxI59 S0 ws) (rxPS59 S0 ws) i q.1 E) q.2.2) 0 rxY59 := ⟨Or.inr trivial, Or.inl rfl, Or.inr ⟨rxf59_2_0 hP, rxf59_2_1 hP, trivial⟩, Or.inr trivial, Or.inl rfl, Or.inr ⟨rxf59_5_0 hP, trivial⟩, Or.inr trivial, Or.inl rfl, Or.inr ⟨rxf59_8_0 hP, trivial⟩, trivial⟩
theorem rxu59 {PX : State → Prop} {Dg : va_G} {A : Nat → Prop} {ad xa : Nat → Nat} {l : Launch} {X : (Nat → Int → Int) → Prop} (hPX : rx_PXOK rxNW A PX) (hX : ∀ S S1 : Nat → Int → Int, X S → bx_same rxL (bx_mdl rxC59.2.2.1) S S1 → X S1) {av : Nat → Nat} (hstr : rx_hstr PX A ad av) {S0 : Nat → Int → Int} {ws : List Int} (hP : rxP59 S0 ws) : ∀ (i : Nat) (q : bx_HE), rxY59[i]? = some q → rxU59 q = true → ∀ {p : Program} {e : Env} {R : Room} {s : State} {m : MethodId} {args : Array Value} {below : List Frame} {meth : Method} {c : Code} {Q : State → Prop} {H0 : Heap}, rx_Fr rxG rxNW rxAO PX p s m args meth c rxM59 → (∀ q, H0.size ≤ q → A q) → H0 = s.heap → rxM59.2.2.2.2.2.2.1 ≤ R.cells → rxM59.2.2.2.2.2.2.2 ≤ R.slots → rxC59.2.2.2.1 ≤ R.frames → rxC59.2.2.2.1 * 40 ≤ R.locals → bx_Step p l e R s m args below meth c Q Dg rxL X vwCl A xa H0 ad rxM59 rxY59 (rxI59 S0 ws) (rxm59 S0 ws) S0 rxC59.2.2.1 i q := by
  intro i q hq hus p e R s m args below meth c Q H0 hF hA hH0 hmc hms hd hdl
  match i, hq with
  | 0, hq =>
    cases hq
    exact absurd (show false = true from hus) Bool.false_ne_true
  | 1, hq =>
    cases hq
    exact rx_stepL (av := av) (i_p := 2) (lo := 0) (hi := 999) (t := [.inr (0, (9, 0))]) hstr hPX hF hA hH0 hd hdl (by decide +kernel) rfl rfl (by decide) ⟨rfl, rfl⟩ rfl rfl (by decide) (rxs59_1 hP)
  | 2, hq =>
    cases hq
    exact absurd (show false = true from hus) Bool.false_ne_true
  | 3, hq =>
    cases hq
    exact absurd (show false = true from hus) Bool.false_ne_true
  | 4, hq =>
    cases hq
    exact rx_stepL (av := av) (i_p := 5) (lo := 0) (hi := 999) (t := [.inr (0, (10, 0))]) hstr hPX hF hA hH0 hd hdl (by decide +kernel) rfl rfl (by decide) ⟨rfl, rfl⟩ rfl rfl (by decide) (rxs59_4 hP)
  | 5, hq =>
    cases hq
    exact absurd (show false = true from hus) Bool.false_ne_true
  | 6, hq =>
    cases hq
    exact absurd (show false = true from hus) Bool.false_ne_true
  | 7, hq =>
    cases hq
    exact rx_stepC_ (av := av) (i_p := 8) (lo := 0) (hi := 255) (t := [.inr (0, (10, 0))]) hstr hPX hF hA hH0 hd hdl (by decide +kernel) rfl rfl (by decide) ⟨rfl, rfl⟩ rfl rfl (by decide) (rxs59_7 hP)
  | 8, hq =>
    cases hq
    exact absurd (show false = true from hus) Bool.false_ne_true
  | n + 9, hq => cases hq
theorem rxQ59 {PX : State → Prop} {Dg : va_G} {A : Nat → Prop} {ad xa : Nat → Nat} {l : Launch} {X : (Nat → Int → Int) → Prop} (hPX : rx_PXOK rxNW A PX) (hsl : ∀ s : State, PX s → ∀ o idx n : Nat, rxSl o idx = some n → ∃ tx : String, vk_R (rxNm o) idx tx (ad n) s)
    (hX : ∀ S S_p : Nat → Int → Int, X S → bx_same rxL (bx_mdl rxC59.2.2.1) S S_p → X S_p)
    (ih : ∀ (j2 : Nat) (ct2 : bx_Ct) (M2 : rx_Mt), ct2 ∈ rxCnE j2 → ct2.2.2.2.1 + 1 ≤ rxC59.2.2.2.1 → rxT.2.2.2.2.2 j2 = some M2 → bx_Con rxG rxNW rxAO PX Dg rxL X vwCl A ad l M2 ct2) {av : Nat → Nat} (hstr : rx_hstr PX A ad av) : bx_ConP rxG rxNW rxAO PX Dg rxL X vwCl A ad l rxM59 rxC59 rxP59 rxPS59 :=
  rxQof (xa := xa) (Cn := rxCnE) (f := 30000) (j := 59) (tab := rxY59) (us := rxU59) hPX hsl hX ih rfl rxYc59 rxI59 rxm59
    (fun S0 ws r I0 I ht0 ht as he he1 hX0 hI0 hP hs ha => by
      have e := he.symm.trans (show bx_ent0 rxNP rxC59.1 bx_I0 [] = some ([(0, 0), (0, 0), (0, 0), (0, 0), (0, 0), (0, 0), (0, 0), (0, 0), (0, 1522)], [(((8, 0), 1000021), .inl none)], [.inr (3, (0, 412)), .inr (3, (8, 0))]) from rfl)
      cases e
      subst ha
      have h0 : r 0 = 0 := hs.1
      show rxI59_0 S0 _ S0 (r 8)
      refine ⟨rfl, ?_⟩
      simp only [List.map_cons, List.map_nil, bx_xv_ok h0]
      rfl)
    (fun S0 ws hP => rxu59 (xa := xa) hPX hX hstr hP) (fun S0 ws hP => rxgC59 hP) (fun S0 ws hP => rxgE59 hP)
