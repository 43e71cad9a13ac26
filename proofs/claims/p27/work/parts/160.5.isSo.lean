section
noncomputable def rxCl (R : Int → Int) (b first last : Int) : Prop := 0 ≤ first ∧ last ≤ 400 ∧ rxSeg (fun i => R (b + 98 + 2 * i)) (fun i => R (b + 98 + 2 * i + 1)) first last
noncomputable def rxTq (R : Int → Int) : Prop := ∀ n k : Int, 0 ≤ n → n ≤ 5 → 0 ≤ k → k < R (780 + 900 * n + 1) → k < 12 →
  rxCl R (780 + 900 * n) (R (780 + 900 * n + 2 + 8 * k + 3)) (R (780 + 900 * n + 2 + 8 * k + 4)) ∧ rxCl R (780 + 900 * n) (R (780 + 900 * n + 2 + 8 * k + 5)) (R (780 + 900 * n + 2 + 8 * k + 6))
noncomputable def rxX (S : Nat → Int → Int) : Prop := rxTq (S 482) ∧ rxTq (S 483) ∧ rxTq (fun i => S 483 (6180 + i)) ∧ S 480 15 = 0
theorem rxCl_cg {R R_p : Int → Int} {b first last : Int} (h : rxCl R b first last) (hb : 0 ≤ b) (hc : ∀ i : Int, b ≤ i → i < b + 900 → R_p i = R i) : rxCl R_p b first last :=
  ⟨h.1, h.2.1, rxSeg_cg h.2.2 fun k k0 k1 => ⟨hc _ (by have := h.1; omega) (by have := h.2.1; omega), hc _ (by have := h.1; omega) (by have := h.2.1; omega)⟩⟩
theorem rxTq_cg {R R_p : Int → Int} (h : rxTq R) (hc : ∀ i : Int, 780 ≤ i → i < 6180 → R_p i = R i) : rxTq R_p := fun n k n0 n5 k0 k1 k2 => by
  have hb : ∀ i : Int, 780 + 900 * n ≤ i → i < 780 + 900 * n + 900 → R_p i = R i := fun i a b => hc i (by omega) (by omega)
  rw [hb (780 + 900 * n + 1) (by omega) (by omega)] at k1
  obtain ⟨a1, a2⟩ := h n k n0 n5 k0 k1 k2
  rw [hb (780 + 900 * n + 2 + 8 * k + 3) (by omega) (by omega), hb (780 + 900 * n + 2 + 8 * k + 4) (by omega) (by omega), hb (780 + 900 * n + 2 + 8 * k + 5) (by omega) (by omega), hb (780 + 900 * n + 2 + 8 * k + 6) (by omega) (by omega)]
  exact ⟨rxCl_cg a1 (by omega) hb, rxCl_cg a2 (by omega) hb⟩
theorem rx_same1 {ms : List (Nat × Nat)} {S S_p : Nat → Int → Int} (h : bx_mdl ms 1063 1 = false) (hm : bx_same rxL (bx_mdl ms) S S_p) {i : Int} (i0 : 780 ≤ i) (i1 : i < 6180) : S_p 482 i = S 482 i := by
  have hw := rxW482
  have := hm 482 i.toNat (by decide) (by omega) (by
    show bx_mdl ms (bx_mc (rxL.1 482) i.toNat).1 (bx_mc (rxL.1 482) i.toNat).2 = false
    have e : bx_mc (rxL.1 482) i.toNat = (1063, bx_s63 i.toNat) := rfl
    have e2 : bx_s63 i.toNat = 1 := by
      unfold bx_s63
      rw [if_neg (by omega)]
    rw [e, e2]
    exact h)
  rw [show ((i.toNat : Nat) : Int) = i by omega] at this
  exact this
theorem rx_same64 {ms : List (Nat × Nat)} {S S_p : Nat → Int → Int} (x2 : bx_mdl ms 1064 0 = false) (x3 : bx_mdl ms 1064 1 = false) (hm : bx_same rxL (bx_mdl ms) S S_p) {i : Int} (i0 : 0 ≤ i) (i1 : i < 12360) : S_p 483 i = S 483 i := by
  have hw : bx_wd (rxL.1 483) = 12360 := rfl
  have := hm 483 i.toNat (by decide) (by omega) (by
    show bx_mdl ms (bx_mc (rxL.1 483) i.toNat).1 (bx_mc (rxL.1 483) i.toNat).2 = false
    have e : bx_mc (rxL.1 483) i.toNat = (1064, if i.toNat < 780 then 0 else 1) := rfl
    rw [e]
    dsimp only
    split
    · exact x2
    · exact x3)
  rw [show ((i.toNat : Nat) : Int) = i by omega] at this
  exact this
theorem rxX_of {ms : List (Nat × Nat)} (hx : (!(bx_mdl ms 1063 1) && (!(bx_mdl ms 1064 0) && (!(bx_mdl ms 1064 1) && !(bx_mdl ms 12 15)))) = true) {S S_p : Nat → Int → Int} (h : rxX S) (hm : bx_same rxL (bx_mdl ms) S S_p) : rxX S_p := by
  rw [Bool.and_eq_true, Bool.and_eq_true, Bool.and_eq_true, Bool.not_eq_true', Bool.not_eq_true', Bool.not_eq_true', Bool.not_eq_true'] at hx
  obtain ⟨h1, h2, h3, h4⟩ := h
  obtain ⟨x1, x2, x3, x4⟩ := hx
  have himg : ∀ i : Int, 0 ≤ i → i < 12360 → S_p 483 i = S 483 i := fun i i0 i1 => rx_same64 x2 x3 hm i0 i1
  refine ⟨rxTq_cg h1 fun i i0 i1 => ?_, rxTq_cg h2 fun i i0 i1 => himg i (by omega) (by omega), rxTq_cg h3 fun i i0 i1 => himg _ (by omega) (by omega), ?_⟩
  · exact rx_same1 x1 hm (by omega) (by omega)
  · exact (rx_sameO hm (p := 480) (j := 15) rfl (by omega) x4 (by decide)).trans h4
noncomputable def rxSo (S : Nat → Int → Int) (start : Int) : Prop := rxX S ∧ ∃ n k : Int, 0 ≤ n ∧ n ≤ 5 ∧ 0 ≤ k ∧ k < 12 ∧ start = 780 + 900 * n + 2 + 8 * k ∧ S 480 28 = 780 + 900 * n ∧ k < S 482 (780 + 900 * n + 1)
theorem rxSo_seg {S : Nat → Int → Int} {start : Int} (h : rxSo S start) : rxLw S ∧ (rxSeg (rxOpA S) (rxArA S) (S 482 (start + 3)) (S 482 (start + 4))) ∧ rxSeg (rxOpA S) (rxArA S) (S 482 (start + 5)) (S 482 (start + 6)) := by
  obtain ⟨⟨h1, h2, h3, h4⟩, n, k, n0, n5, k0, k1, hs, hl, hk⟩ := h
  obtain ⟨a1, a2⟩ := h1 n k n0 n5 k0 hk k1
  have e1 : rxOpA S = fun i => S 482 (780 + 900 * n + 98 + 2 * i) := funext fun i => by
    unfold rxOpA
    rw [if_pos h4, hl]
  have e2 : rxArA S = fun i => S 482 (780 + 900 * n + 98 + 2 * i + 1) := funext fun i => by
    unfold rxArA
    rw [if_pos h4, hl]
  rw [e1, e2, hs]
  exact ⟨fun _ => ⟨n, n0, n5, hl⟩, a1.2.2, a2.2.2⟩
theorem rxSo_box {S : Nat → Int → Int} (hI : bx_Inv rxL S) {start c : Int} (h : rxSo S start) (hc : c ∈ [3, 4, 5, 6]) : 0 ≤ S 482 (start + c) ∧ S 482 (start + c) ≤ 400 := by
  obtain ⟨-, n, k, n0, n5, k0, k1, hs, hl, hk⟩ := h
  rw [hs]
  exact rxClz hI n0 n5 k0 k1 hc
theorem rxSo_same {ms : List (Nat × Nat)} (hx : (!(bx_mdl ms 1063 1) && (!(bx_mdl ms 1064 0) && (!(bx_mdl ms 1064 1) && !(bx_mdl ms 12 15)))) = true) (hx2 : (!(bx_mdl ms 1063 0) && !(bx_mdl ms 12 28)) = true) {S S_p : Nat → Int → Int} {start : Int} (h : rxSo S start) (hm : bx_same rxL (bx_mdl ms) S S_p) : rxSo S_p start := by
  obtain ⟨h1, n, k, n0, n5, k0, k1, hs, hl, hk⟩ := h
  refine ⟨rxX_of hx h1 hm, n, k, n0, n5, k0, k1, hs, ?_, ?_⟩
  · rw [Bool.and_eq_true, Bool.not_eq_true', Bool.not_eq_true'] at hx2
    exact (rx_sameO hm (p := 480) (j := 28) rfl (by omega) hx2.2 (by decide)).trans hl
  · rw [Bool.and_eq_true, Bool.not_eq_true', Bool.not_eq_true'] at hx2
    have hx3 := hx
    rw [Bool.and_eq_true, Bool.not_eq_true'] at hx3
    rw [rx_same1 hx3.1 hm (by omega) (by omega)]
    exact hk
noncomputable def rxCSO : bx_Ct := ([(3, (1, 480, 0)), (0, (0, 782, 5370))], some (0, (0, 0, 1)), [(12, 32), (12, 33), (12, 34), (1076, 0)], 2, [])
noncomputable def rxISO_0 (S0 : Nat → Int → Int) (ws : List Int) (S : Nat → Int → Int) (start : Int) : Prop := S = S0 ∧ ws = [480, start]
noncomputable def rxmSO_0 (S0 : Nat → Int → Int) (ws : List Int) (S : Nat → Int → Int) (start : Int) : Nat := 100
noncomputable def rxzSO_0 : rx_Z := ([(0, 0), (0, 0), (0, 0), (0, 0), (0, 0), (0, 0), (0, 0), (0, 0), (782, 5370)], [], [], 0, 0, 0, [(0, .inr (3, (0, 480))), (1, .inr (0, (8, 0)))], [])
noncomputable def rxISO_1 (S0 : Nat → Int → Int) (ws : List Int) (S : Nat → Int → Int) (start c5 c6 : Int) : Prop := rxSo S start
noncomputable def rxmSO_1 (S0 : Nat → Int → Int) (ws : List Int) (S : Nat → Int → Int) (start c5 c6 : Int) : Nat := 90
noncomputable def rxzSO_1 : rx_Z := ([(0, 0), (0, 0), (0, 0), (0, 0), (0, 0), (0, 0), (0, 0), (0, 0), (782, 5370), (0, 400), (0, 400)], [], [], 0, 0, 17, [(0, .inr (3, (0, 480))), (1, .inr (0, (8, 0)))], [.inr (0, (10, 0)), .inr (0, (9, 0))])
noncomputable def rxISO_2 (S0 : Nat → Int → Int) (ws : List Int) (S : Nat → Int → Int) (start a5 a6 : Int) : Prop := rxSo S start ∧ a5 = S 482 (start + 5) ∧ a6 = S 482 (start + 6)
noncomputable def rxmSO_2 (S0 : Nat → Int → Int) (ws : List Int) (S : Nat → Int → Int) (start a5 a6 : Int) : Nat := 80
noncomputable def rxzSO_2 : rx_Z := ([(0, 0), (0, 0), (0, 0), (0, 0), (0, 0), (0, 0), (0, 0), (0, 0), (782, 5370), (0, 400), (0, 400)], [], [], 0, 0, 38, [(0, .inr (3, (0, 480))), (1, .inr (0, (8, 0)))], [.inr (0, (10, 0)), .inr (0, (9, 0)), .inr (3, (0, 480))])
noncomputable def rxISO_3 (S0 : Nat → Int → Int) (ws : List Int) (S : Nat → Int → Int) (start a5 a6 : Int) : Prop := rxSo S start
noncomputable def rxmSO_3 (S0 : Nat → Int → Int) (ws : List Int) (S : Nat → Int → Int) (start a5 a6 : Int) : Nat := 70
noncomputable def rxzSO_3 : rx_Z := ([(0, 0), (0, 0), (0, 0), (0, 0), (0, 0), (0, 0), (0, 0), (0, 0), (782, 5370), (0, 400), (0, 400)], [], [], 0, 0, 41, [(0, .inr (3, (0, 480))), (1, .inr (0, (8, 0)))], [])
noncomputable def rxISO_4 (S0 : Nat → Int → Int) (ws : List Int) (S : Nat → Int → Int) (start a3 a4 : Int) : Prop := rxSo S start ∧ a3 = S 482 (start + 3) ∧ a4 = S 482 (start + 4)
noncomputable def rxmSO_4 (S0 : Nat → Int → Int) (ws : List Int) (S : Nat → Int → Int) (start a3 a4 : Int) : Nat := 60
noncomputable def rxzSO_4 : rx_Z := ([(0, 0), (0, 0), (0, 0), (0, 0), (0, 0), (0, 0), (0, 0), (0, 0), (782, 5370), (0, 400), (0, 400)], [], [], 0, 0, 86, [(0, .inr (3, (0, 480))), (1, .inr (0, (8, 0)))], [.inr (0, (10, 0)), .inr (0, (9, 0)), .inr (3, (0, 480))])
noncomputable def rxISO_5 (S0 : Nat → Int → Int) (ws : List Int) (S : Nat → Int → Int) (start a3 a4 : Int) : Prop := True
noncomputable def rxmSO_5 (S0 : Nat → Int → Int) (ws : List Int) (S : Nat → Int → Int) (start a3 a4 : Int) : Nat := 50
noncomputable def rxzSO_5 : rx_Z := ([(0, 0), (0, 0), (0, 0), (0, 0), (0, 0), (0, 0), (0, 0), (0, 0), (782, 5370), (0, 400), (0, 400)], [], [], 0, 0, 89, [(0, .inr (3, (0, 480))), (1, .inr (0, (8, 0)))], [])
noncomputable def rxoSO_0_0 : bx_HO := (([(0, 0), (0, 0), (0, 0), (0, 0), (0, 0), (0, 0), (0, 0), (0, 0), (782, 5370), (0, 1000), (0, 1000)], [], [(((0, 0), 1851192626986356798628605071428091275323316164720789786471825408000000), .inr (0, (10, 0))), (((0, 0), 1851192626986356798427898364641315667049494700266954532918001664000000), .inr (0, (9, 0))), (((0, 480), 3), .inr (3, (0, 482)))], 0, 0, 17, [(0, .inr (3, (0, 480))), (1, .inr (0, (8, 0)))], [.inr (0, (10, 0)), .inr (0, (9, 0))]), [(9, 0, 400), (10, 0, 400)], [], [(0, 0), (0, 0), (0, 0), (0, 0), (0, 0), (0, 0), (0, 0), (0, 0), (8, 0), (9, 0), (10, 0)], 1)
noncomputable def rxoSO_1_0 : bx_HO := (([(0, 0), (0, 0), (0, 0), (0, 0), (0, 0), (0, 0), (0, 0), (0, 0), (782, 5370), (0, 399), (1, 400), (0, 1000), (0, 1000)], [(0, (9, 0), (10, 0))], [(((0, 0), 1851192626986356798628605071428091275323316164720789786471825408000000), .inr (0, (12, 0))), (((0, 0), 1851192626986356798427898364641315667049494700266954532918001664000000), .inr (0, (11, 0))), (((0, 480), 3), .inr (3, (0, 482)))], 0, 0, 38, [(0, .inr (3, (0, 480))), (1, .inr (0, (8, 0)))], [.inr (0, (12, 0)), .inr (0, (11, 0)), .inr (3, (0, 480))]), [(11, 0, 400), (12, 0, 400)], [], [(0, 0), (0, 0), (0, 0), (0, 0), (0, 0), (0, 0), (0, 0), (0, 0), (8, 0), (11, 0), (12, 0)], 2)
noncomputable def rxoSO_1_1 : bx_HO := (([(0, 0), (0, 0), (0, 0), (0, 0), (0, 0), (0, 0), (0, 0), (0, 0), (782, 5370), (0, 400), (0, 400), (0, 1000), (0, 1000), (0, 1000)], [(3, (11, 0), (0, 2)), (1, (10, 0), (9, 0))], [(((0, 0), 1851192626986356798227191657854540058775673235813119279364177920000000), .inr (0, (13, 0))), (((0, 0), 1851192626986356798026484951067764450501851771359284025810354176000000), .inr (0, (12, 0))), (((0, 0), 1851192626986356797424364830707437625680387377997778265148882944000000), .inr (0, (11, 0))), (((0, 480), 3), .inr (3, (0, 482)))], 0, 0, 86, [(0, .inr (3, (0, 480))), (1, .inr (0, (8, 0)))], [.inr (0, (13, 0)), .inr (0, (12, 0)), .inr (3, (0, 480))]), [(12, 0, 400), (13, 0, 400)], [], [(0, 0), (0, 0), (0, 0), (0, 0), (0, 0), (0, 0), (0, 0), (0, 0), (8, 0), (12, 0), (13, 0)], 4)
noncomputable def rxeSO_1_0 : rx_End × List (Nat × Int × Int) := (([(0, 0), (0, 0), (0, 0), (0, 0), (0, 0), (0, 0), (0, 0), (0, 0), (782, 5370), (0, 400), (0, 400), (2, 2)], [(1, (10, 0), (9, 0))], [(((0, 0), 1851192626986356797424364830707437625680387377997778265148882944000000), .inr (0, (11, 0))), (((0, 480), 3), .inr (3, (0, 482)))], some (.inr (0, (0, 1)))), [])
noncomputable def rxoSO_3_0 : bx_HO := (([(0, 0), (0, 0), (0, 0), (0, 0), (0, 0), (0, 0), (0, 0), (0, 0), (782, 5370), (0, 400), (0, 400), (0, 0), ((-9223372036854775808), 9223372036854775807), (0, 1000), (0, 1000), (0, 1000)], [(3, (13, 0), (0, 2)), (3, (12, 0), (0, 0))], [(((0, 0), 1851192626986356798227191657854540058775673235813119279364177920000000), .inr (0, (15, 0))), (((0, 0), 1851192626986356798026484951067764450501851771359284025810354176000000), .inr (0, (14, 0))), (((0, 0), 1851192626986356797424364830707437625680387377997778265148882944000000), .inr (0, (13, 0))), (((0, 480), 3), .inr (3, (0, 482))), (((0, 0), 1851192626986356804047661654340614391147126342002606545112662016000000), .inr (1, (12, 0))), (((0, 480), 33), .inr (1, (12, 0))), (((0, 0), 1851192626986356803846954947553838782873304877548771291558838272000000), .inr (0, (11, 0))), (((0, 480), 32), .inr (0, (11, 0)))], 0, 0, 86, [(0, .inr (3, (0, 480))), (1, .inr (0, (8, 0)))], [.inr (0, (15, 0)), .inr (0, (14, 0)), .inr (3, (0, 480))]), [(14, 0, 400), (15, 0, 400)], [], [(0, 0), (0, 0), (0, 0), (0, 0), (0, 0), (0, 0), (0, 0), (0, 0), (8, 0), (14, 0), (15, 0)], 4)
noncomputable def rxeSO_3_0 : rx_End × List (Nat × Int × Int) := (([(0, 0), (0, 0), (0, 0), (0, 0), (0, 0), (0, 0), (0, 0), (0, 0), (782, 5370), (0, 400), (0, 400), (0, 0), (0, 0)], [], [(((0, 0), 1851192626986356804047661654340614391147126342002606545112662016000000), .inr (1, (12, 0))), (((0, 480), 33), .inr (1, (12, 0))), (((0, 0), 1851192626986356803846954947553838782873304877548771291558838272000000), .inr (0, (11, 0))), (((0, 480), 32), .inr (0, (11, 0)))], some (.inr (0, (0, 0)))), [])
noncomputable def rxeSO_3_1 : rx_End × List (Nat × Int × Int) := (([(0, 0), (0, 0), (0, 0), (0, 0), (0, 0), (0, 0), (0, 0), (0, 0), (782, 5370), (0, 400), (0, 400), (0, 0), ((-9223372036854775808), 9223372036854775807), (2, 2)], [(3, (12, 0), (0, 0))], [(((0, 0), 1851192626986356797424364830707437625680387377997778265148882944000000), .inr (0, (13, 0))), (((0, 480), 3), .inr (3, (0, 482))), (((0, 0), 1851192626986356804047661654340614391147126342002606545112662016000000), .inr (1, (12, 0))), (((0, 480), 33), .inr (1, (12, 0))), (((0, 0), 1851192626986356803846954947553838782873304877548771291558838272000000), .inr (0, (11, 0))), (((0, 480), 32), .inr (0, (11, 0)))], some (.inr (0, (0, 1)))), [])
noncomputable def rxeSO_3_2 : rx_End × List (Nat × Int × Int) := (([(0, 0), (0, 0), (0, 0), (0, 0), (0, 0), (0, 0), (0, 0), (0, 0), (782, 5370), (0, 400), (0, 400), (1, 1)], [(3, (11, 0), (0, 0))], [(((0, 0), 1851192626986356803846954947553838782873304877548771291558838272000000), .inr (0, (11, 0))), (((0, 480), 32), .inr (0, (11, 0)))], some (.inr (0, (0, 0)))), [])
noncomputable def rxeSO_5_0 : rx_End × List (Nat × Int × Int) := (([(0, 0), (0, 0), (0, 0), (0, 0), (0, 0), (0, 0), (0, 0), (0, 0), (782, 5370), (0, 400), (0, 400), ((-9223372036854775808), 9223372036854775807), (0, 0)], [], [(((0, 0), 1851192626986356803846954947553838782873304877548771291558838272000000), .inr (0, (12, 0))), (((0, 480), 32), .inr (0, (12, 0))), (((0, 0), 1851192626986356804248368361127389999420947806456441798666485763000000), .inr (1, (11, 0))), (((0, 480), 34), .inr (1, (11, 0))), (((0, 0), 1851192626986356804047661654340614391147126342002606545112662016000000), .inr (1, (11, 0))), (((0, 480), 33), .inr (1, (11, 0)))], some (.inr (0, (0, 1)))), [])
noncomputable def rxeSO_5_1 : rx_End × List (Nat × Int × Int) := (([(0, 0), (0, 0), (0, 0), (0, 0), (0, 0), (0, 0), (0, 0), (0, 0), (782, 5370), (0, 400), (0, 400), ((-9223372036854775808), 9223372036854775807), (1, 1)], [(3, (12, 0), (0, 0))], [(((0, 0), 1851192626986356803846954947553838782873304877548771291558838272000000), .inr (0, (12, 0))), (((0, 480), 32), .inr (0, (12, 0))), (((0, 0), 1851192626986356804248368361127389999420947806456441798666485763000000), .inr (1, (11, 0))), (((0, 480), 34), .inr (1, (11, 0))), (((0, 0), 1851192626986356804047661654340614391147126342002606545112662016000000), .inr (1, (11, 0))), (((0, 480), 33), .inr (1, (11, 0)))], some (.inr (0, (0, 0)))), [])
noncomputable def rxYSO : List bx_HE := [(rxzSO_0, [rxoSO_0_0], []), (rxzSO_1, [rxoSO_1_0, rxoSO_1_1], [rxeSO_1_0]), (rxzSO_2, [], []), (rxzSO_3, [rxoSO_3_0], [rxeSO_3_0, rxeSO_3_1, rxeSO_3_2]), (rxzSO_4, [], []), (rxzSO_5, [], [rxeSO_5_0, rxeSO_5_1])]
noncomputable def rxUSO (q : bx_HE) : Bool := Nat.beq (rx_zpc q.1) 38 || Nat.beq (rx_zpc q.1) 86
noncomputable def rxYBSO : bx_B := (rxV, rxNP, rxDmf, bx_mdH rxCSO.2.2.1)
set_option maxRecDepth 100000 in
theorem rxYcSO : bx_chkH rxYBSO rxM288 rxCSO rxYSO (rxUSO, fun cut z => rx_ex2 (rxCT rxYBSO rxCnE) cut 30000 rxCSO.2.2.2.1 288 z) = true := by decide +kernel
noncomputable def rxISO (S0 : Nat → Int → Int) (ws : List Int) (i : Nat) : bx_SP := fun S r => match i with | 0 => rxISO_0 S0 ws S (r 8) | 1 => rxISO_1 S0 ws S (r 8) (r 9) (r 10) | 2 => rxISO_2 S0 ws S (r 8) (r 9) (r 10) | 3 => rxISO_3 S0 ws S (r 8) (r 9) (r 10) | 4 => rxISO_4 S0 ws S (r 8) (r 9) (r 10) | 5 => rxISO_5 S0 ws S (r 8) (r 9) (r 10) | _ => False
noncomputable def rxmSO (S0 : Nat → Int → Int) (ws : List Int) (i : Nat) (S : Nat → Int → Int) (r : Nat → Int) : Nat := match i with | 0 => rxmSO_0 S0 ws S (r 8) | 1 => rxmSO_1 S0 ws S (r 8) (r 9) (r 10) | 2 => rxmSO_2 S0 ws S (r 8) (r 9) (r 10) | 3 => rxmSO_3 S0 ws S (r 8) (r 9) (r 10) | 4 => rxmSO_4 S0 ws S (r 8) (r 9) (r 10) | 5 => rxmSO_5 S0 ws S (r 8) (r 9) (r 10) | _ => 0
noncomputable def rxPSO (S0 : Nat → Int → Int) (ws : List Int) : Prop := ∃ start : Int, ws = [480, start] ∧ rxSo S0 start
noncomputable def rxPSSO (S0 : Nat → Int → Int) (ws : List Int) (S : Nat → Int → Int) (w : Option Int) : Prop := True
theorem rxkSO_2 {S0 : Nat → Int → Int} {ws : List Int} {S : Nat → Int → Int} {start a5 a6 : Int} (hP : rxPSO S0 ws) (hin : bx_same rxL (bx_mdl rxCSO.2.2.1) S0 S) (I0 : bx_Inv rxL S) (hinv : rxISO_2 S0 ws S start a5 a6) (l8 : 782 ≤ start) (u8 : start ≤ 5370) (l9 : 0 ≤ a5) (u9 : a5 ≤ 400) (l10 : 0 ≤ a6) (u10 : a6 ≤ 400) : rxPRA S [480, a5, a6] ∧ ∀ (S_p : Nat → Int → Int), rxPSRA S [480, a5, a6] S_p none → bx_Inv rxL S_p → bx_same rxL (bx_mdl rxCRA.2.2.1) S S_p → rxISO_3 S0 ws S_p start a5 a6 ∧ rxmSO_3 S0 ws S_p start a5 a6 < rxmSO_2 S0 ws S start a5 a6 := by
  obtain ⟨h, rfl, rfl⟩ := hinv
  obtain ⟨s1, s2, s3⟩ := rxSo_seg h
  refine ⟨⟨_, _, rfl, l9, s1, fun _ => s3⟩, fun S_p hq I1 hsm => ⟨rxSo_same (by decide +kernel) (by decide +kernel) h hsm, by unfold rxmSO_2 rxmSO_3; omega⟩⟩
theorem rxsSO_2 {X : (Nat → Int → Int) → Prop} {S0 : Nat → Int → Int} {ws : List Int} (hP : rxPSO S0 ws) : rx_obK X S0 rxCSO.2.2.1 rxCRA.2.2.1 (rxISO S0 ws) (rxmSO S0 ws) 2 3 rxzSO_2 rxzSO_3 [.inr (3, (0, 480)), .inr (0, (9, 0)), .inr (0, (10, 0))] none rxPRA rxPSRA := by
  intro S r hinv hXS I0 hin hs_ hf_
  have b_ := bx_bds_sat hs_
  have f_ := bx_fcl_ok hs_.1 hf_
  obtain ⟨⟨l8, u8⟩, ⟨l9, u9⟩, ⟨l10, u10⟩, -⟩ := b_
  have g := rxkSO_2 hP hin I0 hinv l8 u8 l9 u9 l10 u10
  have ea : List.map (bx_num r) [.inr (3, (0, 480)), .inr (0, (9, 0)), .inr (0, (10, 0))] = [480, (r 9), (r 10)] := by
    simp only [List.map_cons, List.map_nil, bx_xv_ok hs_.1]
    rfl
  rw [ea]
  refine ⟨g.1, fun S_p w r_p hPS hX_p I1 hsm hr hw hs_p => ?_⟩
  have hw : w = none := hPS.1
  subst hw
  have g2 := g.2 S_p hPS I1 hsm
  show rxISO_3 S0 ws S_p (r_p 8) (r_p 9) (r_p 10) ∧ rxmSO_3 S0 ws S_p (r_p 8) (r_p 9) (r_p 10) < _
  rw [hr 8 (by decide), hr 9 (by decide), hr 10 (by decide)]
  exact g2
theorem rxkSO_4 {S0 : Nat → Int → Int} {ws : List Int} {S : Nat → Int → Int} {start a3 a4 : Int} (hP : rxPSO S0 ws) (hin : bx_same rxL (bx_mdl rxCSO.2.2.1) S0 S) (I0 : bx_Inv rxL S) (hinv : rxISO_4 S0 ws S start a3 a4) (l8 : 782 ≤ start) (u8 : start ≤ 5370) (l9 : 0 ≤ a3) (u9 : a3 ≤ 400) (l10 : 0 ≤ a4) (u10 : a4 ≤ 400) : rxPRA S [480, a3, a4] ∧ ∀ (S_p : Nat → Int → Int), rxPSRA S [480, a3, a4] S_p none → bx_Inv rxL S_p → bx_same rxL (bx_mdl rxCRA.2.2.1) S S_p → rxISO_5 S0 ws S_p start a3 a4 ∧ rxmSO_5 S0 ws S_p start a3 a4 < rxmSO_4 S0 ws S start a3 a4 := by
  obtain ⟨h, rfl, rfl⟩ := hinv
  obtain ⟨s1, s2, s3⟩ := rxSo_seg h
  refine ⟨⟨_, _, rfl, l9, s1, fun _ => s2⟩, fun S_p hq I1 hsm => ⟨trivial, by unfold rxmSO_4 rxmSO_5; omega⟩⟩
theorem rxsSO_4 {X : (Nat → Int → Int) → Prop} {S0 : Nat → Int → Int} {ws : List Int} (hP : rxPSO S0 ws) : rx_obK X S0 rxCSO.2.2.1 rxCRA.2.2.1 (rxISO S0 ws) (rxmSO S0 ws) 4 5 rxzSO_4 rxzSO_5 [.inr (3, (0, 480)), .inr (0, (9, 0)), .inr (0, (10, 0))] none rxPRA rxPSRA := by
  intro S r hinv hXS I0 hin hs_ hf_
  have b_ := bx_bds_sat hs_
  have f_ := bx_fcl_ok hs_.1 hf_
  obtain ⟨⟨l8, u8⟩, ⟨l9, u9⟩, ⟨l10, u10⟩, -⟩ := b_
  have g := rxkSO_4 hP hin I0 hinv l8 u8 l9 u9 l10 u10
  have ea : List.map (bx_num r) [.inr (3, (0, 480)), .inr (0, (9, 0)), .inr (0, (10, 0))] = [480, (r 9), (r 10)] := by
    simp only [List.map_cons, List.map_nil, bx_xv_ok hs_.1]
    rfl
  rw [ea]
  refine ⟨g.1, fun S_p w r_p hPS hX_p I1 hsm hr hw hs_p => ?_⟩
  have hw : w = none := hPS.1
  subst hw
  have g2 := g.2 S_p hPS I1 hsm
  show rxISO_5 S0 ws S_p (r_p 8) (r_p 9) (r_p 10) ∧ rxmSO_5 S0 ws S_p (r_p 8) (r_p 9) (r_p 10) < _
  rw [hr 8 (by decide), hr 9 (by decide), hr 10 (by decide)]
  exact g2
theorem rxcSO_0_0 {S0 : Nat → Int → Int} {ws : List Int} {S : Nat → Int → Int} {start x9 x10 : Int} (hP : rxPSO S0 ws) (hin : bx_same rxL (bx_mdl rxCSO.2.2.1) S0 S) (I0 : bx_Inv rxL S) (hinv : rxISO_0 S0 ws S start) (l8 : 782 ≤ start) (u8 : start ≤ 5370) (l9 : 0 ≤ x9) (u9 : x9 ≤ 1000) (l10 : 0 ≤ x10) (u10 : x10 ≤ 1000) (e1 : S 482 (start + 5) = x9) (e0 : S 482 (start + 6) = x10) : ((0 ≤ x9 ∧ x9 ≤ 400) ∧ (0 ≤ x10 ∧ x10 ≤ 400) ∧ True) ∧ (True) ∧ rxISO_1 S0 ws S start x9 x10 ∧ rxmSO_1 S0 ws S start x9 x10 < rxmSO_0 S0 ws S start := by
  obtain ⟨rfl, hw⟩ := hinv
  obtain ⟨st, hw2, h⟩ := hP
  have q1 : start = st := Option.some.inj (congrArg (fun l => l[1]?) (hw.symm.trans hw2))
  subst q1
  have g3 := rxSo_box I0 h (c := 3) (by decide)
  have g4 := rxSo_box I0 h (c := 4) (by decide)
  have g5 := rxSo_box I0 h (c := 5) (by decide)
  have g6 := rxSo_box I0 h (c := 6) (by decide)
  exact ⟨⟨by omega, by omega, trivial⟩, trivial, h, by unfold rxmSO_0 rxmSO_1; omega⟩
theorem rxgSO_0_0 {X : (Nat → Int → Int) → Prop} {S0 : Nat → Int → Int} {ws : List Int} (hP : rxPSO S0 ws) : bx_obC rxL X S0 rxCSO.2.2.1 (rxISO S0 ws) (rxmSO S0 ws) 0 rxzSO_0 rxoSO_0_0 := by
  intro S S_p r r_p hinv hX hin hsm_ hseg
  obtain ⟨I0, I1, h0_, hr_, b_, f_, d_⟩ := bx_cl (evs := [(0, (0, 482), (8, 6), .inr (0, (10, 0))), (0, (0, 482), (8, 5), .inr (0, (9, 0)))]) (fvs := []) hseg (by decide +kernel) (by decide +kernel)
  have hinv : rxISO_0 S0 ws S (r 8) := hinv
  rw [← hr_ 8 (by decide)] at hinv
  obtain ⟨⟨l8, u8⟩, ⟨l9, u9⟩, ⟨l10, u10⟩, -⟩ := b_
  obtain ⟨e0, ⟨e1, w_⟩⟩ := d_
  subst w_
  have g := rxcSO_0_0 hP hin I0 hinv l8 u8 l9 u9 l10 u10 e1 e0
  refine ⟨bx_narP_ok (l := [(9, 0, 400), (10, 0, 400)]) g.1, bx_nfP_ok h0_ (fvs := []) (by decide +kernel) g.2.1, ?_, ?_⟩
  · show rxISO_1 S0 ws S_p (bx_val [(0, 0), (0, 0), (0, 0), (0, 0), (0, 0), (0, 0), (0, 0), (0, 0), (8, 0), (9, 0), (10, 0)] r_p 8) (bx_val [(0, 0), (0, 0), (0, 0), (0, 0), (0, 0), (0, 0), (0, 0), (0, 0), (8, 0), (9, 0), (10, 0)] r_p 9) (bx_val [(0, 0), (0, 0), (0, 0), (0, 0), (0, 0), (0, 0), (0, 0), (0, 0), (8, 0), (9, 0), (10, 0)] r_p 10)
    rw [bx_val_x (n := 8) (e := (8, 0)) h0_ rfl, bx_val_x (n := 9) (e := (9, 0)) h0_ rfl, bx_val_x (n := 10) (e := (10, 0)) h0_ rfl]
    exact g.2.2.1
  · show rxmSO_1 S0 ws S_p (bx_val [(0, 0), (0, 0), (0, 0), (0, 0), (0, 0), (0, 0), (0, 0), (0, 0), (8, 0), (9, 0), (10, 0)] r_p 8) (bx_val [(0, 0), (0, 0), (0, 0), (0, 0), (0, 0), (0, 0), (0, 0), (0, 0), (8, 0), (9, 0), (10, 0)] r_p 9) (bx_val [(0, 0), (0, 0), (0, 0), (0, 0), (0, 0), (0, 0), (0, 0), (0, 0), (8, 0), (9, 0), (10, 0)] r_p 10) < rxmSO_0 S0 ws S_p (r 8)
    rw [bx_val_x (n := 8) (e := (8, 0)) h0_ rfl, bx_val_x (n := 9) (e := (9, 0)) h0_ rfl, bx_val_x (n := 10) (e := (10, 0)) h0_ rfl, ← hr_ 8 (by decide)]
    exact g.2.2.2
theorem rxcSO_1_0 {S0 : Nat → Int → Int} {ws : List Int} {S : Nat → Int → Int} {start c5 c6 x11 x12 : Int} (hP : rxPSO S0 ws) (hin : bx_same rxL (bx_mdl rxCSO.2.2.1) S0 S) (I0 : bx_Inv rxL S) (hinv : rxISO_1 S0 ws S start c5 c6) (l8 : 782 ≤ start) (u8 : start ≤ 5370) (l9 : 0 ≤ c5) (u9 : c5 ≤ 399) (l10 : 1 ≤ c6) (u10 : c6 ≤ 400) (l11 : 0 ≤ x11) (u11 : x11 ≤ 1000) (l12 : 0 ≤ x12) (u12 : x12 ≤ 1000) (f0 : c5 < c6) (e1 : S 482 (start + 5) = x11) (e0 : S 482 (start + 6) = x12) : ((0 ≤ x11 ∧ x11 ≤ 400) ∧ (0 ≤ x12 ∧ x12 ≤ 400) ∧ True) ∧ (True) ∧ rxISO_2 S0 ws S start x11 x12 ∧ rxmSO_2 S0 ws S start x11 x12 < rxmSO_1 S0 ws S start c5 c6 := by
  have h : rxSo S start := hinv
  have g3 := rxSo_box I0 h (c := 3) (by decide)
  have g4 := rxSo_box I0 h (c := 4) (by decide)
  have g5 := rxSo_box I0 h (c := 5) (by decide)
  have g6 := rxSo_box I0 h (c := 6) (by decide)
  exact ⟨⟨by omega, by omega, trivial⟩, trivial, ⟨h, e1.symm, e0.symm⟩, by unfold rxmSO_1 rxmSO_2; omega⟩
theorem rxgSO_1_0 {X : (Nat → Int → Int) → Prop} {S0 : Nat → Int → Int} {ws : List Int} (hP : rxPSO S0 ws) : bx_obC rxL X S0 rxCSO.2.2.1 (rxISO S0 ws) (rxmSO S0 ws) 1 rxzSO_1 rxoSO_1_0 := by
  intro S S_p r r_p hinv hX hin hsm_ hseg
  obtain ⟨I0, I1, h0_, hr_, b_, f_, d_⟩ := bx_cl (evs := [(0, (0, 482), (8, 6), .inr (0, (12, 0))), (0, (0, 482), (8, 5), .inr (0, (11, 0)))]) (fvs := [(0, (9, 0), (10, 0), (0, 0))]) hseg (by decide +kernel) (by decide +kernel)
  have hinv : rxISO_1 S0 ws S (r 8) (r 9) (r 10) := hinv
  rw [← hr_ 8 (by decide), ← hr_ 9 (by decide), ← hr_ 10 (by decide)] at hinv
  obtain ⟨⟨l8, u8⟩, ⟨l9, u9⟩, ⟨l10, u10⟩, ⟨l11, u11⟩, ⟨l12, u12⟩, -⟩ := b_
  obtain ⟨f0, -⟩ := f_
  obtain ⟨e0, ⟨e1, w_⟩⟩ := d_
  subst w_
  have g := rxcSO_1_0 hP hin I0 hinv l8 u8 l9 u9 l10 u10 l11 u11 l12 u12 f0 e1 e0
  refine ⟨bx_narP_ok (l := [(11, 0, 400), (12, 0, 400)]) g.1, bx_nfP_ok h0_ (fvs := []) (by decide +kernel) g.2.1, ?_, ?_⟩
  · show rxISO_2 S0 ws S_p (bx_val [(0, 0), (0, 0), (0, 0), (0, 0), (0, 0), (0, 0), (0, 0), (0, 0), (8, 0), (11, 0), (12, 0)] r_p 8) (bx_val [(0, 0), (0, 0), (0, 0), (0, 0), (0, 0), (0, 0), (0, 0), (0, 0), (8, 0), (11, 0), (12, 0)] r_p 9) (bx_val [(0, 0), (0, 0), (0, 0), (0, 0), (0, 0), (0, 0), (0, 0), (0, 0), (8, 0), (11, 0), (12, 0)] r_p 10)
    rw [bx_val_x (n := 8) (e := (8, 0)) h0_ rfl, bx_val_x (n := 9) (e := (11, 0)) h0_ rfl, bx_val_x (n := 10) (e := (12, 0)) h0_ rfl]
    exact g.2.2.1
  · show rxmSO_2 S0 ws S_p (bx_val [(0, 0), (0, 0), (0, 0), (0, 0), (0, 0), (0, 0), (0, 0), (0, 0), (8, 0), (11, 0), (12, 0)] r_p 8) (bx_val [(0, 0), (0, 0), (0, 0), (0, 0), (0, 0), (0, 0), (0, 0), (0, 0), (8, 0), (11, 0), (12, 0)] r_p 9) (bx_val [(0, 0), (0, 0), (0, 0), (0, 0), (0, 0), (0, 0), (0, 0), (0, 0), (8, 0), (11, 0), (12, 0)] r_p 10) < rxmSO_1 S0 ws S_p (r 8) (r 9) (r 10)
    rw [bx_val_x (n := 8) (e := (8, 0)) h0_ rfl, bx_val_x (n := 9) (e := (11, 0)) h0_ rfl, bx_val_x (n := 10) (e := (12, 0)) h0_ rfl, ← hr_ 8 (by decide), ← hr_ 9 (by decide), ← hr_ 10 (by decide)]
    exact g.2.2.2
theorem rxcSO_1_1 {S0 : Nat → Int → Int} {ws : List Int} {S : Nat → Int → Int} {start c5 c6 x11 x12 x13 : Int} (hP : rxPSO S0 ws) (hin : bx_same rxL (bx_mdl rxCSO.2.2.1) S0 S) (I0 : bx_Inv rxL S) (hinv : rxISO_1 S0 ws S start c5 c6) (l8 : 782 ≤ start) (u8 : start ≤ 5370) (l9 : 0 ≤ c5) (u9 : c5 ≤ 400) (l10 : 0 ≤ c6) (u10 : c6 ≤ 400) (l11 : 0 ≤ x11) (u11 : x11 ≤ 1000) (l12 : 0 ≤ x12) (u12 : x12 ≤ 1000) (l13 : 0 ≤ x13) (u13 : x13 ≤ 1000) (f0 : x11 ≠ 2) (f1 : c6 ≤ c5) (e2 : S 482 start = x11) (e1 : S 482 (start + 3) = x12) (e0 : S 482 (start + 4) = x13) : ((0 ≤ x12 ∧ x12 ≤ 400) ∧ (0 ≤ x13 ∧ x13 ≤ 400) ∧ True) ∧ (True) ∧ rxISO_4 S0 ws S start x12 x13 ∧ rxmSO_4 S0 ws S start x12 x13 < rxmSO_1 S0 ws S start c5 c6 := by
  have h : rxSo S start := hinv
  have g3 := rxSo_box I0 h (c := 3) (by decide)
  have g4 := rxSo_box I0 h (c := 4) (by decide)
  have g5 := rxSo_box I0 h (c := 5) (by decide)
  have g6 := rxSo_box I0 h (c := 6) (by decide)
  exact ⟨⟨by omega, by omega, trivial⟩, trivial, ⟨h, e1.symm, e0.symm⟩, by unfold rxmSO_1 rxmSO_4; omega⟩
theorem rxgSO_1_1 {X : (Nat → Int → Int) → Prop} {S0 : Nat → Int → Int} {ws : List Int} (hP : rxPSO S0 ws) : bx_obC rxL X S0 rxCSO.2.2.1 (rxISO S0 ws) (rxmSO S0 ws) 1 rxzSO_1 rxoSO_1_1 := by
  intro S S_p r r_p hinv hX hin hsm_ hseg
  obtain ⟨I0, I1, h0_, hr_, b_, f_, d_⟩ := bx_cl (evs := [(0, (0, 482), (8, 4), .inr (0, (13, 0))), (0, (0, 482), (8, 3), .inr (0, (12, 0))), (0, (0, 482), (8, 0), .inr (0, (11, 0)))]) (fvs := [(3, (11, 0), (0, 2), (0, 0)), (1, (10, 0), (9, 0), (0, 0))]) hseg (by decide +kernel) (by decide +kernel)
  have hinv : rxISO_1 S0 ws S (r 8) (r 9) (r 10) := hinv
  rw [← hr_ 8 (by decide), ← hr_ 9 (by decide), ← hr_ 10 (by decide)] at hinv
  obtain ⟨⟨l8, u8⟩, ⟨l9, u9⟩, ⟨l10, u10⟩, ⟨l11, u11⟩, ⟨l12, u12⟩, ⟨l13, u13⟩, -⟩ := b_
  obtain ⟨f0, f1, -⟩ := f_
  obtain ⟨e0, ⟨e1, ⟨e2, w_⟩⟩⟩ := d_
  subst w_
  have g := rxcSO_1_1 hP hin I0 hinv l8 u8 l9 u9 l10 u10 l11 u11 l12 u12 l13 u13 f0 f1 e2 e1 e0
  refine ⟨bx_narP_ok (l := [(12, 0, 400), (13, 0, 400)]) g.1, bx_nfP_ok h0_ (fvs := []) (by decide +kernel) g.2.1, ?_, ?_⟩
  · show rxISO_4 S0 ws S_p (bx_val [(0, 0), (0, 0), (0, 0), (0, 0), (0, 0), (0, 0), (0, 0), (0, 0), (8, 0), (12, 0), (13, 0)] r_p 8) (bx_val [(0, 0), (0, 0), (0, 0), (0, 0), (0, 0), (0, 0), (0, 0), (0, 0), (8, 0), (12, 0), (13, 0)] r_p 9) (bx_val [(0, 0), (0, 0), (0, 0), (0, 0), (0, 0), (0, 0), (0, 0), (0, 0), (8, 0), (12, 0), (13, 0)] r_p 10)
    rw [bx_val_x (n := 8) (e := (8, 0)) h0_ rfl, bx_val_x (n := 9) (e := (12, 0)) h0_ rfl, bx_val_x (n := 10) (e := (13, 0)) h0_ rfl]
    exact g.2.2.1
  · show rxmSO_4 S0 ws S_p (bx_val [(0, 0), (0, 0), (0, 0), (0, 0), (0, 0), (0, 0), (0, 0), (0, 0), (8, 0), (12, 0), (13, 0)] r_p 8) (bx_val [(0, 0), (0, 0), (0, 0), (0, 0), (0, 0), (0, 0), (0, 0), (0, 0), (8, 0), (12, 0), (13, 0)] r_p 9) (bx_val [(0, 0), (0, 0), (0, 0), (0, 0), (0, 0), (0, 0), (0, 0), (0, 0), (8, 0), (12, 0), (13, 0)] r_p 10) < rxmSO_1 S0 ws S_p (r 8) (r 9) (r 10)
    rw [bx_val_x (n := 8) (e := (8, 0)) h0_ rfl, bx_val_x (n := 9) (e := (12, 0)) h0_ rfl, bx_val_x (n := 10) (e := (13, 0)) h0_ rfl, ← hr_ 8 (by decide), ← hr_ 9 (by decide), ← hr_ 10 (by decide)]
    exact g.2.2.2
theorem rxdSO_1_0 {S0 : Nat → Int → Int} {ws : List Int} {S : Nat → Int → Int} {start c5 c6 x11 : Int} (hP : rxPSO S0 ws) (hin : bx_same rxL (bx_mdl rxCSO.2.2.1) S0 S) (hin2 : bx_same rxL (bx_mdl rxCSO.2.2.1) S S) (I0 : bx_Inv rxL S) (I1 : bx_Inv rxL S) (hinv : rxISO_1 S0 ws S start c5 c6) (l8 : 782 ≤ start) (u8 : start ≤ 5370) (l9 : 0 ≤ c5) (u9 : c5 ≤ 400) (l10 : 0 ≤ c6) (u10 : c6 ≤ 400) (l11 : 2 ≤ x11) (u11 : x11 ≤ 2) (f0 : c6 ≤ c5) (e0 : S 482 start = x11) : (True) ∧ rxPSSO S0 ws S (some 1) := by
  exact ⟨trivial, trivial⟩
theorem rxfSO_1_0 {X : (Nat → Int → Int) → Prop} {S0 : Nat → Int → Int} {ws : List Int} (hP : rxPSO S0 ws) : bx_obE rxL X S0 rxCSO.2.2.1 (rxISO S0 ws) (rxPSSO S0 ws) 1 rxzSO_1 rxeSO_1_0 := by
  intro S S_p r r_p hinv hX hin hsm_ hseg
  obtain ⟨I0, I1, h0_, hr_, b_, f_, d_⟩ := bx_cl (evs := [(0, (0, 482), (8, 0), .inr (0, (11, 0)))]) (fvs := [(1, (10, 0), (9, 0), (0, 0))]) hseg (by decide +kernel) (by decide +kernel)
  have hinv : rxISO_1 S0 ws S (r 8) (r 9) (r 10) := hinv
  rw [← hr_ 8 (by decide), ← hr_ 9 (by decide), ← hr_ 10 (by decide)] at hinv
  obtain ⟨⟨l8, u8⟩, ⟨l9, u9⟩, ⟨l10, u10⟩, ⟨l11, u11⟩, -⟩ := b_
  obtain ⟨f0, -⟩ := f_
  obtain ⟨e0, w_⟩ := d_
  subst w_
  have g := rxdSO_1_0 hP hin hsm_ I0 I1 hinv l8 u8 l9 u9 l10 u10 l11 u11 f0 e0
  refine ⟨bx_narP_ok (l := []) g.1, ?_⟩
  show rxPSSO S0 ws S_p (some (bx_num r_p (.inr (0, (0, 1)))))
  rw [bx_xv_ok h0_]
  exact g.2
theorem rxcSO_3_0 {S0 : Nat → Int → Int} {ws : List Int} {S : Nat → Int → Int} {start a5 a6 x11 x12 x13 x14 x15 : Int} (hP : rxPSO S0 ws) (hin : bx_same rxL (bx_mdl rxCSO.2.2.1) S0 S) (I0 : bx_Inv rxL S) (hinv : rxISO_3 S0 ws S start a5 a6) (l8 : 782 ≤ start) (u8 : start ≤ 5370) (l9 : 0 ≤ a5) (u9 : a5 ≤ 400) (l10 : 0 ≤ a6) (u10 : a6 ≤ 400) (l11 : 0 ≤ x11) (u11 : x11 ≤ 0) (l12 : (-9223372036854775808) ≤ x12) (u12 : x12 ≤ 9223372036854775807) (l13 : 0 ≤ x13) (u13 : x13 ≤ 1000) (l14 : 0 ≤ x14) (u14 : x14 ≤ 1000) (l15 : 0 ≤ x15) (u15 : x15 ≤ 1000) (f0 : x13 ≠ 2) (f1 : x12 ≠ 0) (e4 : S 480 32 = x11) (e3 : S 480 33 = x12) (e2 : S 482 start = x13) (e1 : S 482 (start + 3) = x14) (e0 : S 482 (start + 4) = x15) : ((0 ≤ x14 ∧ x14 ≤ 400) ∧ (0 ≤ x15 ∧ x15 ≤ 400) ∧ True) ∧ (True) ∧ rxISO_4 S0 ws S start x14 x15 ∧ rxmSO_4 S0 ws S start x14 x15 < rxmSO_3 S0 ws S start a5 a6 := by
  have h : rxSo S start := hinv
  have g3 := rxSo_box I0 h (c := 3) (by decide)
  have g4 := rxSo_box I0 h (c := 4) (by decide)
  have g5 := rxSo_box I0 h (c := 5) (by decide)
  have g6 := rxSo_box I0 h (c := 6) (by decide)
  exact ⟨⟨by omega, by omega, trivial⟩, trivial, ⟨h, e1.symm, e0.symm⟩, by unfold rxmSO_3 rxmSO_4; omega⟩
theorem rxgSO_3_0 {X : (Nat → Int → Int) → Prop} {S0 : Nat → Int → Int} {ws : List Int} (hP : rxPSO S0 ws) : bx_obC rxL X S0 rxCSO.2.2.1 (rxISO S0 ws) (rxmSO S0 ws) 3 rxzSO_3 rxoSO_3_0 := by
  intro S S_p r r_p hinv hX hin hsm_ hseg
  obtain ⟨I0, I1, h0_, hr_, b_, f_, d_⟩ := bx_cl (evs := [(0, (0, 482), (8, 4), .inr (0, (15, 0))), (0, (0, 482), (8, 3), .inr (0, (14, 0))), (0, (0, 482), (8, 0), .inr (0, (13, 0))), (0, (0, 480), (0, 33), .inr (1, (12, 0))), (0, (0, 480), (0, 32), .inr (0, (11, 0)))]) (fvs := [(3, (13, 0), (0, 2), (0, 0)), (3, (12, 0), (0, 0), (0, 0))]) hseg (by decide +kernel) (by decide +kernel)
  have hinv : rxISO_3 S0 ws S (r 8) (r 9) (r 10) := hinv
  rw [← hr_ 8 (by decide), ← hr_ 9 (by decide), ← hr_ 10 (by decide)] at hinv
  obtain ⟨⟨l8, u8⟩, ⟨l9, u9⟩, ⟨l10, u10⟩, ⟨l11, u11⟩, ⟨l12, u12⟩, ⟨l13, u13⟩, ⟨l14, u14⟩, ⟨l15, u15⟩, -⟩ := b_
  obtain ⟨f0, f1, -⟩ := f_
  obtain ⟨e0, ⟨e1, ⟨e2, ⟨e3, ⟨e4, w_⟩⟩⟩⟩⟩ := d_
  subst w_
  have g := rxcSO_3_0 hP hin I0 hinv l8 u8 l9 u9 l10 u10 l11 u11 l12 u12 l13 u13 l14 u14 l15 u15 f0 f1 e4 e3 e2 e1 e0
  refine ⟨bx_narP_ok (l := [(14, 0, 400), (15, 0, 400)]) g.1, bx_nfP_ok h0_ (fvs := []) (by decide +kernel) g.2.1, ?_, ?_⟩
  · show rxISO_4 S0 ws S_p (bx_val [(0, 0), (0, 0), (0, 0), (0, 0), (0, 0), (0, 0), (0, 0), (0, 0), (8, 0), (14, 0), (15, 0)] r_p 8) (bx_val [(0, 0), (0, 0), (0, 0), (0, 0), (0, 0), (0, 0), (0, 0), (0, 0), (8, 0), (14, 0), (15, 0)] r_p 9) (bx_val [(0, 0), (0, 0), (0, 0), (0, 0), (0, 0), (0, 0), (0, 0), (0, 0), (8, 0), (14, 0), (15, 0)] r_p 10)
    rw [bx_val_x (n := 8) (e := (8, 0)) h0_ rfl, bx_val_x (n := 9) (e := (14, 0)) h0_ rfl, bx_val_x (n := 10) (e := (15, 0)) h0_ rfl]
    exact g.2.2.1
  · show rxmSO_4 S0 ws S_p (bx_val [(0, 0), (0, 0), (0, 0), (0, 0), (0, 0), (0, 0), (0, 0), (0, 0), (8, 0), (14, 0), (15, 0)] r_p 8) (bx_val [(0, 0), (0, 0), (0, 0), (0, 0), (0, 0), (0, 0), (0, 0), (0, 0), (8, 0), (14, 0), (15, 0)] r_p 9) (bx_val [(0, 0), (0, 0), (0, 0), (0, 0), (0, 0), (0, 0), (0, 0), (0, 0), (8, 0), (14, 0), (15, 0)] r_p 10) < rxmSO_3 S0 ws S_p (r 8) (r 9) (r 10)
    rw [bx_val_x (n := 8) (e := (8, 0)) h0_ rfl, bx_val_x (n := 9) (e := (14, 0)) h0_ rfl, bx_val_x (n := 10) (e := (15, 0)) h0_ rfl, ← hr_ 8 (by decide), ← hr_ 9 (by decide), ← hr_ 10 (by decide)]
    exact g.2.2.2
theorem rxdSO_3_0 {S0 : Nat → Int → Int} {ws : List Int} {S : Nat → Int → Int} {start a5 a6 x11 x12 : Int} (hP : rxPSO S0 ws) (hin : bx_same rxL (bx_mdl rxCSO.2.2.1) S0 S) (hin2 : bx_same rxL (bx_mdl rxCSO.2.2.1) S S) (I0 : bx_Inv rxL S) (I1 : bx_Inv rxL S) (hinv : rxISO_3 S0 ws S start a5 a6) (l8 : 782 ≤ start) (u8 : start ≤ 5370) (l9 : 0 ≤ a5) (u9 : a5 ≤ 400) (l10 : 0 ≤ a6) (u10 : a6 ≤ 400) (l11 : 0 ≤ x11) (u11 : x11 ≤ 0) (l12 : 0 ≤ x12) (u12 : x12 ≤ 0) (e1 : S 480 32 = x11) (e0 : S 480 33 = x12) : (True) ∧ rxPSSO S0 ws S (some 0) := by
  exact ⟨trivial, trivial⟩
theorem rxfSO_3_0 {X : (Nat → Int → Int) → Prop} {S0 : Nat → Int → Int} {ws : List Int} (hP : rxPSO S0 ws) : bx_obE rxL X S0 rxCSO.2.2.1 (rxISO S0 ws) (rxPSSO S0 ws) 3 rxzSO_3 rxeSO_3_0 := by
  intro S S_p r r_p hinv hX hin hsm_ hseg
  obtain ⟨I0, I1, h0_, hr_, b_, f_, d_⟩ := bx_cl (evs := [(0, (0, 480), (0, 33), .inr (1, (12, 0))), (0, (0, 480), (0, 32), .inr (0, (11, 0)))]) (fvs := []) hseg (by decide +kernel) (by decide +kernel)
  have hinv : rxISO_3 S0 ws S (r 8) (r 9) (r 10) := hinv
  rw [← hr_ 8 (by decide), ← hr_ 9 (by decide), ← hr_ 10 (by decide)] at hinv
  obtain ⟨⟨l8, u8⟩, ⟨l9, u9⟩, ⟨l10, u10⟩, ⟨l11, u11⟩, ⟨l12, u12⟩, -⟩ := b_
  obtain ⟨e0, ⟨e1, w_⟩⟩ := d_
  subst w_
  have g := rxdSO_3_0 hP hin hsm_ I0 I1 hinv l8 u8 l9 u9 l10 u10 l11 u11 l12 u12 e1 e0
  refine ⟨bx_narP_ok (l := []) g.1, ?_⟩
  show rxPSSO S0 ws S_p (some (bx_num r_p (.inr (0, (0, 0)))))
  rw [bx_xv_ok h0_]
  exact g.2
theorem rxdSO_3_1 {S0 : Nat → Int → Int} {ws : List Int} {S : Nat → Int → Int} {start a5 a6 x11 x12 x13 : Int} (hP : rxPSO S0 ws) (hin : bx_same rxL (bx_mdl rxCSO.2.2.1) S0 S) (hin2 : bx_same rxL (bx_mdl rxCSO.2.2.1) S S) (I0 : bx_Inv rxL S) (I1 : bx_Inv rxL S) (hinv : rxISO_3 S0 ws S start a5 a6) (l8 : 782 ≤ start) (u8 : start ≤ 5370) (l9 : 0 ≤ a5) (u9 : a5 ≤ 400) (l10 : 0 ≤ a6) (u10 : a6 ≤ 400) (l11 : 0 ≤ x11) (u11 : x11 ≤ 0) (l12 : (-9223372036854775808) ≤ x12) (u12 : x12 ≤ 9223372036854775807) (l13 : 2 ≤ x13) (u13 : x13 ≤ 2) (f0 : x12 ≠ 0) (e2 : S 480 32 = x11) (e1 : S 480 33 = x12) (e0 : S 482 start = x13) : (True) ∧ rxPSSO S0 ws S (some 1) := by
  exact ⟨trivial, trivial⟩
theorem rxfSO_3_1 {X : (Nat → Int → Int) → Prop} {S0 : Nat → Int → Int} {ws : List Int} (hP : rxPSO S0 ws) : bx_obE rxL X S0 rxCSO.2.2.1 (rxISO S0 ws) (rxPSSO S0 ws) 3 rxzSO_3 rxeSO_3_1 := by
  intro S S_p r r_p hinv hX hin hsm_ hseg
  obtain ⟨I0, I1, h0_, hr_, b_, f_, d_⟩ := bx_cl (evs := [(0, (0, 482), (8, 0), .inr (0, (13, 0))), (0, (0, 480), (0, 33), .inr (1, (12, 0))), (0, (0, 480), (0, 32), .inr (0, (11, 0)))]) (fvs := [(3, (12, 0), (0, 0), (0, 0))]) hseg (by decide +kernel) (by decide +kernel)
  have hinv : rxISO_3 S0 ws S (r 8) (r 9) (r 10) := hinv
  rw [← hr_ 8 (by decide), ← hr_ 9 (by decide), ← hr_ 10 (by decide)] at hinv
  obtain ⟨⟨l8, u8⟩, ⟨l9, u9⟩, ⟨l10, u10⟩, ⟨l11, u11⟩, ⟨l12, u12⟩, ⟨l13, u13⟩, -⟩ := b_
  obtain ⟨f0, -⟩ := f_
  obtain ⟨e0, ⟨e1, ⟨e2, w_⟩⟩⟩ := d_
  subst w_
  have g := rxdSO_3_1 hP hin hsm_ I0 I1 hinv l8 u8 l9 u9 l10 u10 l11 u11 l12 u12 l13 u13 f0 e2 e1 e0
  refine ⟨bx_narP_ok (l := []) g.1, ?_⟩
  show rxPSSO S0 ws S_p (some (bx_num r_p (.inr (0, (0, 1)))))
  rw [bx_xv_ok h0_]
  exact g.2
theorem rxdSO_3_2 {S0 : Nat → Int → Int} {ws : List Int} {S : Nat → Int → Int} {start a5 a6 x11 : Int} (hP : rxPSO S0 ws) (hin : bx_same rxL (bx_mdl rxCSO.2.2.1) S0 S) (hin2 : bx_same rxL (bx_mdl rxCSO.2.2.1) S S) (I0 : bx_Inv rxL S) (I1 : bx_Inv rxL S) (hinv : rxISO_3 S0 ws S start a5 a6) (l8 : 782 ≤ start) (u8 : start ≤ 5370) (l9 : 0 ≤ a5) (u9 : a5 ≤ 400) (l10 : 0 ≤ a6) (u10 : a6 ≤ 400) (l11 : 1 ≤ x11) (u11 : x11 ≤ 1) (f0 : x11 ≠ 0) (e0 : S 480 32 = x11) : (True) ∧ rxPSSO S0 ws S (some 0) := by
  exact ⟨trivial, trivial⟩
theorem rxfSO_3_2 {X : (Nat → Int → Int) → Prop} {S0 : Nat → Int → Int} {ws : List Int} (hP : rxPSO S0 ws) : bx_obE rxL X S0 rxCSO.2.2.1 (rxISO S0 ws) (rxPSSO S0 ws) 3 rxzSO_3 rxeSO_3_2 := by
  intro S S_p r r_p hinv hX hin hsm_ hseg
  obtain ⟨I0, I1, h0_, hr_, b_, f_, d_⟩ := bx_cl (evs := [(0, (0, 480), (0, 32), .inr (0, (11, 0)))]) (fvs := [(3, (11, 0), (0, 0), (0, 0))]) hseg (by decide +kernel) (by decide +kernel)
  have hinv : rxISO_3 S0 ws S (r 8) (r 9) (r 10) := hinv
  rw [← hr_ 8 (by decide), ← hr_ 9 (by decide), ← hr_ 10 (by decide)] at hinv
  obtain ⟨⟨l8, u8⟩, ⟨l9, u9⟩, ⟨l10, u10⟩, ⟨l11, u11⟩, -⟩ := b_
  obtain ⟨f0, -⟩ := f_
  obtain ⟨e0, w_⟩ := d_
  subst w_
  have g := rxdSO_3_2 hP hin hsm_ I0 I1 hinv l8 u8 l9 u9 l10 u10 l11 u11 f0 e0
  refine ⟨bx_narP_ok (l := []) g.1, ?_⟩
  show rxPSSO S0 ws S_p (some (bx_num r_p (.inr (0, (0, 0)))))
  rw [bx_xv_ok h0_]
  exact g.2
theorem rxdSO_5_0 {S0 : Nat → Int → Int} {ws : List Int} {S : Nat → Int → Int} {start a3 a4 x11 x12 : Int} (hP : rxPSO S0 ws) (hin : bx_same rxL (bx_mdl rxCSO.2.2.1) S0 S) (hin2 : bx_same rxL (bx_mdl rxCSO.2.2.1) S (bx_up S 480 34 x11)) (I0 : bx_Inv rxL S) (I1 : bx_Inv rxL (bx_up S 480 34 x11)) (hinv : rxISO_5 S0 ws S start a3 a4) (l8 : 782 ≤ start) (u8 : start ≤ 5370) (l9 : 0 ≤ a3) (u9 : a3 ≤ 400) (l10 : 0 ≤ a4) (u10 : a4 ≤ 400) (l11 : (-9223372036854775808) ≤ x11) (u11 : x11 ≤ 9223372036854775807) (l12 : 0 ≤ x12) (u12 : x12 ≤ 0) (e2 : S 480 33 = x11) (e0 : (bx_up S 480 34 x11) 480 32 = x12) : (True) ∧ rxPSSO S0 ws (bx_up S 480 34 x11) (some 1) := by
  exact ⟨trivial, trivial⟩
theorem rxfSO_5_0 {X : (Nat → Int → Int) → Prop} {S0 : Nat → Int → Int} {ws : List Int} (hP : rxPSO S0 ws) : bx_obE rxL X S0 rxCSO.2.2.1 (rxISO S0 ws) (rxPSSO S0 ws) 5 rxzSO_5 rxeSO_5_0 := by
  intro S S_p r r_p hinv hX hin hsm_ hseg
  obtain ⟨I0, I1, h0_, hr_, b_, f_, d_⟩ := bx_cl (evs := [(0, (0, 480), (0, 32), .inr (0, (12, 0))), (1, (0, 480), (0, 34), .inr (1, (11, 0))), (0, (0, 480), (0, 33), .inr (1, (11, 0)))]) (fvs := []) hseg (by decide +kernel) (by decide +kernel)
  have hinv : rxISO_5 S0 ws S (r 8) (r 9) (r 10) := hinv
  rw [← hr_ 8 (by decide), ← hr_ 9 (by decide), ← hr_ 10 (by decide)] at hinv
  obtain ⟨⟨l8, u8⟩, ⟨l9, u9⟩, ⟨l10, u10⟩, ⟨l11, u11⟩, ⟨l12, u12⟩, -⟩ := b_
  obtain ⟨e0, ⟨T1, ⟨e2, w_⟩, w1⟩⟩ := d_
  subst w1
  subst w_
  have g := rxdSO_5_0 hP hin hsm_ I0 I1 hinv l8 u8 l9 u9 l10 u10 l11 u11 l12 u12 e2 e0
  refine ⟨bx_narP_ok (l := []) g.1, ?_⟩
  show rxPSSO S0 ws (bx_up T1 480 (34) (r_p 11)) (some (bx_num r_p (.inr (0, (0, 1)))))
  rw [bx_xv_ok h0_]
  exact g.2
theorem rxdSO_5_1 {S0 : Nat → Int → Int} {ws : List Int} {S : Nat → Int → Int} {start a3 a4 x11 x12 : Int} (hP : rxPSO S0 ws) (hin : bx_same rxL (bx_mdl rxCSO.2.2.1) S0 S) (hin2 : bx_same rxL (bx_mdl rxCSO.2.2.1) S (bx_up S 480 34 x11)) (I0 : bx_Inv rxL S) (I1 : bx_Inv rxL (bx_up S 480 34 x11)) (hinv : rxISO_5 S0 ws S start a3 a4) (l8 : 782 ≤ start) (u8 : start ≤ 5370) (l9 : 0 ≤ a3) (u9 : a3 ≤ 400) (l10 : 0 ≤ a4) (u10 : a4 ≤ 400) (l11 : (-9223372036854775808) ≤ x11) (u11 : x11 ≤ 9223372036854775807) (l12 : 1 ≤ x12) (u12 : x12 ≤ 1) (f0 : x12 ≠ 0) (e2 : S 480 33 = x11) (e0 : (bx_up S 480 34 x11) 480 32 = x12) : (True) ∧ rxPSSO S0 ws (bx_up S 480 34 x11) (some 0) := by
  exact ⟨trivial, trivial⟩
theorem rxfSO_5_1 {X : (Nat → Int → Int) → Prop} {S0 : Nat → Int → Int} {ws : List Int} (hP : rxPSO S0 ws) : bx_obE rxL X S0 rxCSO.2.2.1 (rxISO S0 ws) (rxPSSO S0 ws) 5 rxzSO_5 rxeSO_5_1 := by
  intro S S_p r r_p hinv hX hin hsm_ hseg
  obtain ⟨I0, I1, h0_, hr_, b_, f_, d_⟩ := bx_cl (evs := [(0, (0, 480), (0, 32), .inr (0, (12, 0))), (1, (0, 480), (0, 34), .inr (1, (11, 0))), (0, (0, 480), (0, 33), .inr (1, (11, 0)))]) (fvs := [(3, (12, 0), (0, 0), (0, 0))]) hseg (by decide +kernel) (by decide +kernel)
  have hinv : rxISO_5 S0 ws S (r 8) (r 9) (r 10) := hinv
  rw [← hr_ 8 (by decide), ← hr_ 9 (by decide), ← hr_ 10 (by decide)] at hinv
  obtain ⟨⟨l8, u8⟩, ⟨l9, u9⟩, ⟨l10, u10⟩, ⟨l11, u11⟩, ⟨l12, u12⟩, -⟩ := b_
  obtain ⟨f0, -⟩ := f_
  obtain ⟨e0, ⟨T1, ⟨e2, w_⟩, w1⟩⟩ := d_
  subst w1
  subst w_
  have g := rxdSO_5_1 hP hin hsm_ I0 I1 hinv l8 u8 l9 u9 l10 u10 l11 u11 l12 u12 f0 e2 e0
  refine ⟨bx_narP_ok (l := []) g.1, ?_⟩
  show rxPSSO S0 ws (bx_up T1 480 (34) (r_p 11)) (some (bx_num r_p (.inr (0, (0, 0)))))
  rw [bx_xv_ok h0_]
  exact g.2
theorem rxgCSO {X : (Nat → Int → Int) → Prop} {S0 : Nat → Int → Int} {ws : List Int} (hP : rxPSO S0 ws) : bx_allI (fun i q => rxUSO q = true ∨ bx_allP (fun o => bx_obC rxL X S0 rxCSO.2.2.1 (rxISO S0 ws) (rxmSO S0 ws) i q.1 o) q.2.1) 0 rxYSO := ⟨Or.inr ⟨rxgSO_0_0 hP, trivial⟩, Or.inr ⟨rxgSO_1_0 hP, rxgSO_1_1 hP, trivial⟩, Or.inl rfl, Or.inr ⟨rxgSO_3_0 hP, trivial⟩, Or.inl rfl, Or.inr trivial, trivial⟩
theorem rxgESO {X : (Nat → Int → Int) → Prop} {S0 : Nat → Int → Int} {ws : List Int} (hP : rxPSO S0 ws) : bx_allI (fun i q => rxUSO q = true ∨ bx_allP (fun E => bx_obE rxL X S0 rxCSO.2.2.1 (rxISO S0 ws) (rxPSSO S0 ws) i q.1 E) q.2.2) 0 rxYSO := ⟨Or.inr trivial, Or.inr ⟨rxfSO_1_0 hP, trivial⟩, Or.inl rfl, Or.inr ⟨rxfSO_3_0 hP, rxfSO_3_1 hP, rxfSO_3_2 hP, trivial⟩, Or.inl rfl, Or.inr ⟨rxfSO_5_0 hP, rxfSO_5_1 hP, trivial⟩, trivial⟩
theorem rxuSO {PX : State → Prop} {Dg : va_G} {A : Nat → Prop} {ad xa : Nat → Nat} {l : Launch} {X : (Nat → Int → Int) → Prop} (hPX : rx_PXOK rxNW A PX) (hX : ∀ S S1 : Nat → Int → Int, X S → bx_same rxL (bx_mdl rxCSO.2.2.1) S S1 → X S1) (hQRA : bx_ConP rxG rxNW rxAO PX Dg rxL X vwCl A ad l rxM287 rxCRA rxPRA rxPSRA) {S0 : Nat → Int → Int} {ws : List Int} (hP : rxPSO S0 ws) : ∀ (i : Nat) (q : bx_HE), rxYSO[i]? = some q → rxUSO q = true → ∀ {p : Program} {e : Env} {R : Room} {s : State} {m : MethodId} {args : Array Value} {below : List Frame} {meth : Method} {c : Code} {Q : State → Prop} {H0 : Heap}, rx_Fr rxG rxNW rxAO PX p s m args meth c rxM288 → (∀ q, H0.size ≤ q → A q) → H0 = s.heap → rxM288.2.2.2.2.2.2.1 ≤ R.cells → rxM288.2.2.2.2.2.2.2 ≤ R.slots → rxCSO.2.2.2.1 ≤ R.frames → rxCSO.2.2.2.1 * 40 ≤ R.locals → bx_Step p l e R s m args below meth c Q Dg rxL X vwCl A xa H0 ad rxM288 rxYSO (rxISO S0 ws) (rxmSO S0 ws) S0 rxCSO.2.2.1 i q := by
  intro i q hq hus p e R s m args below meth c Q H0 hF hA hH0 hmc hms hd hdl
  match i, hq with
  | 0, hq =>
    cases hq
    exact absurd (show false = true from hus) Bool.false_ne_true
  | 1, hq =>
    cases hq
    exact absurd (show false = true from hus) Bool.false_ne_true
  | 2, hq =>
    cases hq
    exact rx_stepC (ins := .invokevirtual 414) (len := 3) (i_p := 3) (M_p := rxM287) (d := rxCSO.2.2.2.1) (as := [.inr (3, (0, 480)), .inr (0, (9, 0)), .inr (0, (10, 0))]) (t := []) (ct := rxCRA) hPX hF rfl hA hH0 hmc hms hd hdl (by decide +kernel) rfl rfl (by decide +kernel) (by decide +kernel) hQRA (by decide +kernel) rfl (Or.inl ⟨rfl, rfl, rfl⟩) (rxsSO_2 hP)
  | 3, hq =>
    cases hq
    exact absurd (show false = true from hus) Bool.false_ne_true
  | 4, hq =>
    cases hq
    exact rx_stepC (ins := .invokevirtual 414) (len := 3) (i_p := 5) (M_p := rxM287) (d := rxCSO.2.2.2.1) (as := [.inr (3, (0, 480)), .inr (0, (9, 0)), .inr (0, (10, 0))]) (t := []) (ct := rxCRA) hPX hF rfl hA hH0 hmc hms hd hdl (by decide +kernel) rfl rfl (by decide +kernel) (by decide +kernel) hQRA (by decide +kernel) rfl (Or.inl ⟨rfl, rfl, rfl⟩) (rxsSO_4 hP)
  | 5, hq =>
    cases hq
    exact absurd (show false = true from hus) Bool.false_ne_true
  | n + 6, hq => cases hq
theorem rxQSO {PX : State → Prop} {Dg : va_G} {A : Nat → Prop} {ad xa : Nat → Nat} {l : Launch} {X : (Nat → Int → Int) → Prop} (hPX : rx_PXOK rxNW A PX) (hsl : ∀ s : State, PX s → ∀ o idx n : Nat, rxSl o idx = some n → ∃ tx : String, vk_R (rxNm o) idx tx (ad n) s)
    (hX : ∀ S S_p : Nat → Int → Int, X S → bx_same rxL (bx_mdl rxCSO.2.2.1) S S_p → X S_p)
    (ih : ∀ (j2 : Nat) (ct2 : bx_Ct) (M2 : rx_Mt), ct2 ∈ rxCnE j2 → ct2.2.2.2.1 + 1 ≤ rxCSO.2.2.2.1 → rxT.2.2.2.2.2 j2 = some M2 → bx_Con rxG rxNW rxAO PX Dg rxL X vwCl A ad l M2 ct2) (hQRA : bx_ConP rxG rxNW rxAO PX Dg rxL X vwCl A ad l rxM287 rxCRA rxPRA rxPSRA) : bx_ConP rxG rxNW rxAO PX Dg rxL X vwCl A ad l rxM288 rxCSO rxPSO rxPSSO :=
  rxQof (xa := xa) (Cn := rxCnE) (f := 30000) (j := 288) (tab := rxYSO) (us := rxUSO) hPX hsl hX ih rfl rxYcSO rxISO rxmSO
    (fun S0 ws r I0 I ht0 ht as he he1 hX0 hI0 hP hs ha => by
      have e := he.symm.trans (show bx_ent0 rxNP rxCSO.1 bx_I0 [] = some ([(0, 0), (0, 0), (0, 0), (0, 0), (0, 0), (0, 0), (0, 0), (0, 0), (782, 5370)], [], [.inr (3, (0, 480)), .inr (0, (8, 0))]) from rfl)
      cases e
      subst ha
      have h0 : r 0 = 0 := hs.1
      show rxISO_0 S0 _ S0 (r 8)
      refine ⟨rfl, ?_⟩
      simp only [List.map_cons, List.map_nil, bx_xv_ok h0]
      rfl)
    (fun S0 ws hP => rxuSO (xa := xa) hPX hX hQRA hP) (fun S0 ws hP => rxgCSO hP) (fun S0 ws hP => rxgESO hP)
end
section
noncomputable def rxI289_0 (S0 : Nat → Int → Int) (ws : List Int) (S : Nat → Int → Int) (kind pers cue tchr year base : Int) : Prop := S = S0 ∧ ws = [480, kind, pers, cue, tchr, year, base]
noncomputable def rxm289_0 (S0 : Nat → Int → Int) (ws : List Int) (S : Nat → Int → Int) (kind pers cue tchr year base : Int) : Nat := 10000
noncomputable def rxz289_0 : rx_Z := ([(0, 0), (0, 0), (0, 0), (0, 0), (0, 0), (0, 0), (0, 0), (0, 0), (0, 2), (0, 7), (0, 5), ((-1), 7), (0, 300), (0, 100)], [], [], 0, 0, 0, [(0, .inr (3, (0, 480))), (1, .inr (0, (8, 0))), (2, .inr (0, (9, 0))), (3, .inr (0, (10, 0))), (4, .inr (0, (11, 0))), (5, .inr (0, (12, 0))), (6, .inr (1, (13, 0)))], [])
noncomputable def rxI289_1 (S0 : Nat → Int → Int) (ws : List Int) (S : Nat → Int → Int) (kind val i : Int) : Prop := rxX S ∧ ∃ n : Int, 0 ≤ n ∧ n ≤ 5 ∧ S 480 28 = 780 + 900 * n
noncomputable def rxm289_1 (S0 : Nat → Int → Int) (ws : List Int) (S : Nat → Int → Int) (kind val i : Int) : Nat := 10 * (20 - i).toNat + 5
noncomputable def rxz289_1 : rx_Z := ([(0, 0), (0, 0), (0, 0), (0, 0), (0, 0), (0, 0), (0, 0), (0, 0), (0, 2), ((-9223372036854775808), 9223372036854775807), (0, 12)], [], [], 0, 0, 134, [(0, .inr (3, (0, 480))), (1, .inr (0, (8, 0))), (8, .inr (1, (9, 0))), (10, .inr (0, (10, 0)))], [])
noncomputable def rxI289_2 (S0 : Nat → Int → Int) (ws : List Int) (S : Nat → Int → Int) (kind val i i2 cnt : Int) : Prop := i2 = i ∧ cnt = S 482 (S 480 28 + 1) ∧ rxX S ∧ ∃ n : Int, 0 ≤ n ∧ n ≤ 5 ∧ S 480 28 = 780 + 900 * n
noncomputable def rxm289_2 (S0 : Nat → Int → Int) (ws : List Int) (S : Nat → Int → Int) (kind val i i2 cnt : Int) : Nat := 10 * (20 - i).toNat + 4
noncomputable def rxz289_2 : rx_Z := ([(0, 0), (0, 0), (0, 0), (0, 0), (0, 0), (0, 0), (0, 0), (0, 0), (0, 2), ((-9223372036854775808), 9223372036854775807), (0, 12), (0, 12), (0, 12)], [], [], 0, 0, 147, [(0, .inr (3, (0, 480))), (1, .inr (0, (8, 0))), (8, .inr (1, (9, 0))), (10, .inr (0, (10, 0)))], [.inr (0, (12, 0)), .inr (0, (11, 0))])
noncomputable def rxI289_3 (S0 : Nat → Int → Int) (ws : List Int) (S : Nat → Int → Int) (kind val i start : Int) : Prop := rxSo S start
noncomputable def rxm289_3 (S0 : Nat → Int → Int) (ws : List Int) (S : Nat → Int → Int) (kind val i start : Int) : Nat := 10 * (20 - i).toNat + 3
noncomputable def rxz289_3 : rx_Z := ([(0, 0), (0, 0), (0, 0), (0, 0), (0, 0), (0, 0), (0, 0), (0, 0), (0, 2), ((-9223372036854775808), 9223372036854775807), (0, 11), (782, 5370)], [], [], 0, 0, 178, [(0, .inr (3, (0, 480))), (1, .inr (0, (8, 0))), (8, .inr (1, (9, 0))), (10, .inr (0, (10, 0)))], [.inr (0, (11, 0)), .inr (3, (0, 480))])
noncomputable def rxI289_4 (S0 : Nat → Int → Int) (ws : List Int) (S : Nat → Int → Int) (kind val i start so : Int) : Prop := rxX S ∧ ∃ n : Int, 0 ≤ n ∧ n ≤ 5 ∧ S 480 28 = 780 + 900 * n
noncomputable def rxm289_4 (S0 : Nat → Int → Int) (ws : List Int) (S : Nat → Int → Int) (kind val i start so : Int) : Nat := 10 * (20 - i).toNat + 2
noncomputable def rxz289_4 : rx_Z := ([(0, 0), (0, 0), (0, 0), (0, 0), (0, 0), (0, 0), (0, 0), (0, 0), (0, 2), ((-9223372036854775808), 9223372036854775807), (0, 11), (782, 5370), (0, 1)], [], [], 0, 0, 181, [(0, .inr (3, (0, 480))), (1, .inr (0, (8, 0))), (8, .inr (1, (9, 0))), (10, .inr (0, (10, 0)))], [.inr (0, (12, 0))])
noncomputable def rxo289_0_0 : bx_HO := (([(0, 0), (0, 0), (0, 0), (0, 0), (0, 0), (0, 0), (0, 0), (0, 0), (0, 2), (0, 7), (0, 5), ((-1), 7), (0, 300), (0, 100), (0, 5), (0, 4500), (0, 21), (0, 9), (0, 21), (0, 200), (0, 21), (0, 300), (0, 9)], [(7, (20, 0), (9, 0)), (7, (18, 0), (9, 0)), (7, (16, 0), (9, 0)), (904, (15, 0), (14, 0)), (3, (14, 0), (0, (-1)))], [(((0, 0), 1851192626986356799029993984671224184301589730656725206274736131000000), .inr (1, (22, 0))), (((0, 493), 8), .inr (1, (22, 0))), (((0, 0), 1851192626986356799029993984671224184301589730656725206268248064000000), .inr (0, (22, 0))), (((0, 482), 8), .inr (0, (22, 0))), (((0, 0), 1851192626986356798829287277884448576027768266202889952720912387000000), .inr (1, (12, 0))), (((0, 493), 7), .inr (1, (12, 0))), (((0, 0), 1851192626986356798628580571097672967753946801749054699167088643000000), .inr (1, (11, 0))), (((0, 493), 6), .inr (1, (11, 0))), (((0, 0), 1851192626986356798427873864310897359480125337295219445613264899000000), .inr (1, (10, 0))), (((0, 493), 5), .inr (1, (10, 0))), (((0, 0), 1851192626986356798227167157524121751206303872841384192059441155000000), .inr (1, (21, 0))), (((0, 493), 4), .inr (1, (21, 0))), (((0, 0), 1851192626986356845393304503242435464477771426922006495479595008000000), .inr (0, (21, 0))), (((0, 0), 1851192626986356798026460450737346142932482408387548938505617411000000), .inr (1, (19, 0))), (((0, 493), 3), .inr (1, (19, 0))), (((0, 0), 1851192626986356845192591671373055279311607621725237470097965056000000), .inr (0, (19, 0))), (((0, 0), 1851192626986356797825753743950570534658660943933713684951793667000000), .inr (1, (17, 0))), (((0, 493), 2), .inr (1, (17, 0))), (((0, 0), 1851192626986356845593998959864001918966908209889974205377806336000000), .inr (0, (17, 0))), (((0, 0), 1851192626986356797625047037163794926384839479479878431397969923000000), .inr (1, (9, 0))), (((0, 493), 1), .inr (1, (9, 0))), (((0, 480), 29), .inr (3, (0, 493))), (((0, 0), 1851192626986356803044128120406736349778019019733430277343543299000000), .inr (0, (15, 780))), (((0, 480), 28), .inr (0, (15, 780))), (((0, 0), 1851192626986356798227167157524121751206303872841384192052953088000000), .inr (0, (14, 0))), (((0, 482), 4), .inr (0, (14, 0))), (((0, 480), 3), .inr (3, (0, 482)))], 0, 0, 134, [(10, .inr (0, (0, 0))), (8, .inr (1, (13, 0))), (0, .inr (3, (0, 480))), (1, .inr (0, (8, 0))), (2, .inr (0, (9, 0))), (3, .inr (0, (10, 0))), (4, .inr (0, (11, 0))), (5, .inr (0, (12, 0))), (6, .inr (1, (13, 0)))], []), [], [], [(0, 0), (0, 0), (0, 0), (0, 0), (0, 0), (0, 0), (0, 0), (0, 0), (8, 0), (13, 0), (0, 0)], 1)
noncomputable def rxe289_0_0 : rx_End × List (Nat × Int × Int) := (([(0, 0), (0, 0), (0, 0), (0, 0), (0, 0), (0, 0), (0, 0), (0, 0), (0, 2), (0, 7), (0, 5), ((-1), 7), (0, 300), (0, 100), ((-1), (-1))], [], [(((0, 0), 1851192626986356798227167157524121751206303872841384192052953088000000), .inr (0, (14, 0))), (((0, 482), 4), .inr (0, (14, 0))), (((0, 480), 3), .inr (3, (0, 482)))], some (.inr (1, (13, 0)))), [])
noncomputable def rxo289_1_0 : bx_HO := (([(0, 0), (0, 0), (0, 0), (0, 0), (0, 0), (0, 0), (0, 0), (0, 0), (0, 2), ((-9223372036854775808), 9223372036854775807), (0, 12), (0, 5280), ((-1), 1000)], [], [(((0, 0), 1851192626986356797625080725118120099292722353566014176444416000000000), .inr (0, (12, 0))), (((0, 0), 1851192626986356803044128120406736349778019019733430277343543296000000), .inr (0, (11, 0))), (((0, 480), 28), .inr (0, (11, 0))), (((0, 480), 3), .inr (3, (0, 482)))], 0, 0, 147, [(0, .inr (3, (0, 480))), (1, .inr (0, (8, 0))), (8, .inr (1, (9, 0))), (10, .inr (0, (10, 0)))], [.inr (0, (12, 0)), .inr (0, (10, 0))]), [(12, 0, 12)], [], [(0, 0), (0, 0), (0, 0), (0, 0), (0, 0), (0, 0), (0, 0), (0, 0), (8, 0), (9, 0), (10, 0), (10, 0), (12, 0)], 2)
noncomputable def rxo289_2_0 : bx_HO := (([(0, 0), (0, 0), (0, 0), (0, 0), (0, 0), (0, 0), (0, 0), (0, 0), (0, 2), ((-9223372036854775808), 9223372036854775807), (0, 12), (0, 11), (1, 12), (0, 5280), (0, 96), (2, 5378), (0, 2)], [(2, (16, 0), (8, 0)), (604462909807314587353102000000, (15, 0), (13, 2)), (12, (14, 0), (10, 0)), (0, (11, 0), (12, 0))], [(((0, 0), 1851192626986356797424386268496553644803585570598046466546204672000000), .inr (0, (16, 0))), (((0, 480), 3), .inr (3, (0, 482))), (((0, 0), 1851192626986356803044128120406736349778019019733430277343543296000000), .inr (0, (13, 0))), (((0, 480), 28), .inr (0, (13, 0)))], 0, 0, 178, [(11, .inr (0, (15, 0))), (0, .inr (3, (0, 480))), (1, .inr (0, (8, 0))), (8, .inr (1, (9, 0))), (10, .inr (0, (10, 0)))], [.inr (0, (15, 0)), .inr (3, (0, 480))]), [(10, 0, 11), (15, 782, 5370)], [], [(0, 0), (0, 0), (0, 0), (0, 0), (0, 0), (0, 0), (0, 0), (0, 0), (8, 0), (9, 0), (10, 0), (15, 0)], 3)
noncomputable def rxo289_2_1 : bx_HO := (([(0, 0), (0, 0), (0, 0), (0, 0), (0, 0), (0, 0), (0, 0), (0, 0), (0, 2), ((-9223372036854775808), 9223372036854775807), (0, 12), (0, 11), (1, 12), (0, 5280), (0, 96), (2, 5378), ((-1), 1000)], [(3, (16, 0), (8, 0)), (604462909807314587353102000000, (15, 0), (13, 2)), (12, (14, 0), (10, 0)), (0, (11, 0), (12, 0))], [(((0, 0), 1851192626986356797424386268496553644803585570598046466546204672000000), .inr (0, (16, 0))), (((0, 480), 3), .inr (3, (0, 482))), (((0, 0), 1851192626986356803044128120406736349778019019733430277343543296000000), .inr (0, (13, 0))), (((0, 480), 28), .inr (0, (13, 0)))], 0, 0, 134, [(10, .inr (0, (10, 1))), (11, .inr (0, (15, 0))), (0, .inr (3, (0, 480))), (1, .inr (0, (8, 0))), (8, .inr (1, (9, 0)))], []), [(10, (-1), 11)], [], [(0, 0), (0, 0), (0, 0), (0, 0), (0, 0), (0, 0), (0, 0), (0, 0), (8, 0), (9, 0), (10, 1)], 1)
noncomputable def rxe289_2_0 : rx_End × List (Nat × Int × Int) := (([(0, 0), (0, 0), (0, 0), (0, 0), (0, 0), (0, 0), (0, 0), (0, 0), (0, 2), ((-9223372036854775808), 9223372036854775807), (0, 12), (0, 12), (0, 12)], [(1, (12, 0), (11, 0))], [], some (.inr (1, (9, 0)))), [])
noncomputable def rxo289_4_0 : bx_HO := (([(0, 0), (0, 0), (0, 0), (0, 0), (0, 0), (0, 0), (0, 0), (0, 0), (2, 2), ((-9223372036854775808), 9223372036854775807), (0, 11), (782, 5370), (1, 1)], [(3, (12, 0), (0, 0))], [], 0, 0, 134, [(10, .inr (0, (10, 1))), (8, .inr (1, (0, 1))), (0, .inr (3, (0, 480))), (1, .inr (0, (8, 0)))], []), [], [], [(0, 0), (0, 0), (0, 0), (0, 0), (0, 0), (0, 0), (0, 0), (0, 0), (8, 0), (0, 1), (10, 1)], 1)
noncomputable def rxo289_4_1 : bx_HO := (([(0, 0), (0, 0), (0, 0), (0, 0), (0, 0), (0, 0), (0, 0), (0, 0), (0, 1), ((-9223372036854775808), 9223372036854775807), (0, 11), (782, 5370), (1, 1), ((-9223372036854775808), 9223372036854775807)], [(3, (8, 0), (0, 2)), (3, (12, 0), (0, 0))], [(((0, 0), 1851192626986356804248368361127389999420947806456441798666485760000000), .inr (1, (13, 0))), (((0, 480), 34), .inr (1, (13, 0)))], 0, 0, 134, [(10, .inr (0, (10, 1))), (8, .inr (1, (13, 0))), (0, .inr (3, (0, 480))), (1, .inr (0, (8, 0)))], []), [], [], [(0, 0), (0, 0), (0, 0), (0, 0), (0, 0), (0, 0), (0, 0), (0, 0), (8, 0), (13, 0), (10, 1)], 1)
noncomputable def rxo289_4_2 : bx_HO := (([(0, 0), (0, 0), (0, 0), (0, 0), (0, 0), (0, 0), (0, 0), (0, 0), (0, 2), ((-9223372036854775808), 9223372036854775807), (0, 11), (782, 5370), (0, 0)], [], [], 0, 0, 134, [(10, .inr (0, (10, 1))), (0, .inr (3, (0, 480))), (1, .inr (0, (8, 0))), (8, .inr (1, (9, 0)))], []), [], [], [(0, 0), (0, 0), (0, 0), (0, 0), (0, 0), (0, 0), (0, 0), (0, 0), (8, 0), (9, 0), (10, 1)], 1)
noncomputable def rxY289 : List bx_HE := [(rxz289_0, [rxo289_0_0], [rxe289_0_0]), (rxz289_1, [rxo289_1_0], []), (rxz289_2, [rxo289_2_0, rxo289_2_1], [rxe289_2_0]), (rxz289_3, [], []), (rxz289_4, [rxo289_4_0, rxo289_4_1, rxo289_4_2], [])]
noncomputable def rxU289 (q : bx_HE) : Bool := Nat.beq (rx_zpc q.1) 178
noncomputable def rxYB289 : bx_B := (rxV, rxNP, rxDmf, bx_mdH rxC289.2.2.1)
set_option maxRecDepth 100000 in
theorem rxYc289 : bx_chkH rxYB289 rxM289 rxC289 rxY289 (rxU289, fun cut z => rx_ex2 (rxCT rxYB289 rxCnE) cut 30000 rxC289.2.2.2.1 289 z) = true := by decide +kernel
noncomputable def rxI289 (S0 : Nat → Int → Int) (ws : List Int) (i : Nat) : bx_SP := fun S r => match i with | 0 => rxI289_0 S0 ws S (r 8) (r 9) (r 10) (r 11) (r 12) (r 13) | 1 => rxI289_1 S0 ws S (r 8) (r 9) (r 10) | 2 => rxI289_2 S0 ws S (r 8) (r 9) (r 10) (r 11) (r 12) | 3 => rxI289_3 S0 ws S (r 8) (r 9) (r 10) (r 11) | 4 => rxI289_4 S0 ws S (r 8) (r 9) (r 10) (r 11) (r 12) | _ => False
noncomputable def rxm289 (S0 : Nat → Int → Int) (ws : List Int) (i : Nat) (S : Nat → Int → Int) (r : Nat → Int) : Nat := match i with | 0 => rxm289_0 S0 ws S (r 8) (r 9) (r 10) (r 11) (r 12) (r 13) | 1 => rxm289_1 S0 ws S (r 8) (r 9) (r 10) | 2 => rxm289_2 S0 ws S (r 8) (r 9) (r 10) (r 11) (r 12) | 3 => rxm289_3 S0 ws S (r 8) (r 9) (r 10) (r 11) | 4 => rxm289_4 S0 ws S (r 8) (r 9) (r 10) (r 11) (r 12) | _ => 0
noncomputable def rxP289 (S0 : Nat → Int → Int) (ws : List Int) : Prop := rxX S0
noncomputable def rxPS289 (S0 : Nat → Int → Int) (ws : List Int) (S : Nat → Int → Int) (w : Option Int) : Prop := True
theorem rxk289_3 {S0 : Nat → Int → Int} {ws : List Int} {S : Nat → Int → Int} {kind val i start : Int} (hP : rxP289 S0 ws) (hin : bx_same rxL (bx_mdl rxC289.2.2.1) S0 S) (I0 : bx_Inv rxL S) (hinv : rxI289_3 S0 ws S kind val i start) (l8 : 0 ≤ kind) (u8 : kind ≤ 2) (l9 : (-9223372036854775808) ≤ val) (u9 : val ≤ 9223372036854775807) (l10 : 0 ≤ i) (u10 : i ≤ 11) (l11 : 782 ≤ start) (u11 : start ≤ 5370) : rxPSO S [480, start] ∧ ∀ (S_p : Nat → Int → Int) (so : Int), 0 ≤ so → so ≤ 1 → rxPSSO S [480, start] S_p (some so) → bx_Inv rxL S_p → bx_same rxL (bx_mdl rxCSO.2.2.1) S S_p → rxI289_4 S0 ws S_p kind val i start so ∧ rxm289_4 S0 ws S_p kind val i start so < rxm289_3 S0 ws S kind val i start := by
  have h : rxSo S start := hinv
  refine ⟨⟨start, rfl, h⟩, fun S_p so l u hq I1 hsm => ⟨?_, by unfold rxm289_3 rxm289_4; omega⟩⟩
  obtain ⟨g1, n, k, n0, n5, k0, k1, hs, hl, hk⟩ := rxSo_same (by decide +kernel) (by decide +kernel) h hsm
  exact ⟨g1, n, n0, n5, hl⟩
theorem rxs289_3 {X : (Nat → Int → Int) → Prop} {S0 : Nat → Int → Int} {ws : List Int} (hP : rxP289 S0 ws) : rx_obK X S0 rxC289.2.2.1 rxCSO.2.2.1 (rxI289 S0 ws) (rxm289 S0 ws) 3 4 rxz289_3 rxz289_4 [.inr (3, (0, 480)), .inr (0, (11, 0))] (some 12) rxPSO rxPSSO := by
  intro S r hinv hXS I0 hin hs_ hf_
  have b_ := bx_bds_sat hs_
  have f_ := bx_fcl_ok hs_.1 hf_
  obtain ⟨⟨l8, u8⟩, ⟨l9, u9⟩, ⟨l10, u10⟩, ⟨l11, u11⟩, -⟩ := b_
  have g := rxk289_3 hP hin I0 hinv l8 u8 l9 u9 l10 u10 l11 u11
  have ea : List.map (bx_num r) [.inr (3, (0, 480)), .inr (0, (11, 0))] = [480, (r 11)] := by
    simp only [List.map_cons, List.map_nil, bx_xv_ok hs_.1]
    rfl
  rw [ea]
  refine ⟨g.1, fun S_p w r_p hPS hX_p I1 hsm hr hw hs_p => ?_⟩
  have hw := hw _ rfl
  subst hw
  have b_p := hs_p.2.2 12 _ _ rfl
  have g2 := g.2 S_p (r_p 12) b_p.1 b_p.2 hPS I1 hsm
  show rxI289_4 S0 ws S_p (r_p 8) (r_p 9) (r_p 10) (r_p 11) (r_p 12) ∧ rxm289_4 S0 ws S_p (r_p 8) (r_p 9) (r_p 10) (r_p 11) (r_p 12) < _
  rw [hr 8 (by decide), hr 9 (by decide), hr 10 (by decide), hr 11 (by decide)]
  exact g2
theorem rxc289_0_0 {S0 : Nat → Int → Int} {ws : List Int} {S : Nat → Int → Int} {kind pers cue tchr year base x14 x15 x16 x17 x18 x19 x20 x21 x22 : Int} (hP : rxP289 S0 ws) (hin : bx_same rxL (bx_mdl rxC289.2.2.1) S0 S) (I0 : bx_Inv rxL S) (hinv : rxI289_0 S0 ws S kind pers cue tchr year base) (l8 : 0 ≤ kind) (u8 : kind ≤ 2) (l9 : 0 ≤ pers) (u9 : pers ≤ 7) (l10 : 0 ≤ cue) (u10 : cue ≤ 5) (l11 : (-1) ≤ tchr) (u11 : tchr ≤ 7) (l12 : 0 ≤ year) (u12 : year ≤ 300) (l13 : 0 ≤ base) (u13 : base ≤ 100) (l14 : 0 ≤ x14) (u14 : x14 ≤ 5) (l15 : 0 ≤ x15) (u15 : x15 ≤ 4500) (l16 : 0 ≤ x16) (u16 : x16 ≤ 21) (l17 : 0 ≤ x17) (u17 : x17 ≤ 9) (l18 : 0 ≤ x18) (u18 : x18 ≤ 21) (l19 : 0 ≤ x19) (u19 : x19 ≤ 200) (l20 : 0 ≤ x20) (u20 : x20 ≤ 21) (l21 : 0 ≤ x21) (u21 : x21 ≤ 300) (l22 : 0 ≤ x22) (u22 : x22 ≤ 9) (f0 : x20 = 3 * (pers)) (f1 : x18 = 3 * (pers)) (f2 : x16 = 3 * (pers)) (f3 : x15 = 900 * (x14)) (f4 : x14 ≠ (-1)) (e13 : S 482 4 = x14) (e10 : (bx_up (bx_up S 480 28 (x15 + 780)) 493 1 pers) 482 (x16 + 240) = x17) (e8 : (bx_up (bx_up (bx_up S 480 28 (x15 + 780)) 493 1 pers) 493 2 x17) 482 (x18 + 238) = x19) (e6 : (bx_up (bx_up (bx_up (bx_up S 480 28 (x15 + 780)) 493 1 pers) 493 2 x17) 493 3 x19) 482 (x20 + 239) = x21) (e1 : (bx_up (bx_up (bx_up (bx_up (bx_up (bx_up (bx_up (bx_up S 480 28 (x15 + 780)) 493 1 pers) 493 2 x17) 493 3 x19) 493 4 x21) 493 5 cue) 493 6 tchr) 493 7 year) 482 8 = x22) : (True) ∧ (True) ∧ rxI289_1 S0 ws (bx_up (bx_up (bx_up (bx_up (bx_up (bx_up (bx_up (bx_up (bx_up S 480 28 (x15 + 780)) 493 1 pers) 493 2 x17) 493 3 x19) 493 4 x21) 493 5 cue) 493 6 tchr) 493 7 year) 493 8 x22) kind base 0 ∧ rxm289_1 S0 ws (bx_up (bx_up (bx_up (bx_up (bx_up (bx_up (bx_up (bx_up (bx_up S 480 28 (x15 + 780)) 493 1 pers) 493 2 x17) 493 3 x19) 493 4 x21) 493 5 cue) 493 6 tchr) 493 7 year) 493 8 x22) kind base 0 < rxm289_0 S0 ws S kind pers cue tchr year base := by
  obtain ⟨rfl, hw⟩ := hinv
  have r482 : (bx_up (bx_up (bx_up (bx_up (bx_up (bx_up (bx_up (bx_up (bx_up S 480 28 (x15 + 780)) 493 1 pers) 493 2 x17) 493 3 x19) 493 4 x21) 493 5 cue) 493 6 tchr) 493 7 year) 493 8 x22) 482 = S 482 := funext fun x => by simp [bx_up]
  have r483 : (bx_up (bx_up (bx_up (bx_up (bx_up (bx_up (bx_up (bx_up (bx_up S 480 28 (x15 + 780)) 493 1 pers) 493 2 x17) 493 3 x19) 493 4 x21) 493 5 cue) 493 6 tchr) 493 7 year) 493 8 x22) 483 = S 483 := funext fun x => by simp [bx_up]
  have hx : rxX (bx_up (bx_up (bx_up (bx_up (bx_up (bx_up (bx_up (bx_up (bx_up S 480 28 (x15 + 780)) 493 1 pers) 493 2 x17) 493 3 x19) 493 4 x21) 493 5 cue) 493 6 tchr) 493 7 year) 493 8 x22) := by
    obtain ⟨a, b, c, d⟩ := hP
    refine ⟨?_, ?_, ?_, ?_⟩
    · rw [r482]; exact a
    · rw [r483]; exact b
    · rw [r483]; exact c
    · simp [bx_up]; exact d
  refine ⟨trivial, trivial, ⟨hx, x14, by omega, by omega, ?_⟩, by unfold rxm289_0 rxm289_1; omega⟩
  simp [bx_up]
  omega
theorem rxg289_0_0 {X : (Nat → Int → Int) → Prop} {S0 : Nat → Int → Int} {ws : List Int} (hP : rxP289 S0 ws) : bx_obC rxL X S0 rxC289.2.2.1 (rxI289 S0 ws) (rxm289 S0 ws) 0 rxz289_0 rxo289_0_0 := by
  intro S S_p r r_p hinv hX hin hsm_ hseg
  obtain ⟨I0, I1, h0_, hr_, b_, f_, d_⟩ := bx_cl (evs := [(1, (0, 493), (0, 8), .inr (1, (22, 0))), (0, (0, 482), (0, 8), .inr (0, (22, 0))), (1, (0, 493), (0, 7), .inr (1, (12, 0))), (1, (0, 493), (0, 6), .inr (1, (11, 0))), (1, (0, 493), (0, 5), .inr (1, (10, 0))), (1, (0, 493), (0, 4), .inr (1, (21, 0))), (0, (0, 482), (20, 239), .inr (0, (21, 0))), (1, (0, 493), (0, 3), .inr (1, (19, 0))), (0, (0, 482), (18, 238), .inr (0, (19, 0))), (1, (0, 493), (0, 2), .inr (1, (17, 0))), (0, (0, 482), (16, 240), .inr (0, (17, 0))), (1, (0, 493), (0, 1), .inr (1, (9, 0))), (1, (0, 480), (0, 28), .inr (0, (15, 780))), (0, (0, 482), (0, 4), .inr (0, (14, 0)))]) (fvs := [(4, (20, 0), (9, 0), (0, 3)), (4, (18, 0), (9, 0), (0, 3)), (4, (16, 0), (9, 0), (0, 3)), (4, (15, 0), (14, 0), (0, 900)), (3, (14, 0), (0, (-1)), (0, 0))]) hseg (by decide +kernel) (by decide +kernel)
  have hinv : rxI289_0 S0 ws S (r 8) (r 9) (r 10) (r 11) (r 12) (r 13) := hinv
  rw [← hr_ 8 (by decide), ← hr_ 9 (by decide), ← hr_ 10 (by decide), ← hr_ 11 (by decide), ← hr_ 12 (by decide), ← hr_ 13 (by decide)] at hinv
  obtain ⟨⟨l8, u8⟩, ⟨l9, u9⟩, ⟨l10, u10⟩, ⟨l11, u11⟩, ⟨l12, u12⟩, ⟨l13, u13⟩, ⟨l14, u14⟩, ⟨l15, u15⟩, ⟨l16, u16⟩, ⟨l17, u17⟩, ⟨l18, u18⟩, ⟨l19, u19⟩, ⟨l20, u20⟩, ⟨l21, u21⟩, ⟨l22, u22⟩, -⟩ := b_
  obtain ⟨f0, f1, f2, f3, f4, -⟩ := f_
  obtain ⟨T0, ⟨e1, ⟨T2, ⟨T3, ⟨T4, ⟨T5, ⟨e6, ⟨T7, ⟨e8, ⟨T9, ⟨e10, ⟨T11, ⟨T12, ⟨e13, w_⟩, w12⟩, w11⟩⟩, w9⟩⟩, w7⟩⟩, w5⟩, w4⟩, w3⟩, w2⟩⟩, w0⟩ := d_
  subst w0
  subst w2
  subst w3
  subst w4
  subst w5
  subst w7
  subst w9
  subst w11
  subst w12
  subst w_
  have g := rxc289_0_0 hP hin I0 hinv l8 u8 l9 u9 l10 u10 l11 u11 l12 u12 l13 u13 l14 u14 l15 u15 l16 u16 l17 u17 l18 u18 l19 u19 l20 u20 l21 u21 l22 u22 f0 f1 f2 f3 f4 e13 e10 e8 e6 e1
  refine ⟨bx_narP_ok (l := []) g.1, bx_nfP_ok h0_ (fvs := []) (by decide +kernel) g.2.1, ?_, ?_⟩
  · show rxI289_1 S0 ws (bx_up (bx_up (bx_up (bx_up (bx_up (bx_up (bx_up (bx_up (bx_up T12 480 (28) (r_p 15 + 780)) 493 (1) (r_p 9)) 493 (2) (r_p 17)) 493 (3) (r_p 19)) 493 (4) (r_p 21)) 493 (5) (r_p 10)) 493 (6) (r_p 11)) 493 (7) (r_p 12)) 493 (8) (r_p 22)) (bx_val [(0, 0), (0, 0), (0, 0), (0, 0), (0, 0), (0, 0), (0, 0), (0, 0), (8, 0), (13, 0), (0, 0)] r_p 8) (bx_val [(0, 0), (0, 0), (0, 0), (0, 0), (0, 0), (0, 0), (0, 0), (0, 0), (8, 0), (13, 0), (0, 0)] r_p 9) (bx_val [(0, 0), (0, 0), (0, 0), (0, 0), (0, 0), (0, 0), (0, 0), (0, 0), (8, 0), (13, 0), (0, 0)] r_p 10)
    rw [bx_val_x (n := 8) (e := (8, 0)) h0_ rfl, bx_val_x (n := 9) (e := (13, 0)) h0_ rfl, bx_val_x (n := 10) (e := (0, 0)) h0_ rfl]
    exact g.2.2.1
  · show rxm289_1 S0 ws (bx_up (bx_up (bx_up (bx_up (bx_up (bx_up (bx_up (bx_up (bx_up T12 480 (28) (r_p 15 + 780)) 493 (1) (r_p 9)) 493 (2) (r_p 17)) 493 (3) (r_p 19)) 493 (4) (r_p 21)) 493 (5) (r_p 10)) 493 (6) (r_p 11)) 493 (7) (r_p 12)) 493 (8) (r_p 22)) (bx_val [(0, 0), (0, 0), (0, 0), (0, 0), (0, 0), (0, 0), (0, 0), (0, 0), (8, 0), (13, 0), (0, 0)] r_p 8) (bx_val [(0, 0), (0, 0), (0, 0), (0, 0), (0, 0), (0, 0), (0, 0), (0, 0), (8, 0), (13, 0), (0, 0)] r_p 9) (bx_val [(0, 0), (0, 0), (0, 0), (0, 0), (0, 0), (0, 0), (0, 0), (0, 0), (8, 0), (13, 0), (0, 0)] r_p 10) < rxm289_0 S0 ws T12 (r 8) (r 9) (r 10) (r 11) (r 12) (r 13)
    rw [bx_val_x (n := 8) (e := (8, 0)) h0_ rfl, bx_val_x (n := 9) (e := (13, 0)) h0_ rfl, bx_val_x (n := 10) (e := (0, 0)) h0_ rfl, ← hr_ 8 (by decide), ← hr_ 9 (by decide), ← hr_ 10 (by decide), ← hr_ 11 (by decide), ← hr_ 12 (by decide), ← hr_ 13 (by decide)]
    exact g.2.2.2
theorem rxd289_0_0 {S0 : Nat → Int → Int} {ws : List Int} {S : Nat → Int → Int} {kind pers cue tchr year base x14 : Int} (hP : rxP289 S0 ws) (hin : bx_same rxL (bx_mdl rxC289.2.2.1) S0 S) (hin2 : bx_same rxL (bx_mdl rxC289.2.2.1) S S) (I0 : bx_Inv rxL S) (I1 : bx_Inv rxL S) (hinv : rxI289_0 S0 ws S kind pers cue tchr year base) (l8 : 0 ≤ kind) (u8 : kind ≤ 2) (l9 : 0 ≤ pers) (u9 : pers ≤ 7) (l10 : 0 ≤ cue) (u10 : cue ≤ 5) (l11 : (-1) ≤ tchr) (u11 : tchr ≤ 7) (l12 : 0 ≤ year) (u12 : year ≤ 300) (l13 : 0 ≤ base) (u13 : base ≤ 100) (l14 : (-1) ≤ x14) (u14 : x14 ≤ (-1)) (e0 : S 482 4 = x14) : (True) ∧ rxPS289 S0 ws S (some base) := by
  exact ⟨trivial, trivial⟩
theorem rxf289_0_0 {X : (Nat → Int → Int) → Prop} {S0 : Nat → Int → Int} {ws : List Int} (hP : rxP289 S0 ws) : bx_obE rxL X S0 rxC289.2.2.1 (rxI289 S0 ws) (rxPS289 S0 ws) 0 rxz289_0 rxe289_0_0 := by
  intro S S_p r r_p hinv hX hin hsm_ hseg
  obtain ⟨I0, I1, h0_, hr_, b_, f_, d_⟩ := bx_cl (evs := [(0, (0, 482), (0, 4), .inr (0, (14, 0)))]) (fvs := []) hseg (by decide +kernel) (by decide +kernel)
  have hinv : rxI289_0 S0 ws S (r 8) (r 9) (r 10) (r 11) (r 12) (r 13) := hinv
  rw [← hr_ 8 (by decide), ← hr_ 9 (by decide), ← hr_ 10 (by decide), ← hr_ 11 (by decide), ← hr_ 12 (by decide), ← hr_ 13 (by decide)] at hinv
  obtain ⟨⟨l8, u8⟩, ⟨l9, u9⟩, ⟨l10, u10⟩, ⟨l11, u11⟩, ⟨l12, u12⟩, ⟨l13, u13⟩, ⟨l14, u14⟩, -⟩ := b_
  obtain ⟨e0, w_⟩ := d_
  subst w_
  have g := rxd289_0_0 hP hin hsm_ I0 I1 hinv l8 u8 l9 u9 l10 u10 l11 u11 l12 u12 l13 u13 l14 u14 e0
  refine ⟨bx_narP_ok (l := []) g.1, ?_⟩
  show rxPS289 S0 ws S_p (some (bx_num r_p (.inr (1, (13, 0)))))
  rw [bx_xv_ok h0_]
  exact g.2
theorem rxc289_1_0 {S0 : Nat → Int → Int} {ws : List Int} {S : Nat → Int → Int} {kind val i x11 x12 : Int} (hP : rxP289 S0 ws) (hin : bx_same rxL (bx_mdl rxC289.2.2.1) S0 S) (I0 : bx_Inv rxL S) (hinv : rxI289_1 S0 ws S kind val i) (l8 : 0 ≤ kind) (u8 : kind ≤ 2) (l9 : (-9223372036854775808) ≤ val) (u9 : val ≤ 9223372036854775807) (l10 : 0 ≤ i) (u10 : i ≤ 12) (l11 : 0 ≤ x11) (u11 : x11 ≤ 5280) (l12 : (-1) ≤ x12) (u12 : x12 ≤ 1000) (e1 : S 480 28 = x11) (e0 : S 482 (x11 + 1) = x12) : ((0 ≤ x12 ∧ x12 ≤ 12) ∧ True) ∧ (True) ∧ rxI289_2 S0 ws S kind val i i x12 ∧ rxm289_2 S0 ws S kind val i i x12 < rxm289_1 S0 ws S kind val i := by
  obtain ⟨hx, n, n0, n5, hl⟩ := hinv
  have g := rxCnt I0 n0 n5
  rw [← hl, e1, e0] at g
  exact ⟨⟨by omega, trivial⟩, trivial, ⟨rfl, by rw [e1, e0], hx, n, n0, n5, hl⟩, by unfold rxm289_1 rxm289_2; omega⟩
theorem rxg289_1_0 {X : (Nat → Int → Int) → Prop} {S0 : Nat → Int → Int} {ws : List Int} (hP : rxP289 S0 ws) : bx_obC rxL X S0 rxC289.2.2.1 (rxI289 S0 ws) (rxm289 S0 ws) 1 rxz289_1 rxo289_1_0 := by
  intro S S_p r r_p hinv hX hin hsm_ hseg
  obtain ⟨I0, I1, h0_, hr_, b_, f_, d_⟩ := bx_cl (evs := [(0, (0, 482), (11, 1), .inr (0, (12, 0))), (0, (0, 480), (0, 28), .inr (0, (11, 0)))]) (fvs := []) hseg (by decide +kernel) (by decide +kernel)
  have hinv : rxI289_1 S0 ws S (r 8) (r 9) (r 10) := hinv
  rw [← hr_ 8 (by decide), ← hr_ 9 (by decide), ← hr_ 10 (by decide)] at hinv
  obtain ⟨⟨l8, u8⟩, ⟨l9, u9⟩, ⟨l10, u10⟩, ⟨l11, u11⟩, ⟨l12, u12⟩, -⟩ := b_
  obtain ⟨e0, ⟨e1, w_⟩⟩ := d_
  subst w_
  have g := rxc289_1_0 hP hin I0 hinv l8 u8 l9 u9 l10 u10 l11 u11 l12 u12 e1 e0
  refine ⟨bx_narP_ok (l := [(12, 0, 12)]) g.1, bx_nfP_ok h0_ (fvs := []) (by decide +kernel) g.2.1, ?_, ?_⟩
  · show rxI289_2 S0 ws S_p (bx_val [(0, 0), (0, 0), (0, 0), (0, 0), (0, 0), (0, 0), (0, 0), (0, 0), (8, 0), (9, 0), (10, 0), (10, 0), (12, 0)] r_p 8) (bx_val [(0, 0), (0, 0), (0, 0), (0, 0), (0, 0), (0, 0), (0, 0), (0, 0), (8, 0), (9, 0), (10, 0), (10, 0), (12, 0)] r_p 9) (bx_val [(0, 0), (0, 0), (0, 0), (0, 0), (0, 0), (0, 0), (0, 0), (0, 0), (8, 0), (9, 0), (10, 0), (10, 0), (12, 0)] r_p 10) (bx_val [(0, 0), (0, 0), (0, 0), (0, 0), (0, 0), (0, 0), (0, 0), (0, 0), (8, 0), (9, 0), (10, 0), (10, 0), (12, 0)] r_p 11) (bx_val [(0, 0), (0, 0), (0, 0), (0, 0), (0, 0), (0, 0), (0, 0), (0, 0), (8, 0), (9, 0), (10, 0), (10, 0), (12, 0)] r_p 12)
    rw [bx_val_x (n := 8) (e := (8, 0)) h0_ rfl, bx_val_x (n := 9) (e := (9, 0)) h0_ rfl, bx_val_x (n := 10) (e := (10, 0)) h0_ rfl, bx_val_x (n := 11) (e := (10, 0)) h0_ rfl, bx_val_x (n := 12) (e := (12, 0)) h0_ rfl]
    exact g.2.2.1
  · show rxm289_2 S0 ws S_p (bx_val [(0, 0), (0, 0), (0, 0), (0, 0), (0, 0), (0, 0), (0, 0), (0, 0), (8, 0), (9, 0), (10, 0), (10, 0), (12, 0)] r_p 8) (bx_val [(0, 0), (0, 0), (0, 0), (0, 0), (0, 0), (0, 0), (0, 0), (0, 0), (8, 0), (9, 0), (10, 0), (10, 0), (12, 0)] r_p 9) (bx_val [(0, 0), (0, 0), (0, 0), (0, 0), (0, 0), (0, 0), (0, 0), (0, 0), (8, 0), (9, 0), (10, 0), (10, 0), (12, 0)] r_p 10) (bx_val [(0, 0), (0, 0), (0, 0), (0, 0), (0, 0), (0, 0), (0, 0), (0, 0), (8, 0), (9, 0), (10, 0), (10, 0), (12, 0)] r_p 11) (bx_val [(0, 0), (0, 0), (0, 0), (0, 0), (0, 0), (0, 0), (0, 0), (0, 0), (8, 0), (9, 0), (10, 0), (10, 0), (12, 0)] r_p 12) < rxm289_1 S0 ws S_p (r 8) (r 9) (r 10)
    rw [bx_val_x (n := 8) (e := (8, 0)) h0_ rfl, bx_val_x (n := 9) (e := (9, 0)) h0_ rfl, bx_val_x (n := 10) (e := (10, 0)) h0_ rfl, bx_val_x (n := 11) (e := (10, 0)) h0_ rfl, bx_val_x (n := 12) (e := (12, 0)) h0_ rfl, ← hr_ 8 (by decide), ← hr_ 9 (by decide), ← hr_ 10 (by decide)]
    exact g.2.2.2
theorem rxc289_2_0 {S0 : Nat → Int → Int} {ws : List Int} {S : Nat → Int → Int} {kind val i i2 cnt x13 x14 x15 x16 : Int} (hP : rxP289 S0 ws) (hin : bx_same rxL (bx_mdl rxC289.2.2.1) S0 S) (I0 : bx_Inv rxL S) (hinv : rxI289_2 S0 ws S kind val i i2 cnt) (l8 : 0 ≤ kind) (u8 : kind ≤ 2) (l9 : (-9223372036854775808) ≤ val) (u9 : val ≤ 9223372036854775807) (l10 : 0 ≤ i) (u10 : i ≤ 12) (l11 : 0 ≤ i2) (u11 : i2 ≤ 11) (l12 : 1 ≤ cnt) (u12 : cnt ≤ 12) (l13 : 0 ≤ x13) (u13 : x13 ≤ 5280) (l14 : 0 ≤ x14) (u14 : x14 ≤ 96) (l15 : 2 ≤ x15) (u15 : x15 ≤ 5378) (l16 : 0 ≤ x16) (u16 : x16 ≤ 2) (f0 : x16 = kind) (f1 : x15 = x13 + 2 + x14) (f2 : x14 = 8 * (i)) (f3 : i2 < cnt) (e1 : S 480 28 = x13) (e0 : S 482 x15 = x16) : ((0 ≤ i ∧ i ≤ 11) ∧ (782 ≤ x15 ∧ x15 ≤ 5370) ∧ True) ∧ (True) ∧ rxI289_3 S0 ws S kind val i x15 ∧ rxm289_3 S0 ws S kind val i x15 < rxm289_2 S0 ws S kind val i i2 cnt := by
  obtain ⟨rfl, hc, hx, n, n0, n5, hl⟩ := hinv
  have hc2 := hc
  rw [hl] at hc2
  exact ⟨⟨by omega, by omega, trivial⟩, trivial, ⟨hx, n, i2, n0, n5, by omega, by omega, by omega, hl, by omega⟩, by unfold rxm289_2 rxm289_3; omega⟩
theorem rxg289_2_0 {X : (Nat → Int → Int) → Prop} {S0 : Nat → Int → Int} {ws : List Int} (hP : rxP289 S0 ws) : bx_obC rxL X S0 rxC289.2.2.1 (rxI289 S0 ws) (rxm289 S0 ws) 2 rxz289_2 rxo289_2_0 := by
  intro S S_p r r_p hinv hX hin hsm_ hseg
  obtain ⟨I0, I1, h0_, hr_, b_, f_, d_⟩ := bx_cl (evs := [(0, (0, 482), (15, 0), .inr (0, (16, 0))), (0, (0, 480), (0, 28), .inr (0, (13, 0)))]) (fvs := [(2, (16, 0), (8, 0), (0, 0)), (5, (15, 0), (13, 2), (14, 0)), (4, (14, 0), (10, 0), (0, 8)), (0, (11, 0), (12, 0), (0, 0))]) hseg (by decide +kernel) (by decide +kernel)
  have hinv : rxI289_2 S0 ws S (r 8) (r 9) (r 10) (r 11) (r 12) := hinv
  rw [← hr_ 8 (by decide), ← hr_ 9 (by decide), ← hr_ 10 (by decide), ← hr_ 11 (by decide), ← hr_ 12 (by decide)] at hinv
  obtain ⟨⟨l8, u8⟩, ⟨l9, u9⟩, ⟨l10, u10⟩, ⟨l11, u11⟩, ⟨l12, u12⟩, ⟨l13, u13⟩, ⟨l14, u14⟩, ⟨l15, u15⟩, ⟨l16, u16⟩, -⟩ := b_
  obtain ⟨f0, f1, f2, f3, -⟩ := f_
  obtain ⟨e0, ⟨e1, w_⟩⟩ := d_
  subst w_
  have g := rxc289_2_0 hP hin I0 hinv l8 u8 l9 u9 l10 u10 l11 u11 l12 u12 l13 u13 l14 u14 l15 u15 l16 u16 f0 f1 f2 f3 e1 e0
  refine ⟨bx_narP_ok (l := [(10, 0, 11), (15, 782, 5370)]) g.1, bx_nfP_ok h0_ (fvs := []) (by decide +kernel) g.2.1, ?_, ?_⟩
  · show rxI289_3 S0 ws S_p (bx_val [(0, 0), (0, 0), (0, 0), (0, 0), (0, 0), (0, 0), (0, 0), (0, 0), (8, 0), (9, 0), (10, 0), (15, 0)] r_p 8) (bx_val [(0, 0), (0, 0), (0, 0), (0, 0), (0, 0), (0, 0), (0, 0), (0, 0), (8, 0), (9, 0), (10, 0), (15, 0)] r_p 9) (bx_val [(0, 0), (0, 0), (0, 0), (0, 0), (0, 0), (0, 0), (0, 0), (0, 0), (8, 0), (9, 0), (10, 0), (15, 0)] r_p 10) (bx_val [(0, 0), (0, 0), (0, 0), (0, 0), (0, 0), (0, 0), (0, 0), (0, 0), (8, 0), (9, 0), (10, 0), (15, 0)] r_p 11)
    rw [bx_val_x (n := 8) (e := (8, 0)) h0_ rfl, bx_val_x (n := 9) (e := (9, 0)) h0_ rfl, bx_val_x (n := 10) (e := (10, 0)) h0_ rfl, bx_val_x (n := 11) (e := (15, 0)) h0_ rfl]
    exact g.2.2.1
  · show rxm289_3 S0 ws S_p (bx_val [(0, 0), (0, 0), (0, 0), (0, 0), (0, 0), (0, 0), (0, 0), (0, 0), (8, 0), (9, 0), (10, 0), (15, 0)] r_p 8) (bx_val [(0, 0), (0, 0), (0, 0), (0, 0), (0, 0), (0, 0), (0, 0), (0, 0), (8, 0), (9, 0), (10, 0), (15, 0)] r_p 9) (bx_val [(0, 0), (0, 0), (0, 0), (0, 0), (0, 0), (0, 0), (0, 0), (0, 0), (8, 0), (9, 0), (10, 0), (15, 0)] r_p 10) (bx_val [(0, 0), (0, 0), (0, 0), (0, 0), (0, 0), (0, 0), (0, 0), (0, 0), (8, 0), (9, 0), (10, 0), (15, 0)] r_p 11) < rxm289_2 S0 ws S_p (r 8) (r 9) (r 10) (r 11) (r 12)
    rw [bx_val_x (n := 8) (e := (8, 0)) h0_ rfl, bx_val_x (n := 9) (e := (9, 0)) h0_ rfl, bx_val_x (n := 10) (e := (10, 0)) h0_ rfl, bx_val_x (n := 11) (e := (15, 0)) h0_ rfl, ← hr_ 8 (by decide), ← hr_ 9 (by decide), ← hr_ 10 (by decide), ← hr_ 11 (by decide), ← hr_ 12 (by decide)]
    exact g.2.2.2
theorem rxc289_2_1 {S0 : Nat → Int → Int} {ws : List Int} {S : Nat → Int → Int} {kind val i i2 cnt x13 x14 x15 x16 : Int} (hP : rxP289 S0 ws) (hin : bx_same rxL (bx_mdl rxC289.2.2.1) S0 S) (I0 : bx_Inv rxL S) (hinv : rxI289_2 S0 ws S kind val i i2 cnt) (l8 : 0 ≤ kind) (u8 : kind ≤ 2) (l9 : (-9223372036854775808) ≤ val) (u9 : val ≤ 9223372036854775807) (l10 : 0 ≤ i) (u10 : i ≤ 12) (l11 : 0 ≤ i2) (u11 : i2 ≤ 11) (l12 : 1 ≤ cnt) (u12 : cnt ≤ 12) (l13 : 0 ≤ x13) (u13 : x13 ≤ 5280) (l14 : 0 ≤ x14) (u14 : x14 ≤ 96) (l15 : 2 ≤ x15) (u15 : x15 ≤ 5378) (l16 : (-1) ≤ x16) (u16 : x16 ≤ 1000) (f0 : x16 ≠ kind) (f1 : x15 = x13 + 2 + x14) (f2 : x14 = 8 * (i)) (f3 : i2 < cnt) (e1 : S 480 28 = x13) (e0 : S 482 x15 = x16) : (((-1) ≤ i ∧ i ≤ 11) ∧ True) ∧ (True) ∧ rxI289_1 S0 ws S kind val (i + 1) ∧ rxm289_1 S0 ws S kind val (i + 1) < rxm289_2 S0 ws S kind val i i2 cnt := by
  obtain ⟨rfl, hc, hx⟩ := hinv
  exact ⟨⟨by omega, trivial⟩, trivial, hx, by unfold rxm289_2 rxm289_1; omega⟩
theorem rxg289_2_1 {X : (Nat → Int → Int) → Prop} {S0 : Nat → Int → Int} {ws : List Int} (hP : rxP289 S0 ws) : bx_obC rxL X S0 rxC289.2.2.1 (rxI289 S0 ws) (rxm289 S0 ws) 2 rxz289_2 rxo289_2_1 := by
  intro S S_p r r_p hinv hX hin hsm_ hseg
  obtain ⟨I0, I1, h0_, hr_, b_, f_, d_⟩ := bx_cl (evs := [(0, (0, 482), (15, 0), .inr (0, (16, 0))), (0, (0, 480), (0, 28), .inr (0, (13, 0)))]) (fvs := [(3, (16, 0), (8, 0), (0, 0)), (5, (15, 0), (13, 2), (14, 0)), (4, (14, 0), (10, 0), (0, 8)), (0, (11, 0), (12, 0), (0, 0))]) hseg (by decide +kernel) (by decide +kernel)
  have hinv : rxI289_2 S0 ws S (r 8) (r 9) (r 10) (r 11) (r 12) := hinv
  rw [← hr_ 8 (by decide), ← hr_ 9 (by decide), ← hr_ 10 (by decide), ← hr_ 11 (by decide), ← hr_ 12 (by decide)] at hinv
  obtain ⟨⟨l8, u8⟩, ⟨l9, u9⟩, ⟨l10, u10⟩, ⟨l11, u11⟩, ⟨l12, u12⟩, ⟨l13, u13⟩, ⟨l14, u14⟩, ⟨l15, u15⟩, ⟨l16, u16⟩, -⟩ := b_
  obtain ⟨f0, f1, f2, f3, -⟩ := f_
  obtain ⟨e0, ⟨e1, w_⟩⟩ := d_
  subst w_
  have g := rxc289_2_1 hP hin I0 hinv l8 u8 l9 u9 l10 u10 l11 u11 l12 u12 l13 u13 l14 u14 l15 u15 l16 u16 f0 f1 f2 f3 e1 e0
  refine ⟨bx_narP_ok (l := [(10, (-1), 11)]) g.1, bx_nfP_ok h0_ (fvs := []) (by decide +kernel) g.2.1, ?_, ?_⟩
  · show rxI289_1 S0 ws S_p (bx_val [(0, 0), (0, 0), (0, 0), (0, 0), (0, 0), (0, 0), (0, 0), (0, 0), (8, 0), (9, 0), (10, 1)] r_p 8) (bx_val [(0, 0), (0, 0), (0, 0), (0, 0), (0, 0), (0, 0), (0, 0), (0, 0), (8, 0), (9, 0), (10, 1)] r_p 9) (bx_val [(0, 0), (0, 0), (0, 0), (0, 0), (0, 0), (0, 0), (0, 0), (0, 0), (8, 0), (9, 0), (10, 1)] r_p 10)
    rw [bx_val_x (n := 8) (e := (8, 0)) h0_ rfl, bx_val_x (n := 9) (e := (9, 0)) h0_ rfl, bx_val_x (n := 10) (e := (10, 1)) h0_ rfl]
    exact g.2.2.1
  · show rxm289_1 S0 ws S_p (bx_val [(0, 0), (0, 0), (0, 0), (0, 0), (0, 0), (0, 0), (0, 0), (0, 0), (8, 0), (9, 0), (10, 1)] r_p 8) (bx_val [(0, 0), (0, 0), (0, 0), (0, 0), (0, 0), (0, 0), (0, 0), (0, 0), (8, 0), (9, 0), (10, 1)] r_p 9) (bx_val [(0, 0), (0, 0), (0, 0), (0, 0), (0, 0), (0, 0), (0, 0), (0, 0), (8, 0), (9, 0), (10, 1)] r_p 10) < rxm289_2 S0 ws S_p (r 8) (r 9) (r 10) (r 11) (r 12)
    rw [bx_val_x (n := 8) (e := (8, 0)) h0_ rfl, bx_val_x (n := 9) (e := (9, 0)) h0_ rfl, bx_val_x (n := 10) (e := (10, 1)) h0_ rfl, ← hr_ 8 (by decide), ← hr_ 9 (by decide), ← hr_ 10 (by decide), ← hr_ 11 (by decide), ← hr_ 12 (by decide)]
    exact g.2.2.2
theorem rxd289_2_0 {S0 : Nat → Int → Int} {ws : List Int} {S : Nat → Int → Int} {kind val i i2 cnt : Int} (hP : rxP289 S0 ws) (hin : bx_same rxL (bx_mdl rxC289.2.2.1) S0 S) (hin2 : bx_same rxL (bx_mdl rxC289.2.2.1) S S) (I0 : bx_Inv rxL S) (I1 : bx_Inv rxL S) (hinv : rxI289_2 S0 ws S kind val i i2 cnt) (l8 : 0 ≤ kind) (u8 : kind ≤ 2) (l9 : (-9223372036854775808) ≤ val) (u9 : val ≤ 9223372036854775807) (l10 : 0 ≤ i) (u10 : i ≤ 12) (l11 : 0 ≤ i2) (u11 : i2 ≤ 12) (l12 : 0 ≤ cnt) (u12 : cnt ≤ 12) (f0 : cnt ≤ i2) : (True) ∧ rxPS289 S0 ws S (some val) := by
  exact ⟨trivial, trivial⟩
theorem rxf289_2_0 {X : (Nat → Int → Int) → Prop} {S0 : Nat → Int → Int} {ws : List Int} (hP : rxP289 S0 ws) : bx_obE rxL X S0 rxC289.2.2.1 (rxI289 S0 ws) (rxPS289 S0 ws) 2 rxz289_2 rxe289_2_0 := by
  intro S S_p r r_p hinv hX hin hsm_ hseg
  obtain ⟨I0, I1, h0_, hr_, b_, f_, d_⟩ := bx_cl (evs := []) (fvs := [(1, (12, 0), (11, 0), (0, 0))]) hseg (by decide +kernel) (by decide +kernel)
  have hinv : rxI289_2 S0 ws S (r 8) (r 9) (r 10) (r 11) (r 12) := hinv
  rw [← hr_ 8 (by decide), ← hr_ 9 (by decide), ← hr_ 10 (by decide), ← hr_ 11 (by decide), ← hr_ 12 (by decide)] at hinv
  obtain ⟨⟨l8, u8⟩, ⟨l9, u9⟩, ⟨l10, u10⟩, ⟨l11, u11⟩, ⟨l12, u12⟩, -⟩ := b_
  obtain ⟨f0, -⟩ := f_
  have w_ := d_
  subst w_
  have g := rxd289_2_0 hP hin hsm_ I0 I1 hinv l8 u8 l9 u9 l10 u10 l11 u11 l12 u12 f0
  refine ⟨bx_narP_ok (l := []) g.1, ?_⟩
  show rxPS289 S0 ws S_p (some (bx_num r_p (.inr (1, (9, 0)))))
  rw [bx_xv_ok h0_]
  exact g.2
theorem rxc289_4_0 {S0 : Nat → Int → Int} {ws : List Int} {S : Nat → Int → Int} {kind val i start so : Int} (hP : rxP289 S0 ws) (hin : bx_same rxL (bx_mdl rxC289.2.2.1) S0 S) (I0 : bx_Inv rxL S) (hinv : rxI289_4 S0 ws S kind val i start so) (l8 : 2 ≤ kind) (u8 : kind ≤ 2) (l9 : (-9223372036854775808) ≤ val) (u9 : val ≤ 9223372036854775807) (l10 : 0 ≤ i) (u10 : i ≤ 11) (l11 : 782 ≤ start) (u11 : start ≤ 5370) (l12 : 1 ≤ so) (u12 : so ≤ 1) (f0 : so ≠ 0) : (True) ∧ (True) ∧ rxI289_1 S0 ws S kind 1 (i + 1) ∧ rxm289_1 S0 ws S kind 1 (i + 1) < rxm289_4 S0 ws S kind val i start so := by
  exact ⟨trivial, trivial, hinv, by unfold rxm289_4 rxm289_1; omega⟩
theorem rxg289_4_0 {X : (Nat → Int → Int) → Prop} {S0 : Nat → Int → Int} {ws : List Int} (hP : rxP289 S0 ws) : bx_obC rxL X S0 rxC289.2.2.1 (rxI289 S0 ws) (rxm289 S0 ws) 4 rxz289_4 rxo289_4_0 := by
  intro S S_p r r_p hinv hX hin hsm_ hseg
  obtain ⟨I0, I1, h0_, hr_, b_, f_, d_⟩ := bx_cl (evs := []) (fvs := [(3, (12, 0), (0, 0), (0, 0))]) hseg (by decide +kernel) (by decide +kernel)
  have hinv : rxI289_4 S0 ws S (r 8) (r 9) (r 10) (r 11) (r 12) := hinv
  rw [← hr_ 8 (by decide), ← hr_ 9 (by decide), ← hr_ 10 (by decide), ← hr_ 11 (by decide), ← hr_ 12 (by decide)] at hinv
  obtain ⟨⟨l8, u8⟩, ⟨l9, u9⟩, ⟨l10, u10⟩, ⟨l11, u11⟩, ⟨l12, u12⟩, -⟩ := b_
  obtain ⟨f0, -⟩ := f_
  have w_ := d_
  subst w_
  have g := rxc289_4_0 hP hin I0 hinv l8 u8 l9 u9 l10 u10 l11 u11 l12 u12 f0
  refine ⟨bx_narP_ok (l := []) g.1, bx_nfP_ok h0_ (fvs := []) (by decide +kernel) g.2.1, ?_, ?_⟩
  · show rxI289_1 S0 ws S_p (bx_val [(0, 0), (0, 0), (0, 0), (0, 0), (0, 0), (0, 0), (0, 0), (0, 0), (8, 0), (0, 1), (10, 1)] r_p 8) (bx_val [(0, 0), (0, 0), (0, 0), (0, 0), (0, 0), (0, 0), (0, 0), (0, 0), (8, 0), (0, 1), (10, 1)] r_p 9) (bx_val [(0, 0), (0, 0), (0, 0), (0, 0), (0, 0), (0, 0), (0, 0), (0, 0), (8, 0), (0, 1), (10, 1)] r_p 10)
    rw [bx_val_x (n := 8) (e := (8, 0)) h0_ rfl, bx_val_x (n := 9) (e := (0, 1)) h0_ rfl, bx_val_x (n := 10) (e := (10, 1)) h0_ rfl]
    exact g.2.2.1
  · show rxm289_1 S0 ws S_p (bx_val [(0, 0), (0, 0), (0, 0), (0, 0), (0, 0), (0, 0), (0, 0), (0, 0), (8, 0), (0, 1), (10, 1)] r_p 8) (bx_val [(0, 0), (0, 0), (0, 0), (0, 0), (0, 0), (0, 0), (0, 0), (0, 0), (8, 0), (0, 1), (10, 1)] r_p 9) (bx_val [(0, 0), (0, 0), (0, 0), (0, 0), (0, 0), (0, 0), (0, 0), (0, 0), (8, 0), (0, 1), (10, 1)] r_p 10) < rxm289_4 S0 ws S_p (r 8) (r 9) (r 10) (r 11) (r 12)
    rw [bx_val_x (n := 8) (e := (8, 0)) h0_ rfl, bx_val_x (n := 9) (e := (0, 1)) h0_ rfl, bx_val_x (n := 10) (e := (10, 1)) h0_ rfl, ← hr_ 8 (by decide), ← hr_ 9 (by decide), ← hr_ 10 (by decide), ← hr_ 11 (by decide), ← hr_ 12 (by decide)]
    exact g.2.2.2
theorem rxc289_4_1 {S0 : Nat → Int → Int} {ws : List Int} {S : Nat → Int → Int} {kind val i start so x13 : Int} (hP : rxP289 S0 ws) (hin : bx_same rxL (bx_mdl rxC289.2.2.1) S0 S) (I0 : bx_Inv rxL S) (hinv : rxI289_4 S0 ws S kind val i start so) (l8 : 0 ≤ kind) (u8 : kind ≤ 1) (l9 : (-9223372036854775808) ≤ val) (u9 : val ≤ 9223372036854775807) (l10 : 0 ≤ i) (u10 : i ≤ 11) (l11 : 782 ≤ start) (u11 : start ≤ 5370) (l12 : 1 ≤ so) (u12 : so ≤ 1) (l13 : (-9223372036854775808) ≤ x13) (u13 : x13 ≤ 9223372036854775807) (f0 : kind ≠ 2) (f1 : so ≠ 0) (e0 : S 480 34 = x13) : (True) ∧ (True) ∧ rxI289_1 S0 ws S kind x13 (i + 1) ∧ rxm289_1 S0 ws S kind x13 (i + 1) < rxm289_4 S0 ws S kind val i start so := by
  exact ⟨trivial, trivial, hinv, by unfold rxm289_4 rxm289_1; omega⟩
theorem rxg289_4_1 {X : (Nat → Int → Int) → Prop} {S0 : Nat → Int → Int} {ws : List Int} (hP : rxP289 S0 ws) : bx_obC rxL X S0 rxC289.2.2.1 (rxI289 S0 ws) (rxm289 S0 ws) 4 rxz289_4 rxo289_4_1 := by
  intro S S_p r r_p hinv hX hin hsm_ hseg
  obtain ⟨I0, I1, h0_, hr_, b_, f_, d_⟩ := bx_cl (evs := [(0, (0, 480), (0, 34), .inr (1, (13, 0)))]) (fvs := [(3, (8, 0), (0, 2), (0, 0)), (3, (12, 0), (0, 0), (0, 0))]) hseg (by decide +kernel) (by decide +kernel)
  have hinv : rxI289_4 S0 ws S (r 8) (r 9) (r 10) (r 11) (r 12) := hinv
  rw [← hr_ 8 (by decide), ← hr_ 9 (by decide), ← hr_ 10 (by decide), ← hr_ 11 (by decide), ← hr_ 12 (by decide)] at hinv
  obtain ⟨⟨l8, u8⟩, ⟨l9, u9⟩, ⟨l10, u10⟩, ⟨l11, u11⟩, ⟨l12, u12⟩, ⟨l13, u13⟩, -⟩ := b_
  obtain ⟨f0, f1, -⟩ := f_
  obtain ⟨e0, w_⟩ := d_
  subst w_
  have g := rxc289_4_1 hP hin I0 hinv l8 u8 l9 u9 l10 u10 l11 u11 l12 u12 l13 u13 f0 f1 e0
  refine ⟨bx_narP_ok (l := []) g.1, bx_nfP_ok h0_ (fvs := []) (by decide +kernel) g.2.1, ?_, ?_⟩
  · show rxI289_1 S0 ws S_p (bx_val [(0, 0), (0, 0), (0, 0), (0, 0), (0, 0), (0, 0), (0, 0), (0, 0), (8, 0), (13, 0), (10, 1)] r_p 8) (bx_val [(0, 0), (0, 0), (0, 0), (0, 0), (0, 0), (0, 0), (0, 0), (0, 0), (8, 0), (13, 0), (10, 1)] r_p 9) (bx_val [(0, 0), (0, 0), (0, 0), (0, 0), (0, 0), (0, 0), (0, 0), (0, 0), (8, 0), (13, 0), (10, 1)] r_p 10)
    rw [bx_val_x (n := 8) (e := (8, 0)) h0_ rfl, bx_val_x (n := 9) (e := (13, 0)) h0_ rfl, bx_val_x (n := 10) (e := (10, 1)) h0_ rfl]
    exact g.2.2.1
  · show rxm289_1 S0 ws S_p (bx_val [(0, 0), (0, 0), (0, 0), (0, 0), (0, 0), (0, 0), (0, 0), (0, 0), (8, 0), (13, 0), (10, 1)] r_p 8) (bx_val [(0, 0), (0, 0), (0, 0), (0, 0), (0, 0), (0, 0), (0, 0), (0, 0), (8, 0), (13, 0), (10, 1)] r_p 9) (bx_val [(0, 0), (0, 0), (0, 0), (0, 0), (0, 0), (0, 0), (0, 0), (0, 0), (8, 0), (13, 0), (10, 1)] r_p 10) < rxm289_4 S0 ws S_p (r 8) (r 9) (r 10) (r 11) (r 12)
    rw [bx_val_x (n := 8) (e := (8, 0)) h0_ rfl, bx_val_x (n := 9) (e := (13, 0)) h0_ rfl, bx_val_x (n := 10) (e := (10, 1)) h0_ rfl, ← hr_ 8 (by decide), ← hr_ 9 (by decide), ← hr_ 10 (by decide), ← hr_ 11 (by decide), ← hr_ 12 (by decide)]
    exact g.2.2.2
theorem rxc289_4_2 {S0 : Nat → Int → Int} {ws : List Int} {S : Nat → Int → Int} {kind val i start so : Int} (hP : rxP289 S0 ws) (hin : bx_same rxL (bx_mdl rxC289.2.2.1) S0 S) (I0 : bx_Inv rxL S) (hinv : rxI289_4 S0 ws S kind val i start so) (l8 : 0 ≤ kind) (u8 : kind ≤ 2) (l9 : (-9223372036854775808) ≤ val) (u9 : val ≤ 9223372036854775807) (l10 : 0 ≤ i) (u10 : i ≤ 11) (l11 : 782 ≤ start) (u11 : start ≤ 5370) (l12 : 0 ≤ so) (u12 : so ≤ 0) : (True) ∧ (True) ∧ rxI289_1 S0 ws S kind val (i + 1) ∧ rxm289_1 S0 ws S kind val (i + 1) < rxm289_4 S0 ws S kind val i start so := by
  exact ⟨trivial, trivial, hinv, by unfold rxm289_4 rxm289_1; omega⟩
theorem rxg289_4_2 {X : (Nat → Int → Int) → Prop} {S0 : Nat → Int → Int} {ws : List Int} (hP : rxP289 S0 ws) : bx_obC rxL X S0 rxC289.2.2.1 (rxI289 S0 ws) (rxm289 S0 ws) 4 rxz289_4 rxo289_4_2 := by
  intro S S_p r r_p hinv hX hin hsm_ hseg
  obtain ⟨I0, I1, h0_, hr_, b_, f_, d_⟩ := bx_cl (evs := []) (fvs := []) hseg (by decide +kernel) (by decide +kernel)
  have hinv : rxI289_4 S0 ws S (r 8) (r 9) (r 10) (r 11) (r 12) := hinv
  rw [← hr_ 8 (by decide), ← hr_ 9 (by decide), ← hr_ 10 (by decide), ← hr_ 11 (by decide), ← hr_ 12 (by decide)] at hinv
  obtain ⟨⟨l8, u8⟩, ⟨l9, u9⟩, ⟨l10, u10⟩, ⟨l11, u11⟩, ⟨l12, u12⟩, -⟩ := b_
  have w_ := d_
  subst w_
  have g := rxc289_4_2 hP hin I0 hinv l8 u8 l9 u9 l10 u10 l11 u11 l12 u12
  refine ⟨bx_narP_ok (l := []) g.1, bx_nfP_ok h0_ (fvs := []) (by decide +kernel) g.2.1, ?_, ?_⟩
  · show rxI289_1 S0 ws S_p (bx_val [(0, 0), (0, 0), (0, 0), (0, 0), (0, 0), (0, 0), (0, 0), (0, 0), (8, 0), (9, 0), (10, 1)] r_p 8) (bx_val [(0, 0), (0, 0), (0, 0), (0, 0), (0, 0), (0, 0), (0, 0), (0, 0), (8, 0), (9, 0), (10, 1)] r_p 9) (bx_val [(0, 0), (0, 0), (0, 0), (0, 0), (0, 0), (0, 0), (0, 0), (0, 0), (8, 0), (9, 0), (10, 1)] r_p 10)
    rw [bx_val_x (n := 8) (e := (8, 0)) h0_ rfl, bx_val_x (n := 9) (e := (9, 0)) h0_ rfl, bx_val_x (n := 10) (e := (10, 1)) h0_ rfl]
    exact g.2.2.1
  · show rxm289_1 S0 ws S_p (bx_val [(0, 0), (0, 0), (0, 0), (0, 0), (0, 0), (0, 0), (0, 0), (0, 0), (8, 0), (9, 0), (10, 1)] r_p 8) (bx_val [(0, 0), (0, 0), (0, 0), (0, 0), (0, 0), (0, 0), (0, 0), (0, 0), (8, 0), (9, 0), (10, 1)] r_p 9) (bx_val [(0, 0), (0, 0), (0, 0), (0, 0), (0, 0), (0, 0), (0, 0), (0, 0), (8, 0), (9, 0), (10, 1)] r_p 10) < rxm289_4 S0 ws S_p (r 8) (r 9) (r 10) (r 11) (r 12)
    rw [bx_val_x (n := 8) (e := (8, 0)) h0_ rfl, bx_val_x (n := 9) (e := (9, 0)) h0_ rfl, bx_val_x (n := 10) (e := (10, 1)) h0_ rfl, ← hr_ 8 (by decide), ← hr_ 9 (by decide), ← hr_ 10 (by decide), ← hr_ 11 (by decide), ← hr_ 12 (by decide)]
    exact g.2.2.2
theorem rxgC289 {X : (Nat → Int → Int) → Prop} {S0 : Nat → Int → Int} {ws : List Int} (hP : rxP289 S0 ws) : bx_allI (fun i q => rxU289 q = true ∨ bx_allP (fun o => bx_obC rxL X S0 rxC289.2.2.1 (rxI289 S0 ws) (rxm289 S0 ws) i q.1 o) q.2.1) 0 rxY289 := ⟨Or.inr ⟨rxg289_0_0 hP, trivial⟩, Or.inr ⟨rxg289_1_0 hP, trivial⟩, Or.inr ⟨rxg289_2_0 hP, rxg289_2_1 hP, trivial⟩, Or.inl rfl, Or.inr ⟨rxg289_4_0 hP, rxg289_4_1 hP, rxg289_4_2 hP, trivial⟩, trivial⟩
theorem rxgE289 {X : (Nat → Int → Int) → Prop} {S0 : Nat → Int → Int} {ws : List Int} (hP : rxP289 S0 ws) : bx_allI (fun i q => rxU289 q = true ∨ bx_allP (fun E => bx_obE rxL X S0 rxC289.2.2.1 (rxI289 S0 ws) (rxPS289 S0 ws) i q.1 E) q.2.2) 0 rxY289 := ⟨Or.inr ⟨rxf289_0_0 hP, trivial⟩, Or.inr trivial, Or.inr ⟨rxf289_2_0 hP, trivial⟩, Or.inl rfl, Or.inr trivial, trivial⟩
theorem rxu289 {PX : State → Prop} {Dg : va_G} {A : Nat → Prop} {ad xa : Nat → Nat} {l : Launch} {X : (Nat → Int → Int) → Prop} (hPX : rx_PXOK rxNW A PX) (hX : ∀ S S1 : Nat → Int → Int, X S → bx_same rxL (bx_mdl rxC289.2.2.1) S S1 → X S1) (hQSO : bx_ConP rxG rxNW rxAO PX Dg rxL X vwCl A ad l rxM288 rxCSO rxPSO rxPSSO) {S0 : Nat → Int → Int} {ws : List Int} (hP : rxP289 S0 ws) : ∀ (i : Nat) (q : bx_HE), rxY289[i]? = some q → rxU289 q = true → ∀ {p : Program} {e : Env} {R : Room} {s : State} {m : MethodId} {args : Array Value} {below : List Frame} {meth : Method} {c : Code} {Q : State → Prop} {H0 : Heap}, rx_Fr rxG rxNW rxAO PX p s m args meth c rxM289 → (∀ q, H0.size ≤ q → A q) → H0 = s.heap → rxM289.2.2.2.2.2.2.1 ≤ R.cells → rxM289.2.2.2.2.2.2.2 ≤ R.slots → rxC289.2.2.2.1 ≤ R.frames → rxC289.2.2.2.1 * 40 ≤ R.locals → bx_Step p l e R s m args below meth c Q Dg rxL X vwCl A xa H0 ad rxM289 rxY289 (rxI289 S0 ws) (rxm289 S0 ws) S0 rxC289.2.2.1 i q := by
  intro i q hq hus p e R s m args below meth c Q H0 hF hA hH0 hmc hms hd hdl
  match i, hq with
  | 0, hq =>
    cases hq
    exact absurd (show false = true from hus) Bool.false_ne_true
  | 1, hq =>
    cases hq
    exact absurd (show false = true from hus) Bool.false_ne_true
  | 2, hq =>
    cases hq
    exact absurd (show false = true from hus) Bool.false_ne_true
  | 3, hq =>
    cases hq
    exact rx_stepC (ins := .invokevirtual 420) (len := 3) (i_p := 4) (M_p := rxM288) (d := rxC289.2.2.2.1) (as := [.inr (3, (0, 480)), .inr (0, (11, 0))]) (t := []) (ct := rxCSO) hPX hF rfl hA hH0 hmc hms hd hdl (by decide +kernel) rfl rfl (by decide +kernel) (by decide +kernel) hQSO (by decide +kernel) rfl (Or.inr ⟨_, _, _, 1, rfl, rfl, by omega, rfl, rfl, rfl⟩) (rxs289_3 hP)
  | 4, hq =>
    cases hq
    exact absurd (show false = true from hus) Bool.false_ne_true
  | n + 5, hq => cases hq
theorem rxQ289 {PX : State → Prop} {Dg : va_G} {A : Nat → Prop} {ad xa : Nat → Nat} {l : Launch} {X : (Nat → Int → Int) → Prop} (hPX : rx_PXOK rxNW A PX) (hsl : ∀ s : State, PX s → ∀ o idx n : Nat, rxSl o idx = some n → ∃ tx : String, vk_R (rxNm o) idx tx (ad n) s)
    (hX : ∀ S S_p : Nat → Int → Int, X S → bx_same rxL (bx_mdl rxC289.2.2.1) S S_p → X S_p)
    (ih : ∀ (j2 : Nat) (ct2 : bx_Ct) (M2 : rx_Mt), ct2 ∈ rxCnE j2 → ct2.2.2.2.1 + 1 ≤ rxC289.2.2.2.1 → rxT.2.2.2.2.2 j2 = some M2 → bx_Con rxG rxNW rxAO PX Dg rxL X vwCl A ad l M2 ct2) (hQSO : bx_ConP rxG rxNW rxAO PX Dg rxL X vwCl A ad l rxM288 rxCSO rxPSO rxPSSO) : bx_ConP rxG rxNW rxAO PX Dg rxL X vwCl A ad l rxM289 rxC289 rxP289 rxPS289 :=
  rxQof (xa := xa) (Cn := rxCnE) (f := 30000) (j := 289) (tab := rxY289) (us := rxU289) hPX hsl hX ih rfl rxYc289 rxI289 rxm289
    (fun S0 ws r I0 I ht0 ht as he he1 hX0 hI0 hP hs ha => by
      have e := he.symm.trans (show bx_ent0 rxNP rxC289.1 bx_I0 [] = some ([(0, 0), (0, 0), (0, 0), (0, 0), (0, 0), (0, 0), (0, 0), (0, 0), (0, 2), (0, 7), (0, 5), ((-1), 7), (0, 300), (0, 100)], [], [.inr (3, (0, 480)), .inr (0, (8, 0)), .inr (0, (9, 0)), .inr (0, (10, 0)), .inr (0, (11, 0)), .inr (0, (12, 0)), .inr (1, (13, 0))]) from rfl)
      cases e
      subst ha
      have h0 : r 0 = 0 := hs.1
      show rxI289_0 S0 _ S0 (r 8) (r 9) (r 10) (r 11) (r 12) (r 13)
      refine ⟨rfl, ?_⟩
      simp only [List.map_cons, List.map_nil, bx_xv_ok h0]
      rfl)
    (fun S0 ws hP => rxu289 (xa := xa) hPX hX hQSO hP) (fun S0 ws hP => rxgC289 hP) (fun S0 ws hP => rxgE289 hP)
end
