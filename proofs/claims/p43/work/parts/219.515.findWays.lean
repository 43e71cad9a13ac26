/-! LEAST, the reference: what findWays is given stays -/
def ldFx (S0 S : Nat → Int → Int) : Prop := S 482 6 = S0 482 6 ∧ S0 482 6 ≤ 12 ∧ ldt (S0 482 6) (ldrC S) = ldt (S0 482 6) (ldrC S0) ∧ ldt (S0 482 6) (ldrW S) = ldt (S0 482 6) (ldrW S0) ∧ ldt (S0 482 6) (ldrR S) = ldt (S0 482 6) (ldrR S0)
theorem ldFx_of {ms : List (Nat × Nat)} {S0 S : Nat → Int → Int} (h : bx_same rxL (bx_mdl ms) S0 S) (h1 : bx_noG ms (1000 + 63) = true) (h2 : bx_noG ms (1000 + 93) = true) (hI : bx_Inv rxL S) (ho : rxOrd S) : ldFx S0 S := by
  have h6 := rxN6 hI
  have e6 : S 482 6 = S0 482 6 := rx_sameR h (tc := 0) (n := 6180) (g := 63) rfl (by omega) h1 h1 (by omega) (by omega)
  have key : ∀ k : Int, 0 ≤ k → k < S0 482 6 → ∀ x : Int, 0 ≤ x → x ≤ 2 → S 482 (S 512 k + x) = S0 482 (S0 512 k + x) := fun k a b x x0 x2 => by
    obtain ⟨j, j0, j1, hj⟩ := ho k a (by omega)
    have e5 : S 512 k = S0 512 k := rx_sameR h (tc := 0) (n := 12) (g := 93) rfl (by omega) h2 h2 a (by omega)
    rw [← e5]
    exact rx_sameR h (tc := 0) (n := 6180) (g := 63) rfl (by omega) h1 h1 (by omega) (by omega)
  refine ⟨e6, by omega, ldt_cg fun k a b => key k a b 1 (by omega) (by omega), ldt_cg fun k a b => key k a b 2 (by omega) (by omega), ldt_cg fun k a b => ?_⟩
  have := key k a b 0 (by omega) (by omega)
  rw [Int.add_zero, Int.add_zero] at this
  exact this
theorem ldFx_k {S0 S : Nat → Int → Int} {m cue z k : Int} (h : ldFx S0 S) (h0 : 0 ≤ k) (h1 : k < S0 482 6) : (ldRD S0 m cue z).2.2.1 k = ldrC S k ∧ (ldRD S0 m cue z).2.2.2.1 k = ldrW S k ∧ (ldE (ldRD S0 m cue z) k ↔ rxLast S k) := by
  obtain ⟨e6, hn, eC, eW, eR⟩ := h
  refine ⟨?_, ?_, ldMz_E (S := S) e6.symm ?_ h0 (by omega)⟩
  · show ldt (S0 482 6) (ldrC S0) k = _
    rw [← eC, ldt_at h0 h1]
  · show ldt (S0 482 6) (ldrW S0) k = _
    rw [← eW, ldt_at h0 h1]
  · show ldt (S0 482 6) (ldrR S0) = _
    rw [← eR, e6]
theorem ldRb {S : Nat → Int → Int} {k : Int} (hI : bx_Inv rxL S) (ho : rxOrd S) (h0 : 0 ≤ k) (h1 : k < S 482 6) : 0 ≤ 6 * S 513 k + ldrC S k ∧ 6 * S 513 k + ldrC S k < 18 := by
  have h6 := rxN6 hI
  obtain ⟨j, j0, j1, hj⟩ := ho k h0 h1
  have hd := rxDeed1 hI j0 j1
  have b := ld513 hI (j := k) h0 (by omega)
  have ec : ldrC S k = S 482 (743 + 3 * j) := by
    unfold ldrC
    rw [hj, show 742 + 3 * j + 1 = 743 + 3 * j by omega]
  rw [ec]
  omega
theorem ldLf {S0 S : Nat → Int → Int} {m cue z row : Int} (hI : bx_Inv rxL S) (ho : rxOrd S) (hF : ldFx S0 S) (hz : ldZ (S0 482 6) (ldt (S0 482 6) (ldrR S0)) row z) (h0 : 0 ≤ cue) (h5 : cue ≤ 5) : (ldRD S0 m cue z).2.2.2.2.2 (ldt 18 (S 514)) (ldt 18 (S 515)) (ldt (S0 482 6) (S 513)) = ldl m cue z (ldrC S) (S 514) (S 515) (S 513) := by
  have h6 := rxN6 hI
  have e6 := hF.1
  show ldl m cue z (ldt (S0 482 6) (ldrC S0)) (ldt 18 (S 514)) (ldt 18 (S 515)) (ldt (S0 482 6) (S 513)) = _
  rw [← hF.2.2.1]
  have hzn : z < S0 482 6 := by
    rcases hz with ⟨a, b⟩ | ⟨a, b, c⟩ <;> omega
  exact ldl_t hzn (fun q => ldRb hI ho q (by omega)) h0 h5
theorem ldZ_u {S0 S : Nat → Int → Int} {row z z' : Int} (hF : ldFx S0 S) (hz : ldZ (S0 482 6) (ldt (S0 482 6) (ldrR S0)) row z) (hz' : ldMz S row (S 482 6) z') : z' = z := by
  have q := ldMz_Z hz'
  rw [hF.1, hF.2.2.2.2] at q
  exact ldZ_eq q hz
theorem ldRDle {S : Nat → Int → Int} {m cue z : Int} : ∀ a g p : Int → Int, (ldRD S m cue z).2.2.2.2.2 a g p ≤ 1023 := fun _ _ _ => ldl_le
theorem ldCo_b {S0 S : Nat → Int → Int} {m cue z : Int} {dn left : List Nat} (h : ldCo (ldRD S0 m cue z) S dn left) (hn : S0 482 6 ≤ 12) : 0 ≤ S 480 69 ∧ S 480 69 ≤ 600000 ∧ 0 ≤ S 480 70 ∧ S 480 70 ≤ 1023 := by
  obtain ⟨h4, h5, h6⟩ := h
  have hl := ldA_len (D := ldRD S0 m cue z) hn
  rw [h4, List.length_append] at hl
  have hb := ldB_le dn 0 (by omega) fun x hx => ldT_le (D := ldRD S0 m cue z) ldRDle _ _ _ _ _ _ _ x (by
    show x ∈ ldA (ldRD S0 m cue z)
    rw [h4]
    exact List.mem_append_left _ hx)
  rw [h5, h6]
  omega
theorem ldGO_old {S S' : Nat → Int → Int} {a b go : Int} (hb3 : b ≤ 3) (hp : rxPGO S [480, a, b]) (h : rxPSLGO S [480, a, b] S' (some go)) : rxPSGO S [480, a, b] S' (some go) := by
  obtain ⟨k, m, r, hw, hr, hrb, h⟩ := h
  obtain ⟨k', m', hw2, hk, -, p1, p2, p3⟩ := hp
  simp only [List.cons.injEq, and_true, true_and] at hw hw2
  obtain ⟨rfl, rfl⟩ := hw
  obtain ⟨rfl, rfl⟩ := hw2
  rcases h with ⟨h1, -, h3, h4⟩ | ⟨-, -, ht, fr, -, hfr, T, hQ, hp, h18⟩
  · exact ⟨a, b, rfl, h4, fun j _ => congrFun (h3 518 (by omega)) j, fun q => absurd (Option.some.inj (h1.symm.trans q)) (by omega)⟩
  · have c19 : S' 519 = ldu (S 519) a (S 519 a + 1) := (hp 519 (by omega)).trans hQ.2.1
    refine ⟨a, b, rfl, fun j hj => by rw [c19, ldu_ne hj], fun j hj => by rw [h18, ldu_ne hj], fun _ => ⟨by rw [c19, ldu_at], ?_, ?_⟩⟩
    · rw [c19, ldu_at]
      by_cases hc : ldFre S a r
      · have := ht.1 hc
        split at this <;> omega
      · have := ht.2 hc
        omega
    · rw [h18, ldu_at]
      by_cases hc : ldFre S a r
      · have := ht.1 hc
        split at this <;> split <;> omega
      · rw [if_neg (fun q => hc (hfr.mp q.1))]
        exact p3
/-! CONTRACT BY HAND, by program (wip/sim/genhand.py): DeadUnderstudiesModel.findWays -/
def rxCLFW : bx_Ct := ([(3, (1, 480, 0)), (0, (0, 1, 3)), (0, (0, 0, 3)), (0, (0, 0, 5))], none, [(12, 69), (12, 70), (1094, 0), (1095, 0), (1096, 0), (1097, 0), (1098, 0), (1099, 0), (1100, 0)], 2, [])
def rxILFW_0 (S0 : Nat → Int → Int) (ws : List Int) (S : Nat → Int → Int) (m row1 cue : Int) : Prop := rxIFW_0 S0 ws S m row1 cue ∧ True
def rxmLFW_0 (S0 : Nat → Int → Int) (ws : List Int) (S : Nat → Int → Int) (m row1 cue : Int) : Nat := rxmFW_0 S0 ws S m row1 cue
def rxzLFW_0 : rx_Z := ([(0, 0), (0, 0), (0, 0), (0, 0), (0, 0), (0, 0), (0, 0), (0, 0), (1, 3), (0, 3), (0, 5)], [], [], 0, 0, 0, [(0, .inr (3, (0, 480))), (1, .inr (0, (8, 0))), (2, .inr (0, (9, 0))), (3, .inr (0, (10, 0)))], [])
def rxILFW_1 (S0 : Nat → Int → Int) (ws : List Int) (S : Nat → Int → Int) (m row1 cue n k : Int) : Prop := rxIFW_1 S0 ws S m row1 cue n k ∧ ws = [480, m, row1, cue] ∧ (∀ j : Int, 0 ≤ j → j < k → S 514 j = -1 ∧ S 515 j = -1) ∧ S 480 69 = 0 ∧ S 480 70 = 0
def rxmLFW_1 (S0 : Nat → Int → Int) (ws : List Int) (S : Nat → Int → Int) (m row1 cue n k : Int) : Nat := rxmFW_1 S0 ws S m row1 cue n k
def rxzLFW_1 : rx_Z := ([(0, 0), (0, 0), (0, 0), (0, 0), (0, 0), (0, 0), (0, 0), (0, 0), (1, 3), (0, 3), (0, 5), (0, 12), (0, 18)], [], [], 0, 0, 22, [(0, .inr (3, (0, 480))), (1, .inr (0, (8, 0))), (2, .inr (0, (9, 0))), (3, .inr (0, (10, 0))), (4, .inr (0, (11, 0))), (5, .inr (0, (12, 0)))], [])
def rxILFW_2 (S0 : Nat → Int → Int) (ws : List Int) (S : Nat → Int → Int) (m row1 cue n k : Int) : Prop := rxIFW_2 S0 ws S m row1 cue n k ∧ ws = [480, m, row1, cue] ∧ (∀ j : Int, 0 ≤ j → j < 18 → S 514 j = -1 ∧ S 515 j = -1) ∧ S 480 69 = 0 ∧ S 480 70 = 0 ∧ (∀ j : Int, 0 ≤ j → j < k → S 516 j = 0 ∧ S 517 j = 0)
def rxmLFW_2 (S0 : Nat → Int → Int) (ws : List Int) (S : Nat → Int → Int) (m row1 cue n k : Int) : Nat := rxmFW_2 S0 ws S m row1 cue n k
def rxzLFW_2 : rx_Z := ([(0, 0), (0, 0), (0, 0), (0, 0), (0, 0), (0, 0), (0, 0), (0, 0), (1, 3), (0, 3), (0, 5), (0, 12), (0, 12)], [], [], 0, 0, 54, [(0, .inr (3, (0, 480))), (1, .inr (0, (8, 0))), (2, .inr (0, (9, 0))), (3, .inr (0, (10, 0))), (4, .inr (0, (11, 0))), (5, .inr (0, (12, 0)))], [])
def rxILFW_3 (S0 : Nat → Int → Int) (ws : List Int) (S : Nat → Int → Int) (m row1 cue n a b c : Int) : Prop := rxIFW_3 S0 ws S m row1 cue n a b c ∧ ws = [480, m, row1, cue] ∧ (a = m ∧ b = row1 ∧ c = cue) ∧ S0 482 6 = 0 ∧ (∀ j : Int, 0 ≤ j → j < 18 → S 514 j = -1 ∧ S 515 j = -1) ∧ S 480 69 = 0 ∧ S 480 70 = 0
def rxmLFW_3 (S0 : Nat → Int → Int) (ws : List Int) (S : Nat → Int → Int) (m row1 cue n a b c : Int) : Nat := rxmFW_3 S0 ws S m row1 cue n a b c
def rxzLFW_3 : rx_Z := ([(0, 0), (0, 0), (0, 0), (0, 0), (0, 0), (0, 0), (0, 0), (0, 0), (1, 3), (0, 3), (0, 5), (0, 0), (1, 3), (0, 3), (0, 5)], [], [], 0, 0, 106, [(0, .inr (3, (0, 480))), (1, .inr (0, (8, 0))), (2, .inr (0, (9, 0))), (3, .inr (0, (10, 0))), (4, .inr (0, (11, 0)))], [.inr (0, (14, 0)), .inr (0, (13, 0)), .inr (0, (12, 0)), .inr (3, (0, 480))])
def rxILFW_4 (S0 : Nat → Int → Int) (ws : List Int) (S : Nat → Int → Int) (m row1 cue n a b c : Int) : Prop := rxIFW_4 S0 ws S m row1 cue n a b c ∧ ws = [480, m, row1, cue] ∧ (∀ z : Int, ldZ (S0 482 6) (ldt (S0 482 6) (ldrR S0)) row1 z → ldFin (ldRD S0 m cue z) S)
def rxmLFW_4 (S0 : Nat → Int → Int) (ws : List Int) (S : Nat → Int → Int) (m row1 cue n a b c : Int) : Nat := rxmFW_4 S0 ws S m row1 cue n a b c
def rxzLFW_4 : rx_Z := ([(0, 0), (0, 0), (0, 0), (0, 0), (0, 0), (0, 0), (0, 0), (0, 0), (1, 3), (0, 3), (0, 5), (0, 0), (1, 3), (0, 3), (0, 5)], [], [], 0, 0, 109, [(0, .inr (3, (0, 480))), (1, .inr (0, (8, 0))), (2, .inr (0, (9, 0))), (3, .inr (0, (10, 0))), (4, .inr (0, (11, 0)))], [])
def rxILFW_5 (S0 : Nat → Int → Int) (ws : List Int) (S : Nat → Int → Int) (m row1 cue n k : Int) : Prop := rxIFW_5 S0 ws S m row1 cue n k ∧ ws = [480, m, row1, cue] ∧ (∀ z : Int, ldZ (S0 482 6) (ldt (S0 482 6) (ldrR S0)) row1 z → (k < 0 → ldFin (ldRD S0 m cue z) S) ∧ (0 ≤ k → ldHd (ldRD S0 m cue z) S k))
def rxmLFW_5 (S0 : Nat → Int → Int) (ws : List Int) (S : Nat → Int → Int) (m row1 cue n k : Int) : Nat := rxmFW_5 S0 ws S m row1 cue n k
def rxzLFW_5 : rx_Z := ([(0, 0), (0, 0), (0, 0), (0, 0), (0, 0), (0, 0), (0, 0), (0, 0), (1, 3), (0, 3), (0, 5), (1, 12), ((-1), 11)], [], [], 0, 0, 120, [(0, .inr (3, (0, 480))), (1, .inr (0, (8, 0))), (2, .inr (0, (9, 0))), (3, .inr (0, (10, 0))), (4, .inr (0, (11, 0))), (5, .inr (0, (12, 0)))], [])
def rxILFW_6 (S0 : Nat → Int → Int) (ws : List Int) (S : Nat → Int → Int) (m row1 cue n k a : Int) : Prop := rxIFW_6 S0 ws S m row1 cue n k a ∧ ws = [480, m, row1, cue] ∧ (∀ z : Int, ldZ (S0 482 6) (ldt (S0 482 6) (ldrR S0)) row1 z → ldHd (ldRD S0 m cue z) S k)
def rxmLFW_6 (S0 : Nat → Int → Int) (ws : List Int) (S : Nat → Int → Int) (m row1 cue n k a : Int) : Nat := rxmFW_6 S0 ws S m row1 cue n k a
def rxzLFW_6 : rx_Z := ([(0, 0), (0, 0), (0, 0), (0, 0), (0, 0), (0, 0), (0, 0), (0, 0), (1, 3), (0, 3), (0, 5), (1, 12), (0, 11), (0, 11)], [], [], 0, 0, 128, [(0, .inr (3, (0, 480))), (1, .inr (0, (8, 0))), (2, .inr (0, (9, 0))), (3, .inr (0, (10, 0))), (4, .inr (0, (11, 0))), (5, .inr (0, (12, 0)))], [.inr (0, (13, 0)), .inr (3, (0, 480))])
def rxILFW_7 (S0 : Nat → Int → Int) (ws : List Int) (S : Nat → Int → Int) (m row1 cue n k a : Int) : Prop := rxIFW_7 S0 ws S m row1 cue n k a ∧ ws = [480, m, row1, cue] ∧ (∀ z : Int, ldZ (S0 482 6) (ldt (S0 482 6) (ldrR S0)) row1 z → ldH7 (ldRD S0 m cue z) S k)
def rxmLFW_7 (S0 : Nat → Int → Int) (ws : List Int) (S : Nat → Int → Int) (m row1 cue n k a : Int) : Nat := rxmFW_7 S0 ws S m row1 cue n k a
def rxzLFW_7 : rx_Z := ([(0, 0), (0, 0), (0, 0), (0, 0), (0, 0), (0, 0), (0, 0), (0, 0), (1, 3), (0, 3), (0, 5), (1, 12), (0, 11), (0, 11)], [], [], 0, 0, 131, [(0, .inr (3, (0, 480))), (1, .inr (0, (8, 0))), (2, .inr (0, (9, 0))), (3, .inr (0, (10, 0))), (4, .inr (0, (11, 0))), (5, .inr (0, (12, 0)))], [])
def rxILFW_8 (S0 : Nat → Int → Int) (ws : List Int) (S : Nat → Int → Int) (m row1 cue n k a b : Int) : Prop := rxIFW_8 S0 ws S m row1 cue n k a b ∧ ws = [480, m, row1, cue] ∧ (∀ z : Int, ldZ (S0 482 6) (ldt (S0 482 6) (ldrR S0)) row1 z → ldH7 (ldRD S0 m cue z) S k)
def rxmLFW_8 (S0 : Nat → Int → Int) (ws : List Int) (S : Nat → Int → Int) (m row1 cue n k a b : Int) : Nat := rxmFW_8 S0 ws S m row1 cue n k a b
def rxzLFW_8 : rx_Z := ([(0, 0), (0, 0), (0, 0), (0, 0), (0, 0), (0, 0), (0, 0), (0, 0), (1, 3), (0, 3), (0, 5), (1, 12), (0, 11), (0, 11), (1, 3)], [], [], 0, 0, 135, [(0, .inr (3, (0, 480))), (1, .inr (0, (8, 0))), (2, .inr (0, (9, 0))), (3, .inr (0, (10, 0))), (4, .inr (0, (11, 0))), (5, .inr (0, (12, 0)))], [.inr (0, (14, 0)), .inr (0, (13, 0)), .inr (3, (0, 480))])
def rxILFW_9 (S0 : Nat → Int → Int) (ws : List Int) (S : Nat → Int → Int) (m row1 cue n k a b go : Int) : Prop := rxIFW_9 S0 ws S m row1 cue n k a b go ∧ ws = [480, m, row1, cue] ∧ (∀ z : Int, ldZ (S0 482 6) (ldt (S0 482 6) (ldrR S0)) row1 z → (go = 1 → ldH9 (ldRD S0 m cue z) S k) ∧ (go = 0 → (k = 0 → ldFin (ldRD S0 m cue z) S) ∧ (0 < k → ldHd (ldRD S0 m cue z) S (k - 1))))
def rxmLFW_9 (S0 : Nat → Int → Int) (ws : List Int) (S : Nat → Int → Int) (m row1 cue n k a b go : Int) : Nat := rxmFW_9 S0 ws S m row1 cue n k a b go
def rxzLFW_9 : rx_Z := ([(0, 0), (0, 0), (0, 0), (0, 0), (0, 0), (0, 0), (0, 0), (0, 0), (1, 3), (0, 3), (0, 5), (1, 12), (0, 11), (0, 11), (1, 3), (0, 1)], [], [], 0, 0, 138, [(0, .inr (3, (0, 480))), (1, .inr (0, (8, 0))), (2, .inr (0, (9, 0))), (3, .inr (0, (10, 0))), (4, .inr (0, (11, 0))), (5, .inr (0, (12, 0)))], [.inr (0, (15, 0))])
def rxILFW_10 (S0 : Nat → Int → Int) (ws : List Int) (S : Nat → Int → Int) (m row1 cue n k a b c : Int) : Prop := rxIFW_10 S0 ws S m row1 cue n k a b c ∧ ws = [480, m, row1, cue] ∧ (a = m ∧ b = row1 ∧ c = cue) ∧ k + 1 = S0 482 6 ∧ (∀ z : Int, ldZ (S0 482 6) (ldt (S0 482 6) (ldrR S0)) row1 z → ldH9 (ldRD S0 m cue z) S k)
def rxmLFW_10 (S0 : Nat → Int → Int) (ws : List Int) (S : Nat → Int → Int) (m row1 cue n k a b c : Int) : Nat := rxmFW_10 S0 ws S m row1 cue n k a b c
def rxzLFW_10 : rx_Z := ([(0, 0), (0, 0), (0, 0), (0, 0), (0, 0), (0, 0), (0, 0), (0, 0), (1, 3), (0, 3), (0, 5), (1, 12), (0, 11), (1, 3), (0, 3), (0, 5)], [], [], 0, 0, 154, [(0, .inr (3, (0, 480))), (1, .inr (0, (8, 0))), (2, .inr (0, (9, 0))), (3, .inr (0, (10, 0))), (4, .inr (0, (11, 0))), (5, .inr (0, (12, 0)))], [.inr (0, (15, 0)), .inr (0, (14, 0)), .inr (0, (13, 0)), .inr (3, (0, 480))])
def rxILFW_11 (S0 : Nat → Int → Int) (ws : List Int) (S : Nat → Int → Int) (m row1 cue n k a b c : Int) : Prop := rxIFW_11 S0 ws S m row1 cue n k a b c ∧ ws = [480, m, row1, cue] ∧ (∀ z : Int, ldZ (S0 482 6) (ldt (S0 482 6) (ldrR S0)) row1 z → ldHd (ldRD S0 m cue z) S k)
def rxmLFW_11 (S0 : Nat → Int → Int) (ws : List Int) (S : Nat → Int → Int) (m row1 cue n k a b c : Int) : Nat := rxmFW_11 S0 ws S m row1 cue n k a b c
def rxzLFW_11 : rx_Z := ([(0, 0), (0, 0), (0, 0), (0, 0), (0, 0), (0, 0), (0, 0), (0, 0), (1, 3), (0, 3), (0, 5), (1, 12), (0, 11), (1, 3), (0, 3), (0, 5)], [], [], 0, 0, 157, [(0, .inr (3, (0, 480))), (1, .inr (0, (8, 0))), (2, .inr (0, (9, 0))), (3, .inr (0, (10, 0))), (4, .inr (0, (11, 0))), (5, .inr (0, (12, 0)))], [])
def rxILFW_12 (S0 : Nat → Int → Int) (ws : List Int) (S : Nat → Int → Int) (m row1 cue n k : Int) : Prop := rxIFW_12 S0 ws S m row1 cue n k ∧ ws = [480, m, row1, cue] ∧ (∀ z : Int, ldZ (S0 482 6) (ldt (S0 482 6) (ldrR S0)) row1 z → ldH9 (ldRD S0 m cue z) S k)
def rxmLFW_12 (S0 : Nat → Int → Int) (ws : List Int) (S : Nat → Int → Int) (m row1 cue n k : Int) : Nat := rxmFW_12 S0 ws S m row1 cue n k
def rxzLFW_12 : rx_Z := ([(0, 0), (0, 0), (0, 0), (0, 0), (0, 0), (0, 0), (0, 0), (0, 0), (1, 3), (0, 3), (0, 5), (1, 12), (0, 10)], [], [], 0, 0, 160, [(0, .inr (3, (0, 480))), (1, .inr (0, (8, 0))), (2, .inr (0, (9, 0))), (3, .inr (0, (10, 0))), (4, .inr (0, (11, 0))), (5, .inr (0, (12, 0)))], [])
def rxoLFW_0_0 : bx_HO := (([(0, 0), (0, 0), (0, 0), (0, 0), (0, 0), (0, 0), (0, 0), (0, 0), (1, 3), (0, 3), (0, 5), (0, 12)], [], [(((0, 0), 1851192626986356811473809805451311897278520526794510926604140547000000), .inr (0, (0, 0))), (((0, 480), 70), .inr (0, (0, 0))), (((0, 0), 1851192626986356811273103098664536289004699062340675673050316803000000), .inr (0, (0, 0))), (((0, 480), 69), .inr (0, (0, 0))), (((0, 0), 1851192626986356798628580571097672967753946801749054699160600576000000), .inr (0, (11, 0))), (((0, 482), 6), .inr (0, (11, 0))), (((0, 480), 3), .inr (3, (0, 482)))], 0, 0, 22, [(5, .inr (0, (0, 0))), (4, .inr (0, (11, 0))), (0, .inr (3, (0, 480))), (1, .inr (0, (8, 0))), (2, .inr (0, (9, 0))), (3, .inr (0, (10, 0)))], []), [], [], [(0, 0), (0, 0), (0, 0), (0, 0), (0, 0), (0, 0), (0, 0), (0, 0), (8, 0), (9, 0), (10, 0), (11, 0), (0, 0)], 1)
def rxoLFW_1_0 : bx_HO := (([(0, 0), (0, 0), (0, 0), (0, 0), (0, 0), (0, 0), (0, 0), (0, 0), (1, 3), (0, 3), (0, 5), (0, 12), (0, 17)], [], [(((0, 0), 1851192626986356797424377080872646779465072059483645808823959555000000), .inr (0, (0, (-1)))), (((0, 480), 64), .inr (3, (0, 515))), (((0, 0), 1851192626986356797424377080872646779465072059483645808823369731000000), .inr (0, (0, (-1)))), (((0, 480), 63), .inr (3, (0, 514)))], 0, 0, 22, [(5, .inr (0, (12, 1))), (0, .inr (3, (0, 480))), (1, .inr (0, (8, 0))), (2, .inr (0, (9, 0))), (3, .inr (0, (10, 0))), (4, .inr (0, (11, 0)))], []), [], [], [(0, 0), (0, 0), (0, 0), (0, 0), (0, 0), (0, 0), (0, 0), (0, 0), (8, 0), (9, 0), (10, 0), (11, 0), (12, 1)], 1)
def rxoLFW_1_1 : bx_HO := (([(0, 0), (0, 0), (0, 0), (0, 0), (0, 0), (0, 0), (0, 0), (0, 0), (1, 3), (0, 3), (0, 5), (0, 12), (18, 18)], [], [], 0, 0, 54, [(5, .inr (0, (0, 0))), (0, .inr (3, (0, 480))), (1, .inr (0, (8, 0))), (2, .inr (0, (9, 0))), (3, .inr (0, (10, 0))), (4, .inr (0, (11, 0)))], []), [], [], [(0, 0), (0, 0), (0, 0), (0, 0), (0, 0), (0, 0), (0, 0), (0, 0), (8, 0), (9, 0), (10, 0), (11, 0), (0, 0)], 2)
def rxoLFW_2_0 : bx_HO := (([(0, 0), (0, 0), (0, 0), (0, 0), (0, 0), (0, 0), (0, 0), (0, 0), (1, 3), (0, 3), (0, 5), (0, 12), (0, 11)], [], [(((0, 0), 1851192626986356797424377080872646779465072059483645808825139203000000), .inr (0, (0, 0))), (((0, 480), 66), .inr (3, (0, 517))), (((0, 0), 1851192626986356797424377080872646779465072059483645808824549379000000), .inr (0, (0, 0))), (((0, 480), 65), .inr (3, (0, 516)))], 0, 0, 54, [(5, .inr (0, (12, 1))), (0, .inr (3, (0, 480))), (1, .inr (0, (8, 0))), (2, .inr (0, (9, 0))), (3, .inr (0, (10, 0))), (4, .inr (0, (11, 0)))], []), [], [], [(0, 0), (0, 0), (0, 0), (0, 0), (0, 0), (0, 0), (0, 0), (0, 0), (8, 0), (9, 0), (10, 0), (11, 0), (12, 1)], 2)
def rxoLFW_2_1 : bx_HO := (([(0, 0), (0, 0), (0, 0), (0, 0), (0, 0), (0, 0), (0, 0), (0, 0), (1, 3), (0, 3), (0, 5), (0, 0), (12, 12)], [], [(((0, 0), 1851192626986356797424340330377019318111018015026043177858891779000000), .inr (0, (0, 1))), (((0, 518), 0), .inr (0, (0, 1))), (((0, 480), 67), .inr (3, (0, 518))), (((0, 0), 1851192626986356797424340330377019318111018015026043177855942659000000), .inr (0, (0, 0))), (((0, 513), 0), .inr (0, (0, 0))), (((0, 480), 62), .inr (3, (0, 513)))], 0, 0, 106, [(0, .inr (3, (0, 480))), (1, .inr (0, (8, 0))), (2, .inr (0, (9, 0))), (3, .inr (0, (10, 0))), (4, .inr (0, (11, 0))), (5, .inr (0, (12, 0)))], [.inr (0, (10, 0)), .inr (0, (9, 0)), .inr (0, (8, 0)), .inr (3, (0, 480))]), [], [], [(0, 0), (0, 0), (0, 0), (0, 0), (0, 0), (0, 0), (0, 0), (0, 0), (8, 0), (9, 0), (10, 0), (11, 0), (8, 0), (9, 0), (10, 0)], 3)
def rxoLFW_2_2 : bx_HO := (([(0, 0), (0, 0), (0, 0), (0, 0), (0, 0), (0, 0), (0, 0), (0, 0), (1, 3), (0, 3), (0, 5), (1, 12), (12, 12)], [(3, (11, 0), (0, 0))], [(((0, 0), 1851192626986356797424340330377019318111018015026043177859481603000000), .inr (0, (0, (-1)))), (((0, 519), 0), .inr (0, (0, (-1)))), (((0, 480), 68), .inr (3, (0, 519))), (((0, 0), 1851192626986356797424340330377019318111018015026043177858891779000000), .inr (0, (0, 1))), (((0, 518), 0), .inr (0, (0, 1))), (((0, 480), 67), .inr (3, (0, 518))), (((0, 0), 1851192626986356797424340330377019318111018015026043177855942659000000), .inr (0, (0, 0))), (((0, 513), 0), .inr (0, (0, 0))), (((0, 480), 62), .inr (3, (0, 513)))], 0, 0, 120, [(5, .inr (0, (0, 0))), (0, .inr (3, (0, 480))), (1, .inr (0, (8, 0))), (2, .inr (0, (9, 0))), (3, .inr (0, (10, 0))), (4, .inr (0, (11, 0)))], []), [], [], [(0, 0), (0, 0), (0, 0), (0, 0), (0, 0), (0, 0), (0, 0), (0, 0), (8, 0), (9, 0), (10, 0), (11, 0), (0, 0)], 5)
def rxeLFW_4_0 : rx_End × List (Nat × Int × Int) := (([(0, 0), (0, 0), (0, 0), (0, 0), (0, 0), (0, 0), (0, 0), (0, 0), (1, 3), (0, 3), (0, 5), (0, 0), (1, 3), (0, 3), (0, 5)], [], [], none), [])
def rxoLFW_5_0 : bx_HO := (([(0, 0), (0, 0), (0, 0), (0, 0), (0, 0), (0, 0), (0, 0), (0, 0), (1, 3), (0, 3), (0, 5), (1, 12), (0, 11)], [], [], 0, 0, 128, [(0, .inr (3, (0, 480))), (1, .inr (0, (8, 0))), (2, .inr (0, (9, 0))), (3, .inr (0, (10, 0))), (4, .inr (0, (11, 0))), (5, .inr (0, (12, 0)))], [.inr (0, (12, 0)), .inr (3, (0, 480))]), [], [], [(0, 0), (0, 0), (0, 0), (0, 0), (0, 0), (0, 0), (0, 0), (0, 0), (8, 0), (9, 0), (10, 0), (11, 0), (12, 0), (12, 0)], 6)
def rxeLFW_5_0 : rx_End × List (Nat × Int × Int) := (([(0, 0), (0, 0), (0, 0), (0, 0), (0, 0), (0, 0), (0, 0), (0, 0), (1, 3), (0, 3), (0, 5), (1, 12), ((-1), (-1))], [], [], none), [])
def rxoLFW_7_0 : bx_HO := (([(0, 0), (0, 0), (0, 0), (0, 0), (0, 0), (0, 0), (0, 0), (0, 0), (1, 3), (0, 3), (0, 5), (1, 12), (0, 11), (0, 11)], [], [], 0, 0, 135, [(0, .inr (3, (0, 480))), (1, .inr (0, (8, 0))), (2, .inr (0, (9, 0))), (3, .inr (0, (10, 0))), (4, .inr (0, (11, 0))), (5, .inr (0, (12, 0)))], [.inr (0, (8, 0)), .inr (0, (12, 0)), .inr (3, (0, 480))]), [], [], [(0, 0), (0, 0), (0, 0), (0, 0), (0, 0), (0, 0), (0, 0), (0, 0), (8, 0), (9, 0), (10, 0), (11, 0), (12, 0), (12, 0), (8, 0)], 8)
def rxoLFW_9_0 : bx_HO := (([(0, 0), (0, 0), (0, 0), (0, 0), (0, 0), (0, 0), (0, 0), (0, 0), (1, 3), (0, 3), (0, 5), (1, 12), (0, 11), (0, 11), (1, 3), (1, 1)], [(2, (12, 0), (11, (-1))), (3, (15, 0), (0, 0))], [], 0, 0, 154, [(0, .inr (3, (0, 480))), (1, .inr (0, (8, 0))), (2, .inr (0, (9, 0))), (3, .inr (0, (10, 0))), (4, .inr (0, (11, 0))), (5, .inr (0, (12, 0)))], [.inr (0, (10, 0)), .inr (0, (9, 0)), .inr (0, (8, 0)), .inr (3, (0, 480))]), [], [], [(0, 0), (0, 0), (0, 0), (0, 0), (0, 0), (0, 0), (0, 0), (0, 0), (8, 0), (9, 0), (10, 0), (11, 0), (12, 0), (8, 0), (9, 0), (10, 0)], 10)
def rxoLFW_9_1 : bx_HO := (([(0, 0), (0, 0), (0, 0), (0, 0), (0, 0), (0, 0), (0, 0), (0, 0), (1, 3), (0, 3), (0, 5), (1, 12), (0, 11), (0, 11), (1, 3), (1, 1)], [(3, (12, 0), (11, (-1))), (3, (15, 0), (0, 0))], [], 0, 0, 160, [(0, .inr (3, (0, 480))), (1, .inr (0, (8, 0))), (2, .inr (0, (9, 0))), (3, .inr (0, (10, 0))), (4, .inr (0, (11, 0))), (5, .inr (0, (12, 0)))], []), [(12, 0, 10)], [], [(0, 0), (0, 0), (0, 0), (0, 0), (0, 0), (0, 0), (0, 0), (0, 0), (8, 0), (9, 0), (10, 0), (11, 0), (12, 0)], 12)
def rxoLFW_9_2 : bx_HO := (([(0, 0), (0, 0), (0, 0), (0, 0), (0, 0), (0, 0), (0, 0), (0, 0), (1, 3), (0, 3), (0, 5), (1, 12), (0, 11), (0, 11), (1, 3), (0, 0)], [], [], 0, 0, 120, [(5, .inr (0, (12, (-1)))), (0, .inr (3, (0, 480))), (1, .inr (0, (8, 0))), (2, .inr (0, (9, 0))), (3, .inr (0, (10, 0))), (4, .inr (0, (11, 0)))], []), [], [], [(0, 0), (0, 0), (0, 0), (0, 0), (0, 0), (0, 0), (0, 0), (0, 0), (8, 0), (9, 0), (10, 0), (11, 0), (12, (-1))], 5)
def rxoLFW_11_0 : bx_HO := (([(0, 0), (0, 0), (0, 0), (0, 0), (0, 0), (0, 0), (0, 0), (0, 0), (1, 3), (0, 3), (0, 5), (1, 12), (0, 11), (1, 3), (0, 3), (0, 5)], [], [], 0, 0, 120, [(0, .inr (3, (0, 480))), (1, .inr (0, (8, 0))), (2, .inr (0, (9, 0))), (3, .inr (0, (10, 0))), (4, .inr (0, (11, 0))), (5, .inr (0, (12, 0)))], []), [], [], [(0, 0), (0, 0), (0, 0), (0, 0), (0, 0), (0, 0), (0, 0), (0, 0), (8, 0), (9, 0), (10, 0), (11, 0), (12, 0)], 5)
def rxoLFW_12_0 : bx_HO := (([(0, 0), (0, 0), (0, 0), (0, 0), (0, 0), (0, 0), (0, 0), (0, 0), (1, 3), (0, 3), (0, 5), (1, 12), (0, 10)], [], [(((0, 0), 1851192626986356797625083787659422387738893523937481062380142595000000), .inr (0, (0, (-1)))), (((0, 480), 68), .inr (3, (0, 519)))], 0, 0, 120, [(5, .inr (0, (12, 1))), (0, .inr (3, (0, 480))), (1, .inr (0, (8, 0))), (2, .inr (0, (9, 0))), (3, .inr (0, (10, 0))), (4, .inr (0, (11, 0)))], []), [], [], [(0, 0), (0, 0), (0, 0), (0, 0), (0, 0), (0, 0), (0, 0), (0, 0), (8, 0), (9, 0), (10, 0), (11, 0), (12, 1)], 5)
def rxYLFW : List bx_HE := [(rxzLFW_0, [rxoLFW_0_0], []), (rxzLFW_1, [rxoLFW_1_0, rxoLFW_1_1], []), (rxzLFW_2, [rxoLFW_2_0, rxoLFW_2_1, rxoLFW_2_2], []), (rxzLFW_3, [], []), (rxzLFW_4, [], [rxeLFW_4_0]), (rxzLFW_5, [rxoLFW_5_0], [rxeLFW_5_0]), (rxzLFW_6, [], []), (rxzLFW_7, [rxoLFW_7_0], []), (rxzLFW_8, [], []), (rxzLFW_9, [rxoLFW_9_0, rxoLFW_9_1, rxoLFW_9_2], []), (rxzLFW_10, [], []), (rxzLFW_11, [rxoLFW_11_0], []), (rxzLFW_12, [rxoLFW_12_0], [])]
def rxULFW (q : bx_HE) : Bool := Nat.beq (rx_zpc q.1) 106 || Nat.beq (rx_zpc q.1) 128 || Nat.beq (rx_zpc q.1) 135 || Nat.beq (rx_zpc q.1) 154
def rxYBLFW : bx_B := (rxV, rxNP, rxDmf, bx_mdH rxCLFW.2.2.1)
set_option maxRecDepth 100000 in
theorem rxYcLFW : bx_chkH rxYBLFW rxM323 rxCLFW rxYLFW (rxULFW, fun cut z => rx_ex2 (rxCT rxYBLFW rxCnE) cut 30000 rxCLFW.2.2.2.1 323 z) = true := by decide +kernel
def rxILFW (S0 : Nat → Int → Int) (ws : List Int) (i : Nat) : bx_SP := fun S r => match i with | 0 => rxILFW_0 S0 ws S (r 8) (r 9) (r 10) | 1 => rxILFW_1 S0 ws S (r 8) (r 9) (r 10) (r 11) (r 12) | 2 => rxILFW_2 S0 ws S (r 8) (r 9) (r 10) (r 11) (r 12) | 3 => rxILFW_3 S0 ws S (r 8) (r 9) (r 10) (r 11) (r 12) (r 13) (r 14) | 4 => rxILFW_4 S0 ws S (r 8) (r 9) (r 10) (r 11) (r 12) (r 13) (r 14) | 5 => rxILFW_5 S0 ws S (r 8) (r 9) (r 10) (r 11) (r 12) | 6 => rxILFW_6 S0 ws S (r 8) (r 9) (r 10) (r 11) (r 12) (r 13) | 7 => rxILFW_7 S0 ws S (r 8) (r 9) (r 10) (r 11) (r 12) (r 13) | 8 => rxILFW_8 S0 ws S (r 8) (r 9) (r 10) (r 11) (r 12) (r 13) (r 14) | 9 => rxILFW_9 S0 ws S (r 8) (r 9) (r 10) (r 11) (r 12) (r 13) (r 14) (r 15) | 10 => rxILFW_10 S0 ws S (r 8) (r 9) (r 10) (r 11) (r 12) (r 13) (r 14) (r 15) | 11 => rxILFW_11 S0 ws S (r 8) (r 9) (r 10) (r 11) (r 12) (r 13) (r 14) (r 15) | 12 => rxILFW_12 S0 ws S (r 8) (r 9) (r 10) (r 11) (r 12) | _ => False
def rxmLFW (S0 : Nat → Int → Int) (ws : List Int) (i : Nat) (S : Nat → Int → Int) (r : Nat → Int) : Nat := match i with | 0 => rxmLFW_0 S0 ws S (r 8) (r 9) (r 10) | 1 => rxmLFW_1 S0 ws S (r 8) (r 9) (r 10) (r 11) (r 12) | 2 => rxmLFW_2 S0 ws S (r 8) (r 9) (r 10) (r 11) (r 12) | 3 => rxmLFW_3 S0 ws S (r 8) (r 9) (r 10) (r 11) (r 12) (r 13) (r 14) | 4 => rxmLFW_4 S0 ws S (r 8) (r 9) (r 10) (r 11) (r 12) (r 13) (r 14) | 5 => rxmLFW_5 S0 ws S (r 8) (r 9) (r 10) (r 11) (r 12) | 6 => rxmLFW_6 S0 ws S (r 8) (r 9) (r 10) (r 11) (r 12) (r 13) | 7 => rxmLFW_7 S0 ws S (r 8) (r 9) (r 10) (r 11) (r 12) (r 13) | 8 => rxmLFW_8 S0 ws S (r 8) (r 9) (r 10) (r 11) (r 12) (r 13) (r 14) | 9 => rxmLFW_9 S0 ws S (r 8) (r 9) (r 10) (r 11) (r 12) (r 13) (r 14) (r 15) | 10 => rxmLFW_10 S0 ws S (r 8) (r 9) (r 10) (r 11) (r 12) (r 13) (r 14) (r 15) | 11 => rxmLFW_11 S0 ws S (r 8) (r 9) (r 10) (r 11) (r 12) (r 13) (r 14) (r 15) | 12 => rxmLFW_12 S0 ws S (r 8) (r 9) (r 10) (r 11) (r 12) | _ => 0
def rxPLFW (S0 : Nat → Int → Int) (ws : List Int) : Prop := rxPFW S0 ws
def rxPSLFW (S0 : Nat → Int → Int) (ws : List Int) (S : Nat → Int → Int) (w : Option Int) : Prop := w = none ∧ rxPSFW S0 ws S w ∧ (∃ m row1 cue : Int, ws = [480, m, row1, cue] ∧ (∀ z : Int, ldZ (S0 482 6) (ldt (S0 482 6) (ldrR S0)) row1 z → ldFin (ldRD S0 m cue z) S))
theorem rxkLFW_3 {S0 : Nat → Int → Int} {ws : List Int} {S : Nat → Int → Int} {m row1 cue n a b c : Int} (hP : rxPLFW S0 ws) (hin : bx_same rxL (bx_mdl rxCLFW.2.2.1) S0 S) (I0 : bx_Inv rxL S) (hinv : rxILFW_3 S0 ws S m row1 cue n a b c) (l8 : 1 ≤ m) (u8 : m ≤ 3) (l9 : 0 ≤ row1) (u9 : row1 ≤ 3) (l10 : 0 ≤ cue) (u10 : cue ≤ 5) (l11 : 0 ≤ n) (u11 : n ≤ 0) (l12 : 1 ≤ a) (u12 : a ≤ 3) (l13 : 0 ≤ b) (u13 : b ≤ 3) (l14 : 0 ≤ c) (u14 : c ≤ 5) : rxPLME S [480, a, b, c] ∧ ∀ (S' : Nat → Int → Int), rxPSLME S [480, a, b, c] S' none → bx_Inv rxL S' → bx_same rxL (bx_mdl rxCLME.2.2.1) S S' → rxILFW_4 S0 ws S' m row1 cue n a b c ∧ rxmLFW_4 S0 ws S' m row1 cue n a b c < rxmLFW_3 S0 ws S m row1 cue n a b c := by
  obtain ⟨hI, hx⟩ := hinv
  have g_ := rxkFW_3 hP hin I0 hI l8 u8 l9 u9 l10 u10 l11 u11 l12 u12 l13 u13 l14 u14
  exact ⟨⟨a, b, c, rfl, g_.1, by have := hx.2.2.2.2; omega⟩, fun S' hq I1 hsm => ⟨⟨(g_.2 S' ⟨rfl, trivial⟩ I1 hsm).1, (by
      obtain ⟨hw, ⟨ha, hb, hc⟩, h0, h1, h2, h3⟩ := hx
      have ho : rxOrd S := hI
      have fx := ldFx_of hin (by decide +kernel) (by decide +kernel) I0 ho
      refine ⟨hw, fun z hz => ?_⟩
      obtain ⟨-, m9, r9, c9, z9, hw9, hM, hU, hB⟩ := hq
      simp only [List.cons.injEq, and_true, true_and] at hw9
      obtain ⟨e1, e2, e3⟩ := hw9
      rw [← e2, hb] at hM
      have ez := ldZ_u fx hz hM
      rw [← e1, ← e3, ha, hc, ez, h3, ← ldLf (m := m) I0 ho fx hz (by omega) (by omega), h0] at hB
      refine ldZe (S := S) h0 h1 (by rw [hU.1, h2]; rfl) ?_
      rw [hB]
      show ((0 ||| _ : Nat) : Int) = _
      rw [Nat.zero_or])⟩, (g_.2 S' ⟨rfl, trivial⟩ I1 hsm).2⟩⟩
theorem rxsLFW_3 {X : (Nat → Int → Int) → Prop} {S0 : Nat → Int → Int} {ws : List Int} (hP : rxPLFW S0 ws) : rx_obK X S0 rxCLFW.2.2.1 rxCLME.2.2.1 (rxILFW S0 ws) (rxmLFW S0 ws) 3 4 rxzLFW_3 rxzLFW_4 [.inr (3, (0, 480)), .inr (0, (12, 0)), .inr (0, (13, 0)), .inr (0, (14, 0))] none rxPLME rxPSLME := by
  intro S r hinv hXS I0 hin hs_ hf_
  have b_ := bx_bds_sat hs_
  have f_ := bx_fcl_ok hs_.1 hf_
  obtain ⟨⟨l8, u8⟩, ⟨l9, u9⟩, ⟨l10, u10⟩, ⟨l11, u11⟩, ⟨l12, u12⟩, ⟨l13, u13⟩, ⟨l14, u14⟩, -⟩ := b_
  have g := rxkLFW_3 hP hin I0 hinv l8 u8 l9 u9 l10 u10 l11 u11 l12 u12 l13 u13 l14 u14
  have ea : List.map (bx_num r) [.inr (3, (0, 480)), .inr (0, (12, 0)), .inr (0, (13, 0)), .inr (0, (14, 0))] = [480, (r 12), (r 13), (r 14)] := by
    simp only [List.map_cons, List.map_nil, bx_xv_ok hs_.1]
    rfl
  rw [ea]
  refine ⟨g.1, fun S' w r' hPS hX' I1 hsm hr hw hs' => ?_⟩
  have hw : w = none := hPS.1
  subst hw
  have g2 := g.2 S' hPS I1 hsm
  show rxILFW_4 S0 ws S' (r' 8) (r' 9) (r' 10) (r' 11) (r' 12) (r' 13) (r' 14) ∧ rxmLFW_4 S0 ws S' (r' 8) (r' 9) (r' 10) (r' 11) (r' 12) (r' 13) (r' 14) < _
  rw [hr 8 (by decide), hr 9 (by decide), hr 10 (by decide), hr 11 (by decide), hr 12 (by decide), hr 13 (by decide), hr 14 (by decide)]
  exact g2
theorem rxkLFW_6 {S0 : Nat → Int → Int} {ws : List Int} {S : Nat → Int → Int} {m row1 cue n k a : Int} (hP : rxPLFW S0 ws) (hin : bx_same rxL (bx_mdl rxCLFW.2.2.1) S0 S) (I0 : bx_Inv rxL S) (hinv : rxILFW_6 S0 ws S m row1 cue n k a) (l8 : 1 ≤ m) (u8 : m ≤ 3) (l9 : 0 ≤ row1) (u9 : row1 ≤ 3) (l10 : 0 ≤ cue) (u10 : cue ≤ 5) (l11 : 1 ≤ n) (u11 : n ≤ 12) (l12 : 0 ≤ k) (u12 : k ≤ 11) (l13 : 0 ≤ a) (u13 : a ≤ 11) : rxPLTB S [480, a] ∧ ∀ (S' : Nat → Int → Int), rxPSLTB S [480, a] S' none → bx_Inv rxL S' → bx_same rxL (bx_mdl rxCLTB.2.2.1) S S' → rxILFW_7 S0 ws S' m row1 cue n k a ∧ rxmLFW_7 S0 ws S' m row1 cue n k a < rxmLFW_6 S0 ws S m row1 cue n k a := by
  obtain ⟨hI, hx⟩ := hinv
  have g_ := rxkFW_6 hP hin I0 hI l8 u8 l9 u9 l10 u10 l11 u11 l12 u12 l13 u13
  exact ⟨g_.1, fun S' hq I1 hsm => ⟨⟨(g_.2 S' ⟨rfl, trivial⟩ I1 hsm).1, (by
      obtain ⟨ha, hk, hn, ho, -⟩ := hI
      have fx := ldFx_of hin (by decide +kernel) (by decide +kernel) I0 ho
      have h6 := rxN6 I0
      refine ⟨hx.1, fun z hz => ?_⟩
      obtain ⟨-, k9, r9, hw9, hr9, c1, c2, c3, c4, c5, c6⟩ := hq
      have e9 : a = k9 := Option.some.inj (congrArg (fun l => l[1]?) hw9)
      rw [← e9, ha] at hr9 c1 c2 c3 c4 c5 c6
      have f6 := fx.1
      have fk := ldFx_k (m := m) (cue := cue) (z := z) fx (k := k) (by omega) (by omega)
      have rb := ldRb I0 ho (k := k) (by omega) (by omega)
      exact ldTB (by omega) (by omega) (by rw [fk.1]; exact hr9) (by omega) (by omega) c1 c2 c3 c4 c5 c6 (fun j x y => rx_sameR hsm (tc := 0) (n := 13) (g := 94) rfl (by omega) (by decide +kernel) (by decide +kernel) x (by omega)) (fun j x y => rx_sameR hsm (tc := 0) (n := 13) (g := 99) rfl (by omega) (by decide +kernel) (by decide +kernel) x (by omega)) (fun j x y => rx_sameR hsm (tc := 0) (n := 12) (g := 100) rfl (by omega) (by decide +kernel) (by decide +kernel) x (by omega)) (hsm 480 69 (by decide) (by decide) (by decide +kernel)) (hsm 480 70 (by decide) (by decide) (by decide +kernel)) (hx.2 z hz))⟩, (g_.2 S' ⟨rfl, trivial⟩ I1 hsm).2⟩⟩
theorem rxsLFW_6 {X : (Nat → Int → Int) → Prop} {S0 : Nat → Int → Int} {ws : List Int} (hP : rxPLFW S0 ws) : rx_obK X S0 rxCLFW.2.2.1 rxCLTB.2.2.1 (rxILFW S0 ws) (rxmLFW S0 ws) 6 7 rxzLFW_6 rxzLFW_7 [.inr (3, (0, 480)), .inr (0, (13, 0))] none rxPLTB rxPSLTB := by
  intro S r hinv hXS I0 hin hs_ hf_
  have b_ := bx_bds_sat hs_
  have f_ := bx_fcl_ok hs_.1 hf_
  obtain ⟨⟨l8, u8⟩, ⟨l9, u9⟩, ⟨l10, u10⟩, ⟨l11, u11⟩, ⟨l12, u12⟩, ⟨l13, u13⟩, -⟩ := b_
  have g := rxkLFW_6 hP hin I0 hinv l8 u8 l9 u9 l10 u10 l11 u11 l12 u12 l13 u13
  have ea : List.map (bx_num r) [.inr (3, (0, 480)), .inr (0, (13, 0))] = [480, (r 13)] := by
    simp only [List.map_cons, List.map_nil, bx_xv_ok hs_.1]
    rfl
  rw [ea]
  refine ⟨g.1, fun S' w r' hPS hX' I1 hsm hr hw hs' => ?_⟩
  have hw : w = none := hPS.1
  subst hw
  have g2 := g.2 S' hPS I1 hsm
  show rxILFW_7 S0 ws S' (r' 8) (r' 9) (r' 10) (r' 11) (r' 12) (r' 13) ∧ rxmLFW_7 S0 ws S' (r' 8) (r' 9) (r' 10) (r' 11) (r' 12) (r' 13) < _
  rw [hr 8 (by decide), hr 9 (by decide), hr 10 (by decide), hr 11 (by decide), hr 12 (by decide), hr 13 (by decide)]
  exact g2
theorem rxkLFW_8 {S0 : Nat → Int → Int} {ws : List Int} {S : Nat → Int → Int} {m row1 cue n k a b : Int} (hP : rxPLFW S0 ws) (hin : bx_same rxL (bx_mdl rxCLFW.2.2.1) S0 S) (I0 : bx_Inv rxL S) (hinv : rxILFW_8 S0 ws S m row1 cue n k a b) (l8 : 1 ≤ m) (u8 : m ≤ 3) (l9 : 0 ≤ row1) (u9 : row1 ≤ 3) (l10 : 0 ≤ cue) (u10 : cue ≤ 5) (l11 : 1 ≤ n) (u11 : n ≤ 12) (l12 : 0 ≤ k) (u12 : k ≤ 11) (l13 : 0 ≤ a) (u13 : a ≤ 11) (l14 : 1 ≤ b) (u14 : b ≤ 3) : rxPLGO S [480, a, b] ∧ ∀ (S' : Nat → Int → Int) (go : Int), 0 ≤ go → go ≤ 1 → rxPSLGO S [480, a, b] S' (some go) → bx_Inv rxL S' → bx_same rxL (bx_mdl rxCLGO.2.2.1) S S' → rxILFW_9 S0 ws S' m row1 cue n k a b go ∧ rxmLFW_9 S0 ws S' m row1 cue n k a b go < rxmLFW_8 S0 ws S m row1 cue n k a b := by
  obtain ⟨hI, hx⟩ := hinv
  have g_ := rxkFW_8 hP hin I0 hI l8 u8 l9 u9 l10 u10 l11 u11 l12 u12 l13 u13 l14 u14
  exact ⟨g_.1, fun S' go l_ u_ hq I1 hsm => ⟨⟨(g_.2 S' go l_ u_ (ldGO_old u14 g_.1 hq) I1 hsm).1, (by
      obtain ⟨ha, hb, hk, hn, ho, -, h5, h8⟩ := hI
      have fx := ldFx_of hin (by decide +kernel) (by decide +kernel) I0 ho
      have h6 := rxN6 I0
      have f6 := fx.1
      have h5 := h5 (by omega)
      have h8 := h8 k (by omega) (by omega)
      refine ⟨hx.1, fun z hz => ?_⟩
      obtain ⟨k9, m9, r9, hw9, hr9, hrb, hq⟩ := hq
      simp only [List.cons.injEq, and_true, true_and] at hw9
      obtain ⟨e1, e2⟩ := hw9
      rw [← e1, ha] at hr9 hq
      rw [← e2, hb] at hq
      have fk := ldFx_k (m := m) (cue := cue) (z := z) fx (k := k) (by omega) (by omega)
      have h7 := hx.2 z hz
      rcases hq with ⟨g1, g2, g3, g4⟩ | ⟨g1, g2, g3, fr, g4, g5, T, g6, g7, g8⟩
      · have g1 := Option.some.inj g1
        exact ⟨fun c => by omega, fun _ => ldGOn (m := m) (by omega) (by omega) rfl fk.2.2 fk.2.1 (by rw [fk.1]; exact hr9) (by omega) (by omega) g2 g3 g4 h7⟩
      · have g1 := Option.some.inj g1
        exact ⟨fun _ => ldGOy (m := m) (by omega) (by omega) rfl (by omega) h8 h5.1 fk.2.2 fk.2.1 (by rw [fk.1]; exact hr9) (by omega) (by omega) g2 g3 g4 g5 g6 g7 g8 h7, fun c => by omega⟩)⟩, (g_.2 S' go l_ u_ (ldGO_old u14 g_.1 hq) I1 hsm).2⟩⟩
theorem rxsLFW_8 {X : (Nat → Int → Int) → Prop} {S0 : Nat → Int → Int} {ws : List Int} (hP : rxPLFW S0 ws) : rx_obK X S0 rxCLFW.2.2.1 rxCLGO.2.2.1 (rxILFW S0 ws) (rxmLFW S0 ws) 8 9 rxzLFW_8 rxzLFW_9 [.inr (3, (0, 480)), .inr (0, (13, 0)), .inr (0, (14, 0))] (some 15) rxPLGO rxPSLGO := by
  intro S r hinv hXS I0 hin hs_ hf_
  have b_ := bx_bds_sat hs_
  have f_ := bx_fcl_ok hs_.1 hf_
  obtain ⟨⟨l8, u8⟩, ⟨l9, u9⟩, ⟨l10, u10⟩, ⟨l11, u11⟩, ⟨l12, u12⟩, ⟨l13, u13⟩, ⟨l14, u14⟩, -⟩ := b_
  have g := rxkLFW_8 hP hin I0 hinv l8 u8 l9 u9 l10 u10 l11 u11 l12 u12 l13 u13 l14 u14
  have ea : List.map (bx_num r) [.inr (3, (0, 480)), .inr (0, (13, 0)), .inr (0, (14, 0))] = [480, (r 13), (r 14)] := by
    simp only [List.map_cons, List.map_nil, bx_xv_ok hs_.1]
    rfl
  rw [ea]
  refine ⟨g.1, fun S' w r' hPS hX' I1 hsm hr hw hs' => ?_⟩
  have hw := hw _ rfl
  subst hw
  have b' := hs'.2.2 15 _ _ rfl
  have g2 := g.2 S' (r' 15) b'.1 b'.2 hPS I1 hsm
  show rxILFW_9 S0 ws S' (r' 8) (r' 9) (r' 10) (r' 11) (r' 12) (r' 13) (r' 14) (r' 15) ∧ rxmLFW_9 S0 ws S' (r' 8) (r' 9) (r' 10) (r' 11) (r' 12) (r' 13) (r' 14) (r' 15) < _
  rw [hr 8 (by decide), hr 9 (by decide), hr 10 (by decide), hr 11 (by decide), hr 12 (by decide), hr 13 (by decide), hr 14 (by decide)]
  exact g2
theorem rxkLFW_10 {S0 : Nat → Int → Int} {ws : List Int} {S : Nat → Int → Int} {m row1 cue n k a b c : Int} (hP : rxPLFW S0 ws) (hin : bx_same rxL (bx_mdl rxCLFW.2.2.1) S0 S) (I0 : bx_Inv rxL S) (hinv : rxILFW_10 S0 ws S m row1 cue n k a b c) (l8 : 1 ≤ m) (u8 : m ≤ 3) (l9 : 0 ≤ row1) (u9 : row1 ≤ 3) (l10 : 0 ≤ cue) (u10 : cue ≤ 5) (l11 : 1 ≤ n) (u11 : n ≤ 12) (l12 : 0 ≤ k) (u12 : k ≤ 11) (l13 : 1 ≤ a) (u13 : a ≤ 3) (l14 : 0 ≤ b) (u14 : b ≤ 3) (l15 : 0 ≤ c) (u15 : c ≤ 5) : rxPLME S [480, a, b, c] ∧ ∀ (S' : Nat → Int → Int), rxPSLME S [480, a, b, c] S' none → bx_Inv rxL S' → bx_same rxL (bx_mdl rxCLME.2.2.1) S S' → rxILFW_11 S0 ws S' m row1 cue n k a b c ∧ rxmLFW_11 S0 ws S' m row1 cue n k a b c < rxmLFW_10 S0 ws S m row1 cue n k a b c := by
  obtain ⟨hI, hx⟩ := hinv
  have g_ := rxkFW_10 hP hin I0 hI l8 u8 l9 u9 l10 u10 l11 u11 l12 u12 l13 u13 l14 u14 l15 u15
  exact ⟨(by
      have h6 := rxN6 I0
      obtain ⟨h0, hk, hn, ho, -⟩ := hI
      obtain ⟨hw, -, hkn, hx⟩ := hx
      have fx := ldFx_of hin (by decide +kernel) (by decide +kernel) I0 ho
      obtain ⟨z, hz⟩ := ldZ_ex (R := ldt (S0 482 6) (ldrR S0)) (row := row1) (S0 482 6).toNat
      rw [show (((S0 482 6).toNat : Nat) : Int) = S0 482 6 by have := fx.1; omega] at hz
      obtain ⟨_, _, _, _, _, _, _, hc⟩ := hx z hz
      exact ⟨a, b, c, rfl, ho, ldCo_b hc fx.2.1⟩), fun S' hq I1 hsm => ⟨⟨(g_.2 S' ⟨rfl, trivial⟩ I1 hsm).1, (by
      obtain ⟨h0, hk, hn, ho, -⟩ := hI
      obtain ⟨hw, ⟨ha, hb, hc⟩, hkn, hx⟩ := hx
      have fx := ldFx_of hin (by decide +kernel) (by decide +kernel) I0 ho
      refine ⟨hw, fun z hz => ?_⟩
      obtain ⟨-, m9, r9, c9, z9, hw9, hM, hU, hB⟩ := hq
      simp only [List.cons.injEq, and_true, true_and] at hw9
      obtain ⟨e1, e2, e3⟩ := hw9
      rw [← e2, hb] at hM
      have ez := ldZ_u fx hz hM
      rw [← e1, ← e3, ha, hc, ez, ← ldLf (m := m) I0 ho fx hz (by omega) (by omega), ← hkn] at hB
      exact ldMEs (by omega) hkn (ldU69_R hU) hU.1 hB (hx z hz))⟩, (g_.2 S' ⟨rfl, trivial⟩ I1 hsm).2⟩⟩
theorem rxsLFW_10 {X : (Nat → Int → Int) → Prop} {S0 : Nat → Int → Int} {ws : List Int} (hP : rxPLFW S0 ws) : rx_obK X S0 rxCLFW.2.2.1 rxCLME.2.2.1 (rxILFW S0 ws) (rxmLFW S0 ws) 10 11 rxzLFW_10 rxzLFW_11 [.inr (3, (0, 480)), .inr (0, (13, 0)), .inr (0, (14, 0)), .inr (0, (15, 0))] none rxPLME rxPSLME := by
  intro S r hinv hXS I0 hin hs_ hf_
  have b_ := bx_bds_sat hs_
  have f_ := bx_fcl_ok hs_.1 hf_
  obtain ⟨⟨l8, u8⟩, ⟨l9, u9⟩, ⟨l10, u10⟩, ⟨l11, u11⟩, ⟨l12, u12⟩, ⟨l13, u13⟩, ⟨l14, u14⟩, ⟨l15, u15⟩, -⟩ := b_
  have g := rxkLFW_10 hP hin I0 hinv l8 u8 l9 u9 l10 u10 l11 u11 l12 u12 l13 u13 l14 u14 l15 u15
  have ea : List.map (bx_num r) [.inr (3, (0, 480)), .inr (0, (13, 0)), .inr (0, (14, 0)), .inr (0, (15, 0))] = [480, (r 13), (r 14), (r 15)] := by
    simp only [List.map_cons, List.map_nil, bx_xv_ok hs_.1]
    rfl
  rw [ea]
  refine ⟨g.1, fun S' w r' hPS hX' I1 hsm hr hw hs' => ?_⟩
  have hw : w = none := hPS.1
  subst hw
  have g2 := g.2 S' hPS I1 hsm
  show rxILFW_11 S0 ws S' (r' 8) (r' 9) (r' 10) (r' 11) (r' 12) (r' 13) (r' 14) (r' 15) ∧ rxmLFW_11 S0 ws S' (r' 8) (r' 9) (r' 10) (r' 11) (r' 12) (r' 13) (r' 14) (r' 15) < _
  rw [hr 8 (by decide), hr 9 (by decide), hr 10 (by decide), hr 11 (by decide), hr 12 (by decide), hr 13 (by decide), hr 14 (by decide), hr 15 (by decide)]
  exact g2
theorem rxcLFW_0_0 {S0 : Nat → Int → Int} {ws : List Int} {S : Nat → Int → Int} {m row1 cue x11 : Int} (hP : rxPLFW S0 ws) (hin : bx_same rxL (bx_mdl rxCLFW.2.2.1) S0 S) (I0 : bx_Inv rxL S) (hinv : rxILFW_0 S0 ws S m row1 cue) (l8 : 1 ≤ m) (u8 : m ≤ 3) (l9 : 0 ≤ row1) (u9 : row1 ≤ 3) (l10 : 0 ≤ cue) (u10 : cue ≤ 5) (l11 : 0 ≤ x11) (u11 : x11 ≤ 12) (e2 : S 482 6 = x11) : (True) ∧ (True) ∧ rxILFW_1 S0 ws (bx_up (bx_up S 480 69 0) 480 70 0) m row1 cue x11 0 ∧ rxmLFW_1 S0 ws (bx_up (bx_up S 480 69 0) 480 70 0) m row1 cue x11 0 < rxmLFW_0 S0 ws S m row1 cue := by
  obtain ⟨hI, hx⟩ := hinv
  obtain ⟨a_, b_, c_, d_⟩ := rxcFW_0_0 hP hin I0 hI l8 u8 l9 u9 l10 u10 l11 u11 e2
  exact ⟨a_, b_, ⟨c_, (by
      obtain ⟨rfl, hw⟩ := hI
      exact ⟨hw, fun j a b => by omega, (bx_up_ne (by omega)).trans bx_up_at, bx_up_at⟩)⟩, d_⟩
theorem rxgLFW_0_0 {X : (Nat → Int → Int) → Prop} {S0 : Nat → Int → Int} {ws : List Int} (hP : rxPLFW S0 ws) : bx_obC rxL X S0 rxCLFW.2.2.1 (rxILFW S0 ws) (rxmLFW S0 ws) 0 rxzLFW_0 rxoLFW_0_0 := by
  intro S S' r r' hinv hX hin hsm_ hseg
  obtain ⟨I0, I1, h0_, hr_, b_, f_, d_⟩ := bx_cl (evs := [(1, (0, 480), (0, 70), .inr (0, (0, 0))), (1, (0, 480), (0, 69), .inr (0, (0, 0))), (0, (0, 482), (0, 6), .inr (0, (11, 0)))]) (fvs := []) hseg (by decide +kernel) (by decide +kernel)
  have hinv : rxILFW_0 S0 ws S (r 8) (r 9) (r 10) := hinv
  rw [← hr_ 8 (by decide), ← hr_ 9 (by decide), ← hr_ 10 (by decide)] at hinv
  obtain ⟨⟨l8, u8⟩, ⟨l9, u9⟩, ⟨l10, u10⟩, ⟨l11, u11⟩, -⟩ := b_
  obtain ⟨T0, ⟨T1, ⟨e2, w_⟩, w1⟩, w0⟩ := d_
  subst w0
  subst w1
  subst w_
  have g := rxcLFW_0_0 hP hin I0 hinv l8 u8 l9 u9 l10 u10 l11 u11 e2
  refine ⟨bx_narP_ok (l := []) g.1, bx_nfP_ok h0_ (fvs := []) (by decide +kernel) g.2.1, ?_, ?_⟩
  · show rxILFW_1 S0 ws (bx_up (bx_up T1 480 (69) (0)) 480 (70) (0)) (bx_val [(0, 0), (0, 0), (0, 0), (0, 0), (0, 0), (0, 0), (0, 0), (0, 0), (8, 0), (9, 0), (10, 0), (11, 0), (0, 0)] r' 8) (bx_val [(0, 0), (0, 0), (0, 0), (0, 0), (0, 0), (0, 0), (0, 0), (0, 0), (8, 0), (9, 0), (10, 0), (11, 0), (0, 0)] r' 9) (bx_val [(0, 0), (0, 0), (0, 0), (0, 0), (0, 0), (0, 0), (0, 0), (0, 0), (8, 0), (9, 0), (10, 0), (11, 0), (0, 0)] r' 10) (bx_val [(0, 0), (0, 0), (0, 0), (0, 0), (0, 0), (0, 0), (0, 0), (0, 0), (8, 0), (9, 0), (10, 0), (11, 0), (0, 0)] r' 11) (bx_val [(0, 0), (0, 0), (0, 0), (0, 0), (0, 0), (0, 0), (0, 0), (0, 0), (8, 0), (9, 0), (10, 0), (11, 0), (0, 0)] r' 12)
    rw [bx_val_x (n := 8) (e := (8, 0)) h0_ rfl, bx_val_x (n := 9) (e := (9, 0)) h0_ rfl, bx_val_x (n := 10) (e := (10, 0)) h0_ rfl, bx_val_x (n := 11) (e := (11, 0)) h0_ rfl, bx_val_x (n := 12) (e := (0, 0)) h0_ rfl]
    exact g.2.2.1
  · show rxmLFW_1 S0 ws (bx_up (bx_up T1 480 (69) (0)) 480 (70) (0)) (bx_val [(0, 0), (0, 0), (0, 0), (0, 0), (0, 0), (0, 0), (0, 0), (0, 0), (8, 0), (9, 0), (10, 0), (11, 0), (0, 0)] r' 8) (bx_val [(0, 0), (0, 0), (0, 0), (0, 0), (0, 0), (0, 0), (0, 0), (0, 0), (8, 0), (9, 0), (10, 0), (11, 0), (0, 0)] r' 9) (bx_val [(0, 0), (0, 0), (0, 0), (0, 0), (0, 0), (0, 0), (0, 0), (0, 0), (8, 0), (9, 0), (10, 0), (11, 0), (0, 0)] r' 10) (bx_val [(0, 0), (0, 0), (0, 0), (0, 0), (0, 0), (0, 0), (0, 0), (0, 0), (8, 0), (9, 0), (10, 0), (11, 0), (0, 0)] r' 11) (bx_val [(0, 0), (0, 0), (0, 0), (0, 0), (0, 0), (0, 0), (0, 0), (0, 0), (8, 0), (9, 0), (10, 0), (11, 0), (0, 0)] r' 12) < rxmLFW_0 S0 ws T1 (r 8) (r 9) (r 10)
    rw [bx_val_x (n := 8) (e := (8, 0)) h0_ rfl, bx_val_x (n := 9) (e := (9, 0)) h0_ rfl, bx_val_x (n := 10) (e := (10, 0)) h0_ rfl, bx_val_x (n := 11) (e := (11, 0)) h0_ rfl, bx_val_x (n := 12) (e := (0, 0)) h0_ rfl, ← hr_ 8 (by decide), ← hr_ 9 (by decide), ← hr_ 10 (by decide)]
    exact g.2.2.2
theorem rxcLFW_1_0 {S0 : Nat → Int → Int} {ws : List Int} {S : Nat → Int → Int} {m row1 cue n k : Int} (hP : rxPLFW S0 ws) (hin : bx_same rxL (bx_mdl rxCLFW.2.2.1) S0 S) (I0 : bx_Inv rxL S) (hinv : rxILFW_1 S0 ws S m row1 cue n k) (l8 : 1 ≤ m) (u8 : m ≤ 3) (l9 : 0 ≤ row1) (u9 : row1 ≤ 3) (l10 : 0 ≤ cue) (u10 : cue ≤ 5) (l11 : 0 ≤ n) (u11 : n ≤ 12) (l12 : 0 ≤ k) (u12 : k ≤ 17) : (True) ∧ (True) ∧ rxILFW_1 S0 ws (bx_up (bx_up S 514 k ((-1))) 515 k ((-1))) m row1 cue n (k + 1) ∧ rxmLFW_1 S0 ws (bx_up (bx_up S 514 k ((-1))) 515 k ((-1))) m row1 cue n (k + 1) < rxmLFW_1 S0 ws S m row1 cue n k := by
  obtain ⟨hI, hx⟩ := hinv
  obtain ⟨a_, b_, c_, d_⟩ := rxcFW_1_0 hP hin I0 hI l8 u8 l9 u9 l10 u10 l11 u11 l12 u12
  exact ⟨a_, b_, ⟨c_, (by
      obtain ⟨hw, h1, h2, h3⟩ := hx
      refine ⟨hw, fun j a b => ?_, ((bx_up_ne (by omega)).trans (bx_up_ne (by omega))).trans (h2), ((bx_up_ne (by omega)).trans (bx_up_ne (by omega))).trans (h3)⟩
      by_cases hj : j = k
      · rw [hj]
        exact ⟨(bx_up_ne (by omega)).trans bx_up_at, bx_up_at⟩
      · exact ⟨((bx_up_ne (by omega)).trans (bx_up_ne (by omega))).trans ((h1 j a (by omega)).1), ((bx_up_ne (by omega)).trans (bx_up_ne (by omega))).trans ((h1 j a (by omega)).2)⟩)⟩, d_⟩
theorem rxgLFW_1_0 {X : (Nat → Int → Int) → Prop} {S0 : Nat → Int → Int} {ws : List Int} (hP : rxPLFW S0 ws) : bx_obC rxL X S0 rxCLFW.2.2.1 (rxILFW S0 ws) (rxmLFW S0 ws) 1 rxzLFW_1 rxoLFW_1_0 := by
  intro S S' r r' hinv hX hin hsm_ hseg
  obtain ⟨I0, I1, h0_, hr_, b_, f_, d_⟩ := bx_cl (evs := [(1, (0, 515), (12, 0), .inr (0, (0, (-1)))), (1, (0, 514), (12, 0), .inr (0, (0, (-1))))]) (fvs := []) hseg (by decide +kernel) (by decide +kernel)
  have hinv : rxILFW_1 S0 ws S (r 8) (r 9) (r 10) (r 11) (r 12) := hinv
  rw [← hr_ 8 (by decide), ← hr_ 9 (by decide), ← hr_ 10 (by decide), ← hr_ 11 (by decide), ← hr_ 12 (by decide)] at hinv
  obtain ⟨⟨l8, u8⟩, ⟨l9, u9⟩, ⟨l10, u10⟩, ⟨l11, u11⟩, ⟨l12, u12⟩, -⟩ := b_
  obtain ⟨T0, ⟨T1, w_, w1⟩, w0⟩ := d_
  subst w0
  subst w1
  subst w_
  have g := rxcLFW_1_0 hP hin I0 hinv l8 u8 l9 u9 l10 u10 l11 u11 l12 u12
  refine ⟨bx_narP_ok (l := []) g.1, bx_nfP_ok h0_ (fvs := []) (by decide +kernel) g.2.1, ?_, ?_⟩
  · show rxILFW_1 S0 ws (bx_up (bx_up T1 514 (r' 12) ((-1))) 515 (r' 12) ((-1))) (bx_val [(0, 0), (0, 0), (0, 0), (0, 0), (0, 0), (0, 0), (0, 0), (0, 0), (8, 0), (9, 0), (10, 0), (11, 0), (12, 1)] r' 8) (bx_val [(0, 0), (0, 0), (0, 0), (0, 0), (0, 0), (0, 0), (0, 0), (0, 0), (8, 0), (9, 0), (10, 0), (11, 0), (12, 1)] r' 9) (bx_val [(0, 0), (0, 0), (0, 0), (0, 0), (0, 0), (0, 0), (0, 0), (0, 0), (8, 0), (9, 0), (10, 0), (11, 0), (12, 1)] r' 10) (bx_val [(0, 0), (0, 0), (0, 0), (0, 0), (0, 0), (0, 0), (0, 0), (0, 0), (8, 0), (9, 0), (10, 0), (11, 0), (12, 1)] r' 11) (bx_val [(0, 0), (0, 0), (0, 0), (0, 0), (0, 0), (0, 0), (0, 0), (0, 0), (8, 0), (9, 0), (10, 0), (11, 0), (12, 1)] r' 12)
    rw [bx_val_x (n := 8) (e := (8, 0)) h0_ rfl, bx_val_x (n := 9) (e := (9, 0)) h0_ rfl, bx_val_x (n := 10) (e := (10, 0)) h0_ rfl, bx_val_x (n := 11) (e := (11, 0)) h0_ rfl, bx_val_x (n := 12) (e := (12, 1)) h0_ rfl]
    exact g.2.2.1
  · show rxmLFW_1 S0 ws (bx_up (bx_up T1 514 (r' 12) ((-1))) 515 (r' 12) ((-1))) (bx_val [(0, 0), (0, 0), (0, 0), (0, 0), (0, 0), (0, 0), (0, 0), (0, 0), (8, 0), (9, 0), (10, 0), (11, 0), (12, 1)] r' 8) (bx_val [(0, 0), (0, 0), (0, 0), (0, 0), (0, 0), (0, 0), (0, 0), (0, 0), (8, 0), (9, 0), (10, 0), (11, 0), (12, 1)] r' 9) (bx_val [(0, 0), (0, 0), (0, 0), (0, 0), (0, 0), (0, 0), (0, 0), (0, 0), (8, 0), (9, 0), (10, 0), (11, 0), (12, 1)] r' 10) (bx_val [(0, 0), (0, 0), (0, 0), (0, 0), (0, 0), (0, 0), (0, 0), (0, 0), (8, 0), (9, 0), (10, 0), (11, 0), (12, 1)] r' 11) (bx_val [(0, 0), (0, 0), (0, 0), (0, 0), (0, 0), (0, 0), (0, 0), (0, 0), (8, 0), (9, 0), (10, 0), (11, 0), (12, 1)] r' 12) < rxmLFW_1 S0 ws T1 (r 8) (r 9) (r 10) (r 11) (r 12)
    rw [bx_val_x (n := 8) (e := (8, 0)) h0_ rfl, bx_val_x (n := 9) (e := (9, 0)) h0_ rfl, bx_val_x (n := 10) (e := (10, 0)) h0_ rfl, bx_val_x (n := 11) (e := (11, 0)) h0_ rfl, bx_val_x (n := 12) (e := (12, 1)) h0_ rfl, ← hr_ 8 (by decide), ← hr_ 9 (by decide), ← hr_ 10 (by decide), ← hr_ 11 (by decide), ← hr_ 12 (by decide)]
    exact g.2.2.2
theorem rxcLFW_1_1 {S0 : Nat → Int → Int} {ws : List Int} {S : Nat → Int → Int} {m row1 cue n k : Int} (hP : rxPLFW S0 ws) (hin : bx_same rxL (bx_mdl rxCLFW.2.2.1) S0 S) (I0 : bx_Inv rxL S) (hinv : rxILFW_1 S0 ws S m row1 cue n k) (l8 : 1 ≤ m) (u8 : m ≤ 3) (l9 : 0 ≤ row1) (u9 : row1 ≤ 3) (l10 : 0 ≤ cue) (u10 : cue ≤ 5) (l11 : 0 ≤ n) (u11 : n ≤ 12) (l12 : 18 ≤ k) (u12 : k ≤ 18) : (True) ∧ (True) ∧ rxILFW_2 S0 ws S m row1 cue n 0 ∧ rxmLFW_2 S0 ws S m row1 cue n 0 < rxmLFW_1 S0 ws S m row1 cue n k := by
  obtain ⟨hI, hx⟩ := hinv
  obtain ⟨a_, b_, c_, d_⟩ := rxcFW_1_1 hP hin I0 hI l8 u8 l9 u9 l10 u10 l11 u11 l12 u12
  exact ⟨a_, b_, ⟨c_, (by
      obtain ⟨hw, h1, h2, h3⟩ := hx
      exact ⟨hw, fun j a b => h1 j a (by omega), h2, h3, fun j a b => by omega⟩)⟩, d_⟩
theorem rxgLFW_1_1 {X : (Nat → Int → Int) → Prop} {S0 : Nat → Int → Int} {ws : List Int} (hP : rxPLFW S0 ws) : bx_obC rxL X S0 rxCLFW.2.2.1 (rxILFW S0 ws) (rxmLFW S0 ws) 1 rxzLFW_1 rxoLFW_1_1 := by
  intro S S' r r' hinv hX hin hsm_ hseg
  obtain ⟨I0, I1, h0_, hr_, b_, f_, d_⟩ := bx_cl (evs := []) (fvs := []) hseg (by decide +kernel) (by decide +kernel)
  have hinv : rxILFW_1 S0 ws S (r 8) (r 9) (r 10) (r 11) (r 12) := hinv
  rw [← hr_ 8 (by decide), ← hr_ 9 (by decide), ← hr_ 10 (by decide), ← hr_ 11 (by decide), ← hr_ 12 (by decide)] at hinv
  obtain ⟨⟨l8, u8⟩, ⟨l9, u9⟩, ⟨l10, u10⟩, ⟨l11, u11⟩, ⟨l12, u12⟩, -⟩ := b_
  have w_ := d_
  subst w_
  have g := rxcLFW_1_1 hP hin I0 hinv l8 u8 l9 u9 l10 u10 l11 u11 l12 u12
  refine ⟨bx_narP_ok (l := []) g.1, bx_nfP_ok h0_ (fvs := []) (by decide +kernel) g.2.1, ?_, ?_⟩
  · show rxILFW_2 S0 ws S' (bx_val [(0, 0), (0, 0), (0, 0), (0, 0), (0, 0), (0, 0), (0, 0), (0, 0), (8, 0), (9, 0), (10, 0), (11, 0), (0, 0)] r' 8) (bx_val [(0, 0), (0, 0), (0, 0), (0, 0), (0, 0), (0, 0), (0, 0), (0, 0), (8, 0), (9, 0), (10, 0), (11, 0), (0, 0)] r' 9) (bx_val [(0, 0), (0, 0), (0, 0), (0, 0), (0, 0), (0, 0), (0, 0), (0, 0), (8, 0), (9, 0), (10, 0), (11, 0), (0, 0)] r' 10) (bx_val [(0, 0), (0, 0), (0, 0), (0, 0), (0, 0), (0, 0), (0, 0), (0, 0), (8, 0), (9, 0), (10, 0), (11, 0), (0, 0)] r' 11) (bx_val [(0, 0), (0, 0), (0, 0), (0, 0), (0, 0), (0, 0), (0, 0), (0, 0), (8, 0), (9, 0), (10, 0), (11, 0), (0, 0)] r' 12)
    rw [bx_val_x (n := 8) (e := (8, 0)) h0_ rfl, bx_val_x (n := 9) (e := (9, 0)) h0_ rfl, bx_val_x (n := 10) (e := (10, 0)) h0_ rfl, bx_val_x (n := 11) (e := (11, 0)) h0_ rfl, bx_val_x (n := 12) (e := (0, 0)) h0_ rfl]
    exact g.2.2.1
  · show rxmLFW_2 S0 ws S' (bx_val [(0, 0), (0, 0), (0, 0), (0, 0), (0, 0), (0, 0), (0, 0), (0, 0), (8, 0), (9, 0), (10, 0), (11, 0), (0, 0)] r' 8) (bx_val [(0, 0), (0, 0), (0, 0), (0, 0), (0, 0), (0, 0), (0, 0), (0, 0), (8, 0), (9, 0), (10, 0), (11, 0), (0, 0)] r' 9) (bx_val [(0, 0), (0, 0), (0, 0), (0, 0), (0, 0), (0, 0), (0, 0), (0, 0), (8, 0), (9, 0), (10, 0), (11, 0), (0, 0)] r' 10) (bx_val [(0, 0), (0, 0), (0, 0), (0, 0), (0, 0), (0, 0), (0, 0), (0, 0), (8, 0), (9, 0), (10, 0), (11, 0), (0, 0)] r' 11) (bx_val [(0, 0), (0, 0), (0, 0), (0, 0), (0, 0), (0, 0), (0, 0), (0, 0), (8, 0), (9, 0), (10, 0), (11, 0), (0, 0)] r' 12) < rxmLFW_1 S0 ws S' (r 8) (r 9) (r 10) (r 11) (r 12)
    rw [bx_val_x (n := 8) (e := (8, 0)) h0_ rfl, bx_val_x (n := 9) (e := (9, 0)) h0_ rfl, bx_val_x (n := 10) (e := (10, 0)) h0_ rfl, bx_val_x (n := 11) (e := (11, 0)) h0_ rfl, bx_val_x (n := 12) (e := (0, 0)) h0_ rfl, ← hr_ 8 (by decide), ← hr_ 9 (by decide), ← hr_ 10 (by decide), ← hr_ 11 (by decide), ← hr_ 12 (by decide)]
    exact g.2.2.2
theorem rxcLFW_2_0 {S0 : Nat → Int → Int} {ws : List Int} {S : Nat → Int → Int} {m row1 cue n k : Int} (hP : rxPLFW S0 ws) (hin : bx_same rxL (bx_mdl rxCLFW.2.2.1) S0 S) (I0 : bx_Inv rxL S) (hinv : rxILFW_2 S0 ws S m row1 cue n k) (l8 : 1 ≤ m) (u8 : m ≤ 3) (l9 : 0 ≤ row1) (u9 : row1 ≤ 3) (l10 : 0 ≤ cue) (u10 : cue ≤ 5) (l11 : 0 ≤ n) (u11 : n ≤ 12) (l12 : 0 ≤ k) (u12 : k ≤ 11) : (True) ∧ (True) ∧ rxILFW_2 S0 ws (bx_up (bx_up S 516 k 0) 517 k 0) m row1 cue n (k + 1) ∧ rxmLFW_2 S0 ws (bx_up (bx_up S 516 k 0) 517 k 0) m row1 cue n (k + 1) < rxmLFW_2 S0 ws S m row1 cue n k := by
  obtain ⟨hI, hx⟩ := hinv
  obtain ⟨a_, b_, c_, d_⟩ := rxcFW_2_0 hP hin I0 hI l8 u8 l9 u9 l10 u10 l11 u11 l12 u12
  exact ⟨a_, b_, ⟨c_, (by
      obtain ⟨hw, h1, h2, h3, h4⟩ := hx
      refine ⟨hw, fun j a b => ⟨((bx_up_ne (by omega)).trans (bx_up_ne (by omega))).trans ((h1 j a b).1), ((bx_up_ne (by omega)).trans (bx_up_ne (by omega))).trans ((h1 j a b).2)⟩, ((bx_up_ne (by omega)).trans (bx_up_ne (by omega))).trans (h2), ((bx_up_ne (by omega)).trans (bx_up_ne (by omega))).trans (h3), fun j a b => ?_⟩
      by_cases hj : j = k
      · rw [hj]
        exact ⟨(bx_up_ne (by omega)).trans bx_up_at, bx_up_at⟩
      · exact ⟨((bx_up_ne (by omega)).trans (bx_up_ne (by omega))).trans ((h4 j a (by omega)).1), ((bx_up_ne (by omega)).trans (bx_up_ne (by omega))).trans ((h4 j a (by omega)).2)⟩)⟩, d_⟩
theorem rxgLFW_2_0 {X : (Nat → Int → Int) → Prop} {S0 : Nat → Int → Int} {ws : List Int} (hP : rxPLFW S0 ws) : bx_obC rxL X S0 rxCLFW.2.2.1 (rxILFW S0 ws) (rxmLFW S0 ws) 2 rxzLFW_2 rxoLFW_2_0 := by
  intro S S' r r' hinv hX hin hsm_ hseg
  obtain ⟨I0, I1, h0_, hr_, b_, f_, d_⟩ := bx_cl (evs := [(1, (0, 517), (12, 0), .inr (0, (0, 0))), (1, (0, 516), (12, 0), .inr (0, (0, 0)))]) (fvs := []) hseg (by decide +kernel) (by decide +kernel)
  have hinv : rxILFW_2 S0 ws S (r 8) (r 9) (r 10) (r 11) (r 12) := hinv
  rw [← hr_ 8 (by decide), ← hr_ 9 (by decide), ← hr_ 10 (by decide), ← hr_ 11 (by decide), ← hr_ 12 (by decide)] at hinv
  obtain ⟨⟨l8, u8⟩, ⟨l9, u9⟩, ⟨l10, u10⟩, ⟨l11, u11⟩, ⟨l12, u12⟩, -⟩ := b_
  obtain ⟨T0, ⟨T1, w_, w1⟩, w0⟩ := d_
  subst w0
  subst w1
  subst w_
  have g := rxcLFW_2_0 hP hin I0 hinv l8 u8 l9 u9 l10 u10 l11 u11 l12 u12
  refine ⟨bx_narP_ok (l := []) g.1, bx_nfP_ok h0_ (fvs := []) (by decide +kernel) g.2.1, ?_, ?_⟩
  · show rxILFW_2 S0 ws (bx_up (bx_up T1 516 (r' 12) (0)) 517 (r' 12) (0)) (bx_val [(0, 0), (0, 0), (0, 0), (0, 0), (0, 0), (0, 0), (0, 0), (0, 0), (8, 0), (9, 0), (10, 0), (11, 0), (12, 1)] r' 8) (bx_val [(0, 0), (0, 0), (0, 0), (0, 0), (0, 0), (0, 0), (0, 0), (0, 0), (8, 0), (9, 0), (10, 0), (11, 0), (12, 1)] r' 9) (bx_val [(0, 0), (0, 0), (0, 0), (0, 0), (0, 0), (0, 0), (0, 0), (0, 0), (8, 0), (9, 0), (10, 0), (11, 0), (12, 1)] r' 10) (bx_val [(0, 0), (0, 0), (0, 0), (0, 0), (0, 0), (0, 0), (0, 0), (0, 0), (8, 0), (9, 0), (10, 0), (11, 0), (12, 1)] r' 11) (bx_val [(0, 0), (0, 0), (0, 0), (0, 0), (0, 0), (0, 0), (0, 0), (0, 0), (8, 0), (9, 0), (10, 0), (11, 0), (12, 1)] r' 12)
    rw [bx_val_x (n := 8) (e := (8, 0)) h0_ rfl, bx_val_x (n := 9) (e := (9, 0)) h0_ rfl, bx_val_x (n := 10) (e := (10, 0)) h0_ rfl, bx_val_x (n := 11) (e := (11, 0)) h0_ rfl, bx_val_x (n := 12) (e := (12, 1)) h0_ rfl]
    exact g.2.2.1
  · show rxmLFW_2 S0 ws (bx_up (bx_up T1 516 (r' 12) (0)) 517 (r' 12) (0)) (bx_val [(0, 0), (0, 0), (0, 0), (0, 0), (0, 0), (0, 0), (0, 0), (0, 0), (8, 0), (9, 0), (10, 0), (11, 0), (12, 1)] r' 8) (bx_val [(0, 0), (0, 0), (0, 0), (0, 0), (0, 0), (0, 0), (0, 0), (0, 0), (8, 0), (9, 0), (10, 0), (11, 0), (12, 1)] r' 9) (bx_val [(0, 0), (0, 0), (0, 0), (0, 0), (0, 0), (0, 0), (0, 0), (0, 0), (8, 0), (9, 0), (10, 0), (11, 0), (12, 1)] r' 10) (bx_val [(0, 0), (0, 0), (0, 0), (0, 0), (0, 0), (0, 0), (0, 0), (0, 0), (8, 0), (9, 0), (10, 0), (11, 0), (12, 1)] r' 11) (bx_val [(0, 0), (0, 0), (0, 0), (0, 0), (0, 0), (0, 0), (0, 0), (0, 0), (8, 0), (9, 0), (10, 0), (11, 0), (12, 1)] r' 12) < rxmLFW_2 S0 ws T1 (r 8) (r 9) (r 10) (r 11) (r 12)
    rw [bx_val_x (n := 8) (e := (8, 0)) h0_ rfl, bx_val_x (n := 9) (e := (9, 0)) h0_ rfl, bx_val_x (n := 10) (e := (10, 0)) h0_ rfl, bx_val_x (n := 11) (e := (11, 0)) h0_ rfl, bx_val_x (n := 12) (e := (12, 1)) h0_ rfl, ← hr_ 8 (by decide), ← hr_ 9 (by decide), ← hr_ 10 (by decide), ← hr_ 11 (by decide), ← hr_ 12 (by decide)]
    exact g.2.2.2
theorem rxcLFW_2_1 {S0 : Nat → Int → Int} {ws : List Int} {S : Nat → Int → Int} {m row1 cue n k : Int} (hP : rxPLFW S0 ws) (hin : bx_same rxL (bx_mdl rxCLFW.2.2.1) S0 S) (I0 : bx_Inv rxL S) (hinv : rxILFW_2 S0 ws S m row1 cue n k) (l8 : 1 ≤ m) (u8 : m ≤ 3) (l9 : 0 ≤ row1) (u9 : row1 ≤ 3) (l10 : 0 ≤ cue) (u10 : cue ≤ 5) (l11 : 0 ≤ n) (u11 : n ≤ 0) (l12 : 12 ≤ k) (u12 : k ≤ 12) : (True) ∧ (True) ∧ rxILFW_3 S0 ws (bx_up (bx_up S 513 0 0) 518 0 1) m row1 cue n m row1 cue ∧ rxmLFW_3 S0 ws (bx_up (bx_up S 513 0 0) 518 0 1) m row1 cue n m row1 cue < rxmLFW_2 S0 ws S m row1 cue n k := by
  obtain ⟨hI, hx⟩ := hinv
  obtain ⟨a_, b_, c_, d_⟩ := rxcFW_2_1 hP hin I0 hI l8 u8 l9 u9 l10 u10 l11 u11 l12 u12
  exact ⟨a_, b_, ⟨c_, (by
      obtain ⟨hw, h1, h2, h3, h4⟩ := hx
      have hn := hI.1
      have e6 : S 482 6 = S0 482 6 := rx_sameR hin (tc := 0) (n := 6180) (g := 63) rfl (by omega) (by decide +kernel) (by decide +kernel) (by omega) (by omega)
      exact ⟨hw, ⟨rfl, rfl, rfl⟩, by omega, fun j a b => ⟨((bx_up_ne (by omega)).trans (bx_up_ne (by omega))).trans ((h1 j a b).1), ((bx_up_ne (by omega)).trans (bx_up_ne (by omega))).trans ((h1 j a b).2)⟩, ((bx_up_ne (by omega)).trans (bx_up_ne (by omega))).trans (h2), ((bx_up_ne (by omega)).trans (bx_up_ne (by omega))).trans (h3)⟩)⟩, d_⟩
theorem rxgLFW_2_1 {X : (Nat → Int → Int) → Prop} {S0 : Nat → Int → Int} {ws : List Int} (hP : rxPLFW S0 ws) : bx_obC rxL X S0 rxCLFW.2.2.1 (rxILFW S0 ws) (rxmLFW S0 ws) 2 rxzLFW_2 rxoLFW_2_1 := by
  intro S S' r r' hinv hX hin hsm_ hseg
  obtain ⟨I0, I1, h0_, hr_, b_, f_, d_⟩ := bx_cl (evs := [(1, (0, 518), (0, 0), .inr (0, (0, 1))), (1, (0, 513), (0, 0), .inr (0, (0, 0)))]) (fvs := []) hseg (by decide +kernel) (by decide +kernel)
  have hinv : rxILFW_2 S0 ws S (r 8) (r 9) (r 10) (r 11) (r 12) := hinv
  rw [← hr_ 8 (by decide), ← hr_ 9 (by decide), ← hr_ 10 (by decide), ← hr_ 11 (by decide), ← hr_ 12 (by decide)] at hinv
  obtain ⟨⟨l8, u8⟩, ⟨l9, u9⟩, ⟨l10, u10⟩, ⟨l11, u11⟩, ⟨l12, u12⟩, -⟩ := b_
  obtain ⟨T0, ⟨T1, w_, w1⟩, w0⟩ := d_
  subst w0
  subst w1
  subst w_
  have g := rxcLFW_2_1 hP hin I0 hinv l8 u8 l9 u9 l10 u10 l11 u11 l12 u12
  refine ⟨bx_narP_ok (l := []) g.1, bx_nfP_ok h0_ (fvs := []) (by decide +kernel) g.2.1, ?_, ?_⟩
  · show rxILFW_3 S0 ws (bx_up (bx_up T1 513 (0) (0)) 518 (0) (1)) (bx_val [(0, 0), (0, 0), (0, 0), (0, 0), (0, 0), (0, 0), (0, 0), (0, 0), (8, 0), (9, 0), (10, 0), (11, 0), (8, 0), (9, 0), (10, 0)] r' 8) (bx_val [(0, 0), (0, 0), (0, 0), (0, 0), (0, 0), (0, 0), (0, 0), (0, 0), (8, 0), (9, 0), (10, 0), (11, 0), (8, 0), (9, 0), (10, 0)] r' 9) (bx_val [(0, 0), (0, 0), (0, 0), (0, 0), (0, 0), (0, 0), (0, 0), (0, 0), (8, 0), (9, 0), (10, 0), (11, 0), (8, 0), (9, 0), (10, 0)] r' 10) (bx_val [(0, 0), (0, 0), (0, 0), (0, 0), (0, 0), (0, 0), (0, 0), (0, 0), (8, 0), (9, 0), (10, 0), (11, 0), (8, 0), (9, 0), (10, 0)] r' 11) (bx_val [(0, 0), (0, 0), (0, 0), (0, 0), (0, 0), (0, 0), (0, 0), (0, 0), (8, 0), (9, 0), (10, 0), (11, 0), (8, 0), (9, 0), (10, 0)] r' 12) (bx_val [(0, 0), (0, 0), (0, 0), (0, 0), (0, 0), (0, 0), (0, 0), (0, 0), (8, 0), (9, 0), (10, 0), (11, 0), (8, 0), (9, 0), (10, 0)] r' 13) (bx_val [(0, 0), (0, 0), (0, 0), (0, 0), (0, 0), (0, 0), (0, 0), (0, 0), (8, 0), (9, 0), (10, 0), (11, 0), (8, 0), (9, 0), (10, 0)] r' 14)
    rw [bx_val_x (n := 8) (e := (8, 0)) h0_ rfl, bx_val_x (n := 9) (e := (9, 0)) h0_ rfl, bx_val_x (n := 10) (e := (10, 0)) h0_ rfl, bx_val_x (n := 11) (e := (11, 0)) h0_ rfl, bx_val_x (n := 12) (e := (8, 0)) h0_ rfl, bx_val_x (n := 13) (e := (9, 0)) h0_ rfl, bx_val_x (n := 14) (e := (10, 0)) h0_ rfl]
    exact g.2.2.1
  · show rxmLFW_3 S0 ws (bx_up (bx_up T1 513 (0) (0)) 518 (0) (1)) (bx_val [(0, 0), (0, 0), (0, 0), (0, 0), (0, 0), (0, 0), (0, 0), (0, 0), (8, 0), (9, 0), (10, 0), (11, 0), (8, 0), (9, 0), (10, 0)] r' 8) (bx_val [(0, 0), (0, 0), (0, 0), (0, 0), (0, 0), (0, 0), (0, 0), (0, 0), (8, 0), (9, 0), (10, 0), (11, 0), (8, 0), (9, 0), (10, 0)] r' 9) (bx_val [(0, 0), (0, 0), (0, 0), (0, 0), (0, 0), (0, 0), (0, 0), (0, 0), (8, 0), (9, 0), (10, 0), (11, 0), (8, 0), (9, 0), (10, 0)] r' 10) (bx_val [(0, 0), (0, 0), (0, 0), (0, 0), (0, 0), (0, 0), (0, 0), (0, 0), (8, 0), (9, 0), (10, 0), (11, 0), (8, 0), (9, 0), (10, 0)] r' 11) (bx_val [(0, 0), (0, 0), (0, 0), (0, 0), (0, 0), (0, 0), (0, 0), (0, 0), (8, 0), (9, 0), (10, 0), (11, 0), (8, 0), (9, 0), (10, 0)] r' 12) (bx_val [(0, 0), (0, 0), (0, 0), (0, 0), (0, 0), (0, 0), (0, 0), (0, 0), (8, 0), (9, 0), (10, 0), (11, 0), (8, 0), (9, 0), (10, 0)] r' 13) (bx_val [(0, 0), (0, 0), (0, 0), (0, 0), (0, 0), (0, 0), (0, 0), (0, 0), (8, 0), (9, 0), (10, 0), (11, 0), (8, 0), (9, 0), (10, 0)] r' 14) < rxmLFW_2 S0 ws T1 (r 8) (r 9) (r 10) (r 11) (r 12)
    rw [bx_val_x (n := 8) (e := (8, 0)) h0_ rfl, bx_val_x (n := 9) (e := (9, 0)) h0_ rfl, bx_val_x (n := 10) (e := (10, 0)) h0_ rfl, bx_val_x (n := 11) (e := (11, 0)) h0_ rfl, bx_val_x (n := 12) (e := (8, 0)) h0_ rfl, bx_val_x (n := 13) (e := (9, 0)) h0_ rfl, bx_val_x (n := 14) (e := (10, 0)) h0_ rfl, ← hr_ 8 (by decide), ← hr_ 9 (by decide), ← hr_ 10 (by decide), ← hr_ 11 (by decide), ← hr_ 12 (by decide)]
    exact g.2.2.2
theorem rxcLFW_2_2 {S0 : Nat → Int → Int} {ws : List Int} {S : Nat → Int → Int} {m row1 cue n k : Int} (hP : rxPLFW S0 ws) (hin : bx_same rxL (bx_mdl rxCLFW.2.2.1) S0 S) (I0 : bx_Inv rxL S) (hinv : rxILFW_2 S0 ws S m row1 cue n k) (l8 : 1 ≤ m) (u8 : m ≤ 3) (l9 : 0 ≤ row1) (u9 : row1 ≤ 3) (l10 : 0 ≤ cue) (u10 : cue ≤ 5) (l11 : 1 ≤ n) (u11 : n ≤ 12) (l12 : 12 ≤ k) (u12 : k ≤ 12) (f0 : n ≠ 0) : (True) ∧ (True) ∧ rxILFW_5 S0 ws (bx_up (bx_up (bx_up S 513 0 0) 518 0 1) 519 0 ((-1))) m row1 cue n 0 ∧ rxmLFW_5 S0 ws (bx_up (bx_up (bx_up S 513 0 0) 518 0 1) 519 0 ((-1))) m row1 cue n 0 < rxmLFW_2 S0 ws S m row1 cue n k := by
  obtain ⟨hI, hx⟩ := hinv
  obtain ⟨a_, b_, c_, d_⟩ := rxcFW_2_2 hP hin I0 hI l8 u8 l9 u9 l10 u10 l11 u11 l12 u12 f0
  exact ⟨a_, b_, ⟨c_, (by
      obtain ⟨hw, h1, h2, h3, h4⟩ := hx
      have hn := hI.1
      have e6 : S 482 6 = S0 482 6 := rx_sameR hin (tc := 0) (n := 6180) (g := 63) rfl (by omega) (by decide +kernel) (by decide +kernel) (by omega) (by omega)
      refine ⟨hw, fun z hz => ⟨fun c => by omega, fun _ => ldIn (by show 0 < S0 482 6; omega) (fun j a b => ⟨((bx_up_ne (by omega)).trans ((bx_up_ne (by omega)).trans (bx_up_ne (by omega)))).trans ((h1 j a b).1), ((bx_up_ne (by omega)).trans ((bx_up_ne (by omega)).trans (bx_up_ne (by omega)))).trans ((h1 j a b).2)⟩) (fun j a b => ⟨((bx_up_ne (by omega)).trans ((bx_up_ne (by omega)).trans (bx_up_ne (by omega)))).trans ((h4 j a (by omega)).1), ((bx_up_ne (by omega)).trans ((bx_up_ne (by omega)).trans (bx_up_ne (by omega)))).trans ((h4 j a (by omega)).2)⟩) ((bx_up_ne (by omega)).trans ((bx_up_ne (by omega)).trans bx_up_at)) ((bx_up_ne (by omega)).trans bx_up_at) bx_up_at (((bx_up_ne (by omega)).trans ((bx_up_ne (by omega)).trans (bx_up_ne (by omega)))).trans (h2)) (((bx_up_ne (by omega)).trans ((bx_up_ne (by omega)).trans (bx_up_ne (by omega)))).trans (h3))⟩⟩)⟩, d_⟩
theorem rxgLFW_2_2 {X : (Nat → Int → Int) → Prop} {S0 : Nat → Int → Int} {ws : List Int} (hP : rxPLFW S0 ws) : bx_obC rxL X S0 rxCLFW.2.2.1 (rxILFW S0 ws) (rxmLFW S0 ws) 2 rxzLFW_2 rxoLFW_2_2 := by
  intro S S' r r' hinv hX hin hsm_ hseg
  obtain ⟨I0, I1, h0_, hr_, b_, f_, d_⟩ := bx_cl (evs := [(1, (0, 519), (0, 0), .inr (0, (0, (-1)))), (1, (0, 518), (0, 0), .inr (0, (0, 1))), (1, (0, 513), (0, 0), .inr (0, (0, 0)))]) (fvs := [(3, (11, 0), (0, 0), (0, 0))]) hseg (by decide +kernel) (by decide +kernel)
  have hinv : rxILFW_2 S0 ws S (r 8) (r 9) (r 10) (r 11) (r 12) := hinv
  rw [← hr_ 8 (by decide), ← hr_ 9 (by decide), ← hr_ 10 (by decide), ← hr_ 11 (by decide), ← hr_ 12 (by decide)] at hinv
  obtain ⟨⟨l8, u8⟩, ⟨l9, u9⟩, ⟨l10, u10⟩, ⟨l11, u11⟩, ⟨l12, u12⟩, -⟩ := b_
  obtain ⟨f0, -⟩ := f_
  obtain ⟨T0, ⟨T1, ⟨T2, w_, w2⟩, w1⟩, w0⟩ := d_
  subst w0
  subst w1
  subst w2
  subst w_
  have g := rxcLFW_2_2 hP hin I0 hinv l8 u8 l9 u9 l10 u10 l11 u11 l12 u12 f0
  refine ⟨bx_narP_ok (l := []) g.1, bx_nfP_ok h0_ (fvs := []) (by decide +kernel) g.2.1, ?_, ?_⟩
  · show rxILFW_5 S0 ws (bx_up (bx_up (bx_up T2 513 (0) (0)) 518 (0) (1)) 519 (0) ((-1))) (bx_val [(0, 0), (0, 0), (0, 0), (0, 0), (0, 0), (0, 0), (0, 0), (0, 0), (8, 0), (9, 0), (10, 0), (11, 0), (0, 0)] r' 8) (bx_val [(0, 0), (0, 0), (0, 0), (0, 0), (0, 0), (0, 0), (0, 0), (0, 0), (8, 0), (9, 0), (10, 0), (11, 0), (0, 0)] r' 9) (bx_val [(0, 0), (0, 0), (0, 0), (0, 0), (0, 0), (0, 0), (0, 0), (0, 0), (8, 0), (9, 0), (10, 0), (11, 0), (0, 0)] r' 10) (bx_val [(0, 0), (0, 0), (0, 0), (0, 0), (0, 0), (0, 0), (0, 0), (0, 0), (8, 0), (9, 0), (10, 0), (11, 0), (0, 0)] r' 11) (bx_val [(0, 0), (0, 0), (0, 0), (0, 0), (0, 0), (0, 0), (0, 0), (0, 0), (8, 0), (9, 0), (10, 0), (11, 0), (0, 0)] r' 12)
    rw [bx_val_x (n := 8) (e := (8, 0)) h0_ rfl, bx_val_x (n := 9) (e := (9, 0)) h0_ rfl, bx_val_x (n := 10) (e := (10, 0)) h0_ rfl, bx_val_x (n := 11) (e := (11, 0)) h0_ rfl, bx_val_x (n := 12) (e := (0, 0)) h0_ rfl]
    exact g.2.2.1
  · show rxmLFW_5 S0 ws (bx_up (bx_up (bx_up T2 513 (0) (0)) 518 (0) (1)) 519 (0) ((-1))) (bx_val [(0, 0), (0, 0), (0, 0), (0, 0), (0, 0), (0, 0), (0, 0), (0, 0), (8, 0), (9, 0), (10, 0), (11, 0), (0, 0)] r' 8) (bx_val [(0, 0), (0, 0), (0, 0), (0, 0), (0, 0), (0, 0), (0, 0), (0, 0), (8, 0), (9, 0), (10, 0), (11, 0), (0, 0)] r' 9) (bx_val [(0, 0), (0, 0), (0, 0), (0, 0), (0, 0), (0, 0), (0, 0), (0, 0), (8, 0), (9, 0), (10, 0), (11, 0), (0, 0)] r' 10) (bx_val [(0, 0), (0, 0), (0, 0), (0, 0), (0, 0), (0, 0), (0, 0), (0, 0), (8, 0), (9, 0), (10, 0), (11, 0), (0, 0)] r' 11) (bx_val [(0, 0), (0, 0), (0, 0), (0, 0), (0, 0), (0, 0), (0, 0), (0, 0), (8, 0), (9, 0), (10, 0), (11, 0), (0, 0)] r' 12) < rxmLFW_2 S0 ws T2 (r 8) (r 9) (r 10) (r 11) (r 12)
    rw [bx_val_x (n := 8) (e := (8, 0)) h0_ rfl, bx_val_x (n := 9) (e := (9, 0)) h0_ rfl, bx_val_x (n := 10) (e := (10, 0)) h0_ rfl, bx_val_x (n := 11) (e := (11, 0)) h0_ rfl, bx_val_x (n := 12) (e := (0, 0)) h0_ rfl, ← hr_ 8 (by decide), ← hr_ 9 (by decide), ← hr_ 10 (by decide), ← hr_ 11 (by decide), ← hr_ 12 (by decide)]
    exact g.2.2.2
theorem rxdLFW_4_0 {S0 : Nat → Int → Int} {ws : List Int} {S : Nat → Int → Int} {m row1 cue n a b c : Int} (hP : rxPLFW S0 ws) (hin : bx_same rxL (bx_mdl rxCLFW.2.2.1) S0 S) (hin2 : bx_same rxL (bx_mdl rxCLFW.2.2.1) S S) (I0 : bx_Inv rxL S) (I1 : bx_Inv rxL S) (hinv : rxILFW_4 S0 ws S m row1 cue n a b c) (l8 : 1 ≤ m) (u8 : m ≤ 3) (l9 : 0 ≤ row1) (u9 : row1 ≤ 3) (l10 : 0 ≤ cue) (u10 : cue ≤ 5) (l11 : 0 ≤ n) (u11 : n ≤ 0) (l12 : 1 ≤ a) (u12 : a ≤ 3) (l13 : 0 ≤ b) (u13 : b ≤ 3) (l14 : 0 ≤ c) (u14 : c ≤ 5) : (True) ∧ rxPSLFW S0 ws S none := by
  obtain ⟨hI, hx⟩ := hinv
  obtain ⟨a_, c_⟩ := rxdFW_4_0 hP hin hin2 I0 I1 hI l8 u8 l9 u9 l10 u10 l11 u11 l12 u12 l13 u13 l14 u14
  exact ⟨a_, rfl, c_, (by
      exact ⟨m, row1, cue, hx.1, hx.2⟩)⟩
theorem rxfLFW_4_0 {X : (Nat → Int → Int) → Prop} {S0 : Nat → Int → Int} {ws : List Int} (hP : rxPLFW S0 ws) : bx_obE rxL X S0 rxCLFW.2.2.1 (rxILFW S0 ws) (rxPSLFW S0 ws) 4 rxzLFW_4 rxeLFW_4_0 := by
  intro S S' r r' hinv hX hin hsm_ hseg
  obtain ⟨I0, I1, h0_, hr_, b_, f_, d_⟩ := bx_cl (evs := []) (fvs := []) hseg (by decide +kernel) (by decide +kernel)
  have hinv : rxILFW_4 S0 ws S (r 8) (r 9) (r 10) (r 11) (r 12) (r 13) (r 14) := hinv
  rw [← hr_ 8 (by decide), ← hr_ 9 (by decide), ← hr_ 10 (by decide), ← hr_ 11 (by decide), ← hr_ 12 (by decide), ← hr_ 13 (by decide), ← hr_ 14 (by decide)] at hinv
  obtain ⟨⟨l8, u8⟩, ⟨l9, u9⟩, ⟨l10, u10⟩, ⟨l11, u11⟩, ⟨l12, u12⟩, ⟨l13, u13⟩, ⟨l14, u14⟩, -⟩ := b_
  have w_ := d_
  subst w_
  have g := rxdLFW_4_0 hP hin hsm_ I0 I1 hinv l8 u8 l9 u9 l10 u10 l11 u11 l12 u12 l13 u13 l14 u14
  refine ⟨bx_narP_ok (l := []) g.1, ?_⟩
  exact g.2
theorem rxcLFW_5_0 {S0 : Nat → Int → Int} {ws : List Int} {S : Nat → Int → Int} {m row1 cue n k : Int} (hP : rxPLFW S0 ws) (hin : bx_same rxL (bx_mdl rxCLFW.2.2.1) S0 S) (I0 : bx_Inv rxL S) (hinv : rxILFW_5 S0 ws S m row1 cue n k) (l8 : 1 ≤ m) (u8 : m ≤ 3) (l9 : 0 ≤ row1) (u9 : row1 ≤ 3) (l10 : 0 ≤ cue) (u10 : cue ≤ 5) (l11 : 1 ≤ n) (u11 : n ≤ 12) (l12 : 0 ≤ k) (u12 : k ≤ 11) : (True) ∧ (True) ∧ rxILFW_6 S0 ws S m row1 cue n k k ∧ rxmLFW_6 S0 ws S m row1 cue n k k < rxmLFW_5 S0 ws S m row1 cue n k := by
  obtain ⟨hI, hx⟩ := hinv
  obtain ⟨a_, b_, c_, d_⟩ := rxcFW_5_0 hP hin I0 hI l8 u8 l9 u9 l10 u10 l11 u11 l12 u12
  exact ⟨a_, b_, ⟨c_, (by
      exact ⟨hx.1, fun z hz => (hx.2 z hz).2 (by omega)⟩)⟩, d_⟩
theorem rxgLFW_5_0 {X : (Nat → Int → Int) → Prop} {S0 : Nat → Int → Int} {ws : List Int} (hP : rxPLFW S0 ws) : bx_obC rxL X S0 rxCLFW.2.2.1 (rxILFW S0 ws) (rxmLFW S0 ws) 5 rxzLFW_5 rxoLFW_5_0 := by
  intro S S' r r' hinv hX hin hsm_ hseg
  obtain ⟨I0, I1, h0_, hr_, b_, f_, d_⟩ := bx_cl (evs := []) (fvs := []) hseg (by decide +kernel) (by decide +kernel)
  have hinv : rxILFW_5 S0 ws S (r 8) (r 9) (r 10) (r 11) (r 12) := hinv
  rw [← hr_ 8 (by decide), ← hr_ 9 (by decide), ← hr_ 10 (by decide), ← hr_ 11 (by decide), ← hr_ 12 (by decide)] at hinv
  obtain ⟨⟨l8, u8⟩, ⟨l9, u9⟩, ⟨l10, u10⟩, ⟨l11, u11⟩, ⟨l12, u12⟩, -⟩ := b_
  have w_ := d_
  subst w_
  have g := rxcLFW_5_0 hP hin I0 hinv l8 u8 l9 u9 l10 u10 l11 u11 l12 u12
  refine ⟨bx_narP_ok (l := []) g.1, bx_nfP_ok h0_ (fvs := []) (by decide +kernel) g.2.1, ?_, ?_⟩
  · show rxILFW_6 S0 ws S' (bx_val [(0, 0), (0, 0), (0, 0), (0, 0), (0, 0), (0, 0), (0, 0), (0, 0), (8, 0), (9, 0), (10, 0), (11, 0), (12, 0), (12, 0)] r' 8) (bx_val [(0, 0), (0, 0), (0, 0), (0, 0), (0, 0), (0, 0), (0, 0), (0, 0), (8, 0), (9, 0), (10, 0), (11, 0), (12, 0), (12, 0)] r' 9) (bx_val [(0, 0), (0, 0), (0, 0), (0, 0), (0, 0), (0, 0), (0, 0), (0, 0), (8, 0), (9, 0), (10, 0), (11, 0), (12, 0), (12, 0)] r' 10) (bx_val [(0, 0), (0, 0), (0, 0), (0, 0), (0, 0), (0, 0), (0, 0), (0, 0), (8, 0), (9, 0), (10, 0), (11, 0), (12, 0), (12, 0)] r' 11) (bx_val [(0, 0), (0, 0), (0, 0), (0, 0), (0, 0), (0, 0), (0, 0), (0, 0), (8, 0), (9, 0), (10, 0), (11, 0), (12, 0), (12, 0)] r' 12) (bx_val [(0, 0), (0, 0), (0, 0), (0, 0), (0, 0), (0, 0), (0, 0), (0, 0), (8, 0), (9, 0), (10, 0), (11, 0), (12, 0), (12, 0)] r' 13)
    rw [bx_val_x (n := 8) (e := (8, 0)) h0_ rfl, bx_val_x (n := 9) (e := (9, 0)) h0_ rfl, bx_val_x (n := 10) (e := (10, 0)) h0_ rfl, bx_val_x (n := 11) (e := (11, 0)) h0_ rfl, bx_val_x (n := 12) (e := (12, 0)) h0_ rfl, bx_val_x (n := 13) (e := (12, 0)) h0_ rfl]
    exact g.2.2.1
  · show rxmLFW_6 S0 ws S' (bx_val [(0, 0), (0, 0), (0, 0), (0, 0), (0, 0), (0, 0), (0, 0), (0, 0), (8, 0), (9, 0), (10, 0), (11, 0), (12, 0), (12, 0)] r' 8) (bx_val [(0, 0), (0, 0), (0, 0), (0, 0), (0, 0), (0, 0), (0, 0), (0, 0), (8, 0), (9, 0), (10, 0), (11, 0), (12, 0), (12, 0)] r' 9) (bx_val [(0, 0), (0, 0), (0, 0), (0, 0), (0, 0), (0, 0), (0, 0), (0, 0), (8, 0), (9, 0), (10, 0), (11, 0), (12, 0), (12, 0)] r' 10) (bx_val [(0, 0), (0, 0), (0, 0), (0, 0), (0, 0), (0, 0), (0, 0), (0, 0), (8, 0), (9, 0), (10, 0), (11, 0), (12, 0), (12, 0)] r' 11) (bx_val [(0, 0), (0, 0), (0, 0), (0, 0), (0, 0), (0, 0), (0, 0), (0, 0), (8, 0), (9, 0), (10, 0), (11, 0), (12, 0), (12, 0)] r' 12) (bx_val [(0, 0), (0, 0), (0, 0), (0, 0), (0, 0), (0, 0), (0, 0), (0, 0), (8, 0), (9, 0), (10, 0), (11, 0), (12, 0), (12, 0)] r' 13) < rxmLFW_5 S0 ws S' (r 8) (r 9) (r 10) (r 11) (r 12)
    rw [bx_val_x (n := 8) (e := (8, 0)) h0_ rfl, bx_val_x (n := 9) (e := (9, 0)) h0_ rfl, bx_val_x (n := 10) (e := (10, 0)) h0_ rfl, bx_val_x (n := 11) (e := (11, 0)) h0_ rfl, bx_val_x (n := 12) (e := (12, 0)) h0_ rfl, bx_val_x (n := 13) (e := (12, 0)) h0_ rfl, ← hr_ 8 (by decide), ← hr_ 9 (by decide), ← hr_ 10 (by decide), ← hr_ 11 (by decide), ← hr_ 12 (by decide)]
    exact g.2.2.2
theorem rxdLFW_5_0 {S0 : Nat → Int → Int} {ws : List Int} {S : Nat → Int → Int} {m row1 cue n k : Int} (hP : rxPLFW S0 ws) (hin : bx_same rxL (bx_mdl rxCLFW.2.2.1) S0 S) (hin2 : bx_same rxL (bx_mdl rxCLFW.2.2.1) S S) (I0 : bx_Inv rxL S) (I1 : bx_Inv rxL S) (hinv : rxILFW_5 S0 ws S m row1 cue n k) (l8 : 1 ≤ m) (u8 : m ≤ 3) (l9 : 0 ≤ row1) (u9 : row1 ≤ 3) (l10 : 0 ≤ cue) (u10 : cue ≤ 5) (l11 : 1 ≤ n) (u11 : n ≤ 12) (l12 : (-1) ≤ k) (u12 : k ≤ (-1)) : (True) ∧ rxPSLFW S0 ws S none := by
  obtain ⟨hI, hx⟩ := hinv
  obtain ⟨a_, c_⟩ := rxdFW_5_0 hP hin hin2 I0 I1 hI l8 u8 l9 u9 l10 u10 l11 u11 l12 u12
  exact ⟨a_, rfl, c_, (by
      exact ⟨m, row1, cue, hx.1, fun z hz => (hx.2 z hz).1 (by omega)⟩)⟩
theorem rxfLFW_5_0 {X : (Nat → Int → Int) → Prop} {S0 : Nat → Int → Int} {ws : List Int} (hP : rxPLFW S0 ws) : bx_obE rxL X S0 rxCLFW.2.2.1 (rxILFW S0 ws) (rxPSLFW S0 ws) 5 rxzLFW_5 rxeLFW_5_0 := by
  intro S S' r r' hinv hX hin hsm_ hseg
  obtain ⟨I0, I1, h0_, hr_, b_, f_, d_⟩ := bx_cl (evs := []) (fvs := []) hseg (by decide +kernel) (by decide +kernel)
  have hinv : rxILFW_5 S0 ws S (r 8) (r 9) (r 10) (r 11) (r 12) := hinv
  rw [← hr_ 8 (by decide), ← hr_ 9 (by decide), ← hr_ 10 (by decide), ← hr_ 11 (by decide), ← hr_ 12 (by decide)] at hinv
  obtain ⟨⟨l8, u8⟩, ⟨l9, u9⟩, ⟨l10, u10⟩, ⟨l11, u11⟩, ⟨l12, u12⟩, -⟩ := b_
  have w_ := d_
  subst w_
  have g := rxdLFW_5_0 hP hin hsm_ I0 I1 hinv l8 u8 l9 u9 l10 u10 l11 u11 l12 u12
  refine ⟨bx_narP_ok (l := []) g.1, ?_⟩
  exact g.2
theorem rxcLFW_7_0 {S0 : Nat → Int → Int} {ws : List Int} {S : Nat → Int → Int} {m row1 cue n k a : Int} (hP : rxPLFW S0 ws) (hin : bx_same rxL (bx_mdl rxCLFW.2.2.1) S0 S) (I0 : bx_Inv rxL S) (hinv : rxILFW_7 S0 ws S m row1 cue n k a) (l8 : 1 ≤ m) (u8 : m ≤ 3) (l9 : 0 ≤ row1) (u9 : row1 ≤ 3) (l10 : 0 ≤ cue) (u10 : cue ≤ 5) (l11 : 1 ≤ n) (u11 : n ≤ 12) (l12 : 0 ≤ k) (u12 : k ≤ 11) (l13 : 0 ≤ a) (u13 : a ≤ 11) : (True) ∧ (True) ∧ rxILFW_8 S0 ws S m row1 cue n k k m ∧ rxmLFW_8 S0 ws S m row1 cue n k k m < rxmLFW_7 S0 ws S m row1 cue n k a := by
  obtain ⟨hI, hx⟩ := hinv
  obtain ⟨a_, b_, c_, d_⟩ := rxcFW_7_0 hP hin I0 hI l8 u8 l9 u9 l10 u10 l11 u11 l12 u12 l13 u13
  exact ⟨a_, b_, ⟨c_, (by
      exact hx)⟩, d_⟩
theorem rxgLFW_7_0 {X : (Nat → Int → Int) → Prop} {S0 : Nat → Int → Int} {ws : List Int} (hP : rxPLFW S0 ws) : bx_obC rxL X S0 rxCLFW.2.2.1 (rxILFW S0 ws) (rxmLFW S0 ws) 7 rxzLFW_7 rxoLFW_7_0 := by
  intro S S' r r' hinv hX hin hsm_ hseg
  obtain ⟨I0, I1, h0_, hr_, b_, f_, d_⟩ := bx_cl (evs := []) (fvs := []) hseg (by decide +kernel) (by decide +kernel)
  have hinv : rxILFW_7 S0 ws S (r 8) (r 9) (r 10) (r 11) (r 12) (r 13) := hinv
  rw [← hr_ 8 (by decide), ← hr_ 9 (by decide), ← hr_ 10 (by decide), ← hr_ 11 (by decide), ← hr_ 12 (by decide), ← hr_ 13 (by decide)] at hinv
  obtain ⟨⟨l8, u8⟩, ⟨l9, u9⟩, ⟨l10, u10⟩, ⟨l11, u11⟩, ⟨l12, u12⟩, ⟨l13, u13⟩, -⟩ := b_
  have w_ := d_
  subst w_
  have g := rxcLFW_7_0 hP hin I0 hinv l8 u8 l9 u9 l10 u10 l11 u11 l12 u12 l13 u13
  refine ⟨bx_narP_ok (l := []) g.1, bx_nfP_ok h0_ (fvs := []) (by decide +kernel) g.2.1, ?_, ?_⟩
  · show rxILFW_8 S0 ws S' (bx_val [(0, 0), (0, 0), (0, 0), (0, 0), (0, 0), (0, 0), (0, 0), (0, 0), (8, 0), (9, 0), (10, 0), (11, 0), (12, 0), (12, 0), (8, 0)] r' 8) (bx_val [(0, 0), (0, 0), (0, 0), (0, 0), (0, 0), (0, 0), (0, 0), (0, 0), (8, 0), (9, 0), (10, 0), (11, 0), (12, 0), (12, 0), (8, 0)] r' 9) (bx_val [(0, 0), (0, 0), (0, 0), (0, 0), (0, 0), (0, 0), (0, 0), (0, 0), (8, 0), (9, 0), (10, 0), (11, 0), (12, 0), (12, 0), (8, 0)] r' 10) (bx_val [(0, 0), (0, 0), (0, 0), (0, 0), (0, 0), (0, 0), (0, 0), (0, 0), (8, 0), (9, 0), (10, 0), (11, 0), (12, 0), (12, 0), (8, 0)] r' 11) (bx_val [(0, 0), (0, 0), (0, 0), (0, 0), (0, 0), (0, 0), (0, 0), (0, 0), (8, 0), (9, 0), (10, 0), (11, 0), (12, 0), (12, 0), (8, 0)] r' 12) (bx_val [(0, 0), (0, 0), (0, 0), (0, 0), (0, 0), (0, 0), (0, 0), (0, 0), (8, 0), (9, 0), (10, 0), (11, 0), (12, 0), (12, 0), (8, 0)] r' 13) (bx_val [(0, 0), (0, 0), (0, 0), (0, 0), (0, 0), (0, 0), (0, 0), (0, 0), (8, 0), (9, 0), (10, 0), (11, 0), (12, 0), (12, 0), (8, 0)] r' 14)
    rw [bx_val_x (n := 8) (e := (8, 0)) h0_ rfl, bx_val_x (n := 9) (e := (9, 0)) h0_ rfl, bx_val_x (n := 10) (e := (10, 0)) h0_ rfl, bx_val_x (n := 11) (e := (11, 0)) h0_ rfl, bx_val_x (n := 12) (e := (12, 0)) h0_ rfl, bx_val_x (n := 13) (e := (12, 0)) h0_ rfl, bx_val_x (n := 14) (e := (8, 0)) h0_ rfl]
    exact g.2.2.1
  · show rxmLFW_8 S0 ws S' (bx_val [(0, 0), (0, 0), (0, 0), (0, 0), (0, 0), (0, 0), (0, 0), (0, 0), (8, 0), (9, 0), (10, 0), (11, 0), (12, 0), (12, 0), (8, 0)] r' 8) (bx_val [(0, 0), (0, 0), (0, 0), (0, 0), (0, 0), (0, 0), (0, 0), (0, 0), (8, 0), (9, 0), (10, 0), (11, 0), (12, 0), (12, 0), (8, 0)] r' 9) (bx_val [(0, 0), (0, 0), (0, 0), (0, 0), (0, 0), (0, 0), (0, 0), (0, 0), (8, 0), (9, 0), (10, 0), (11, 0), (12, 0), (12, 0), (8, 0)] r' 10) (bx_val [(0, 0), (0, 0), (0, 0), (0, 0), (0, 0), (0, 0), (0, 0), (0, 0), (8, 0), (9, 0), (10, 0), (11, 0), (12, 0), (12, 0), (8, 0)] r' 11) (bx_val [(0, 0), (0, 0), (0, 0), (0, 0), (0, 0), (0, 0), (0, 0), (0, 0), (8, 0), (9, 0), (10, 0), (11, 0), (12, 0), (12, 0), (8, 0)] r' 12) (bx_val [(0, 0), (0, 0), (0, 0), (0, 0), (0, 0), (0, 0), (0, 0), (0, 0), (8, 0), (9, 0), (10, 0), (11, 0), (12, 0), (12, 0), (8, 0)] r' 13) (bx_val [(0, 0), (0, 0), (0, 0), (0, 0), (0, 0), (0, 0), (0, 0), (0, 0), (8, 0), (9, 0), (10, 0), (11, 0), (12, 0), (12, 0), (8, 0)] r' 14) < rxmLFW_7 S0 ws S' (r 8) (r 9) (r 10) (r 11) (r 12) (r 13)
    rw [bx_val_x (n := 8) (e := (8, 0)) h0_ rfl, bx_val_x (n := 9) (e := (9, 0)) h0_ rfl, bx_val_x (n := 10) (e := (10, 0)) h0_ rfl, bx_val_x (n := 11) (e := (11, 0)) h0_ rfl, bx_val_x (n := 12) (e := (12, 0)) h0_ rfl, bx_val_x (n := 13) (e := (12, 0)) h0_ rfl, bx_val_x (n := 14) (e := (8, 0)) h0_ rfl, ← hr_ 8 (by decide), ← hr_ 9 (by decide), ← hr_ 10 (by decide), ← hr_ 11 (by decide), ← hr_ 12 (by decide), ← hr_ 13 (by decide)]
    exact g.2.2.2
theorem rxcLFW_9_0 {S0 : Nat → Int → Int} {ws : List Int} {S : Nat → Int → Int} {m row1 cue n k a b go : Int} (hP : rxPLFW S0 ws) (hin : bx_same rxL (bx_mdl rxCLFW.2.2.1) S0 S) (I0 : bx_Inv rxL S) (hinv : rxILFW_9 S0 ws S m row1 cue n k a b go) (l8 : 1 ≤ m) (u8 : m ≤ 3) (l9 : 0 ≤ row1) (u9 : row1 ≤ 3) (l10 : 0 ≤ cue) (u10 : cue ≤ 5) (l11 : 1 ≤ n) (u11 : n ≤ 12) (l12 : 0 ≤ k) (u12 : k ≤ 11) (l13 : 0 ≤ a) (u13 : a ≤ 11) (l14 : 1 ≤ b) (u14 : b ≤ 3) (l15 : 1 ≤ go) (u15 : go ≤ 1) (f0 : k = n + (-1)) (f1 : go ≠ 0) : (True) ∧ (True) ∧ rxILFW_10 S0 ws S m row1 cue n k m row1 cue ∧ rxmLFW_10 S0 ws S m row1 cue n k m row1 cue < rxmLFW_9 S0 ws S m row1 cue n k a b go := by
  obtain ⟨hI, hx⟩ := hinv
  obtain ⟨a_, b_, c_, d_⟩ := rxcFW_9_0 hP hin I0 hI l8 u8 l9 u9 l10 u10 l11 u11 l12 u12 l13 u13 l14 u14 l15 u15 f0 f1
  exact ⟨a_, b_, ⟨c_, (by
      have hn := hI.2.2.1
      have e6 : S 482 6 = S0 482 6 := rx_sameR hin (tc := 0) (n := 6180) (g := 63) rfl (by omega) (by decide +kernel) (by decide +kernel) (by omega) (by omega)
      exact ⟨hx.1, ⟨rfl, rfl, rfl⟩, by omega, fun z hz => (hx.2 z hz).1 (by omega)⟩)⟩, d_⟩
theorem rxgLFW_9_0 {X : (Nat → Int → Int) → Prop} {S0 : Nat → Int → Int} {ws : List Int} (hP : rxPLFW S0 ws) : bx_obC rxL X S0 rxCLFW.2.2.1 (rxILFW S0 ws) (rxmLFW S0 ws) 9 rxzLFW_9 rxoLFW_9_0 := by
  intro S S' r r' hinv hX hin hsm_ hseg
  obtain ⟨I0, I1, h0_, hr_, b_, f_, d_⟩ := bx_cl (evs := []) (fvs := [(2, (12, 0), (11, (-1)), (0, 0)), (3, (15, 0), (0, 0), (0, 0))]) hseg (by decide +kernel) (by decide +kernel)
  have hinv : rxILFW_9 S0 ws S (r 8) (r 9) (r 10) (r 11) (r 12) (r 13) (r 14) (r 15) := hinv
  rw [← hr_ 8 (by decide), ← hr_ 9 (by decide), ← hr_ 10 (by decide), ← hr_ 11 (by decide), ← hr_ 12 (by decide), ← hr_ 13 (by decide), ← hr_ 14 (by decide), ← hr_ 15 (by decide)] at hinv
  obtain ⟨⟨l8, u8⟩, ⟨l9, u9⟩, ⟨l10, u10⟩, ⟨l11, u11⟩, ⟨l12, u12⟩, ⟨l13, u13⟩, ⟨l14, u14⟩, ⟨l15, u15⟩, -⟩ := b_
  obtain ⟨f0, f1, -⟩ := f_
  have w_ := d_
  subst w_
  have g := rxcLFW_9_0 hP hin I0 hinv l8 u8 l9 u9 l10 u10 l11 u11 l12 u12 l13 u13 l14 u14 l15 u15 f0 f1
  refine ⟨bx_narP_ok (l := []) g.1, bx_nfP_ok h0_ (fvs := []) (by decide +kernel) g.2.1, ?_, ?_⟩
  · show rxILFW_10 S0 ws S' (bx_val [(0, 0), (0, 0), (0, 0), (0, 0), (0, 0), (0, 0), (0, 0), (0, 0), (8, 0), (9, 0), (10, 0), (11, 0), (12, 0), (8, 0), (9, 0), (10, 0)] r' 8) (bx_val [(0, 0), (0, 0), (0, 0), (0, 0), (0, 0), (0, 0), (0, 0), (0, 0), (8, 0), (9, 0), (10, 0), (11, 0), (12, 0), (8, 0), (9, 0), (10, 0)] r' 9) (bx_val [(0, 0), (0, 0), (0, 0), (0, 0), (0, 0), (0, 0), (0, 0), (0, 0), (8, 0), (9, 0), (10, 0), (11, 0), (12, 0), (8, 0), (9, 0), (10, 0)] r' 10) (bx_val [(0, 0), (0, 0), (0, 0), (0, 0), (0, 0), (0, 0), (0, 0), (0, 0), (8, 0), (9, 0), (10, 0), (11, 0), (12, 0), (8, 0), (9, 0), (10, 0)] r' 11) (bx_val [(0, 0), (0, 0), (0, 0), (0, 0), (0, 0), (0, 0), (0, 0), (0, 0), (8, 0), (9, 0), (10, 0), (11, 0), (12, 0), (8, 0), (9, 0), (10, 0)] r' 12) (bx_val [(0, 0), (0, 0), (0, 0), (0, 0), (0, 0), (0, 0), (0, 0), (0, 0), (8, 0), (9, 0), (10, 0), (11, 0), (12, 0), (8, 0), (9, 0), (10, 0)] r' 13) (bx_val [(0, 0), (0, 0), (0, 0), (0, 0), (0, 0), (0, 0), (0, 0), (0, 0), (8, 0), (9, 0), (10, 0), (11, 0), (12, 0), (8, 0), (9, 0), (10, 0)] r' 14) (bx_val [(0, 0), (0, 0), (0, 0), (0, 0), (0, 0), (0, 0), (0, 0), (0, 0), (8, 0), (9, 0), (10, 0), (11, 0), (12, 0), (8, 0), (9, 0), (10, 0)] r' 15)
    rw [bx_val_x (n := 8) (e := (8, 0)) h0_ rfl, bx_val_x (n := 9) (e := (9, 0)) h0_ rfl, bx_val_x (n := 10) (e := (10, 0)) h0_ rfl, bx_val_x (n := 11) (e := (11, 0)) h0_ rfl, bx_val_x (n := 12) (e := (12, 0)) h0_ rfl, bx_val_x (n := 13) (e := (8, 0)) h0_ rfl, bx_val_x (n := 14) (e := (9, 0)) h0_ rfl, bx_val_x (n := 15) (e := (10, 0)) h0_ rfl]
    exact g.2.2.1
  · show rxmLFW_10 S0 ws S' (bx_val [(0, 0), (0, 0), (0, 0), (0, 0), (0, 0), (0, 0), (0, 0), (0, 0), (8, 0), (9, 0), (10, 0), (11, 0), (12, 0), (8, 0), (9, 0), (10, 0)] r' 8) (bx_val [(0, 0), (0, 0), (0, 0), (0, 0), (0, 0), (0, 0), (0, 0), (0, 0), (8, 0), (9, 0), (10, 0), (11, 0), (12, 0), (8, 0), (9, 0), (10, 0)] r' 9) (bx_val [(0, 0), (0, 0), (0, 0), (0, 0), (0, 0), (0, 0), (0, 0), (0, 0), (8, 0), (9, 0), (10, 0), (11, 0), (12, 0), (8, 0), (9, 0), (10, 0)] r' 10) (bx_val [(0, 0), (0, 0), (0, 0), (0, 0), (0, 0), (0, 0), (0, 0), (0, 0), (8, 0), (9, 0), (10, 0), (11, 0), (12, 0), (8, 0), (9, 0), (10, 0)] r' 11) (bx_val [(0, 0), (0, 0), (0, 0), (0, 0), (0, 0), (0, 0), (0, 0), (0, 0), (8, 0), (9, 0), (10, 0), (11, 0), (12, 0), (8, 0), (9, 0), (10, 0)] r' 12) (bx_val [(0, 0), (0, 0), (0, 0), (0, 0), (0, 0), (0, 0), (0, 0), (0, 0), (8, 0), (9, 0), (10, 0), (11, 0), (12, 0), (8, 0), (9, 0), (10, 0)] r' 13) (bx_val [(0, 0), (0, 0), (0, 0), (0, 0), (0, 0), (0, 0), (0, 0), (0, 0), (8, 0), (9, 0), (10, 0), (11, 0), (12, 0), (8, 0), (9, 0), (10, 0)] r' 14) (bx_val [(0, 0), (0, 0), (0, 0), (0, 0), (0, 0), (0, 0), (0, 0), (0, 0), (8, 0), (9, 0), (10, 0), (11, 0), (12, 0), (8, 0), (9, 0), (10, 0)] r' 15) < rxmLFW_9 S0 ws S' (r 8) (r 9) (r 10) (r 11) (r 12) (r 13) (r 14) (r 15)
    rw [bx_val_x (n := 8) (e := (8, 0)) h0_ rfl, bx_val_x (n := 9) (e := (9, 0)) h0_ rfl, bx_val_x (n := 10) (e := (10, 0)) h0_ rfl, bx_val_x (n := 11) (e := (11, 0)) h0_ rfl, bx_val_x (n := 12) (e := (12, 0)) h0_ rfl, bx_val_x (n := 13) (e := (8, 0)) h0_ rfl, bx_val_x (n := 14) (e := (9, 0)) h0_ rfl, bx_val_x (n := 15) (e := (10, 0)) h0_ rfl, ← hr_ 8 (by decide), ← hr_ 9 (by decide), ← hr_ 10 (by decide), ← hr_ 11 (by decide), ← hr_ 12 (by decide), ← hr_ 13 (by decide), ← hr_ 14 (by decide), ← hr_ 15 (by decide)]
    exact g.2.2.2
theorem rxcLFW_9_1 {S0 : Nat → Int → Int} {ws : List Int} {S : Nat → Int → Int} {m row1 cue n k a b go : Int} (hP : rxPLFW S0 ws) (hin : bx_same rxL (bx_mdl rxCLFW.2.2.1) S0 S) (I0 : bx_Inv rxL S) (hinv : rxILFW_9 S0 ws S m row1 cue n k a b go) (l8 : 1 ≤ m) (u8 : m ≤ 3) (l9 : 0 ≤ row1) (u9 : row1 ≤ 3) (l10 : 0 ≤ cue) (u10 : cue ≤ 5) (l11 : 1 ≤ n) (u11 : n ≤ 12) (l12 : 0 ≤ k) (u12 : k ≤ 11) (l13 : 0 ≤ a) (u13 : a ≤ 11) (l14 : 1 ≤ b) (u14 : b ≤ 3) (l15 : 1 ≤ go) (u15 : go ≤ 1) (f0 : k ≠ n + (-1)) (f1 : go ≠ 0) : ((0 ≤ k ∧ k ≤ 10) ∧ True) ∧ (True) ∧ rxILFW_12 S0 ws S m row1 cue n k ∧ rxmLFW_12 S0 ws S m row1 cue n k < rxmLFW_9 S0 ws S m row1 cue n k a b go := by
  obtain ⟨hI, hx⟩ := hinv
  obtain ⟨a_, b_, c_, d_⟩ := rxcFW_9_1 hP hin I0 hI l8 u8 l9 u9 l10 u10 l11 u11 l12 u12 l13 u13 l14 u14 l15 u15 f0 f1
  exact ⟨a_, b_, ⟨c_, (by
      exact ⟨hx.1, fun z hz => (hx.2 z hz).1 (by omega)⟩)⟩, d_⟩
theorem rxgLFW_9_1 {X : (Nat → Int → Int) → Prop} {S0 : Nat → Int → Int} {ws : List Int} (hP : rxPLFW S0 ws) : bx_obC rxL X S0 rxCLFW.2.2.1 (rxILFW S0 ws) (rxmLFW S0 ws) 9 rxzLFW_9 rxoLFW_9_1 := by
  intro S S' r r' hinv hX hin hsm_ hseg
  obtain ⟨I0, I1, h0_, hr_, b_, f_, d_⟩ := bx_cl (evs := []) (fvs := [(3, (12, 0), (11, (-1)), (0, 0)), (3, (15, 0), (0, 0), (0, 0))]) hseg (by decide +kernel) (by decide +kernel)
  have hinv : rxILFW_9 S0 ws S (r 8) (r 9) (r 10) (r 11) (r 12) (r 13) (r 14) (r 15) := hinv
  rw [← hr_ 8 (by decide), ← hr_ 9 (by decide), ← hr_ 10 (by decide), ← hr_ 11 (by decide), ← hr_ 12 (by decide), ← hr_ 13 (by decide), ← hr_ 14 (by decide), ← hr_ 15 (by decide)] at hinv
  obtain ⟨⟨l8, u8⟩, ⟨l9, u9⟩, ⟨l10, u10⟩, ⟨l11, u11⟩, ⟨l12, u12⟩, ⟨l13, u13⟩, ⟨l14, u14⟩, ⟨l15, u15⟩, -⟩ := b_
  obtain ⟨f0, f1, -⟩ := f_
  have w_ := d_
  subst w_
  have g := rxcLFW_9_1 hP hin I0 hinv l8 u8 l9 u9 l10 u10 l11 u11 l12 u12 l13 u13 l14 u14 l15 u15 f0 f1
  refine ⟨bx_narP_ok (l := [(12, 0, 10)]) g.1, bx_nfP_ok h0_ (fvs := []) (by decide +kernel) g.2.1, ?_, ?_⟩
  · show rxILFW_12 S0 ws S' (bx_val [(0, 0), (0, 0), (0, 0), (0, 0), (0, 0), (0, 0), (0, 0), (0, 0), (8, 0), (9, 0), (10, 0), (11, 0), (12, 0)] r' 8) (bx_val [(0, 0), (0, 0), (0, 0), (0, 0), (0, 0), (0, 0), (0, 0), (0, 0), (8, 0), (9, 0), (10, 0), (11, 0), (12, 0)] r' 9) (bx_val [(0, 0), (0, 0), (0, 0), (0, 0), (0, 0), (0, 0), (0, 0), (0, 0), (8, 0), (9, 0), (10, 0), (11, 0), (12, 0)] r' 10) (bx_val [(0, 0), (0, 0), (0, 0), (0, 0), (0, 0), (0, 0), (0, 0), (0, 0), (8, 0), (9, 0), (10, 0), (11, 0), (12, 0)] r' 11) (bx_val [(0, 0), (0, 0), (0, 0), (0, 0), (0, 0), (0, 0), (0, 0), (0, 0), (8, 0), (9, 0), (10, 0), (11, 0), (12, 0)] r' 12)
    rw [bx_val_x (n := 8) (e := (8, 0)) h0_ rfl, bx_val_x (n := 9) (e := (9, 0)) h0_ rfl, bx_val_x (n := 10) (e := (10, 0)) h0_ rfl, bx_val_x (n := 11) (e := (11, 0)) h0_ rfl, bx_val_x (n := 12) (e := (12, 0)) h0_ rfl]
    exact g.2.2.1
  · show rxmLFW_12 S0 ws S' (bx_val [(0, 0), (0, 0), (0, 0), (0, 0), (0, 0), (0, 0), (0, 0), (0, 0), (8, 0), (9, 0), (10, 0), (11, 0), (12, 0)] r' 8) (bx_val [(0, 0), (0, 0), (0, 0), (0, 0), (0, 0), (0, 0), (0, 0), (0, 0), (8, 0), (9, 0), (10, 0), (11, 0), (12, 0)] r' 9) (bx_val [(0, 0), (0, 0), (0, 0), (0, 0), (0, 0), (0, 0), (0, 0), (0, 0), (8, 0), (9, 0), (10, 0), (11, 0), (12, 0)] r' 10) (bx_val [(0, 0), (0, 0), (0, 0), (0, 0), (0, 0), (0, 0), (0, 0), (0, 0), (8, 0), (9, 0), (10, 0), (11, 0), (12, 0)] r' 11) (bx_val [(0, 0), (0, 0), (0, 0), (0, 0), (0, 0), (0, 0), (0, 0), (0, 0), (8, 0), (9, 0), (10, 0), (11, 0), (12, 0)] r' 12) < rxmLFW_9 S0 ws S' (r 8) (r 9) (r 10) (r 11) (r 12) (r 13) (r 14) (r 15)
    rw [bx_val_x (n := 8) (e := (8, 0)) h0_ rfl, bx_val_x (n := 9) (e := (9, 0)) h0_ rfl, bx_val_x (n := 10) (e := (10, 0)) h0_ rfl, bx_val_x (n := 11) (e := (11, 0)) h0_ rfl, bx_val_x (n := 12) (e := (12, 0)) h0_ rfl, ← hr_ 8 (by decide), ← hr_ 9 (by decide), ← hr_ 10 (by decide), ← hr_ 11 (by decide), ← hr_ 12 (by decide), ← hr_ 13 (by decide), ← hr_ 14 (by decide), ← hr_ 15 (by decide)]
    exact g.2.2.2
theorem rxcLFW_9_2 {S0 : Nat → Int → Int} {ws : List Int} {S : Nat → Int → Int} {m row1 cue n k a b go : Int} (hP : rxPLFW S0 ws) (hin : bx_same rxL (bx_mdl rxCLFW.2.2.1) S0 S) (I0 : bx_Inv rxL S) (hinv : rxILFW_9 S0 ws S m row1 cue n k a b go) (l8 : 1 ≤ m) (u8 : m ≤ 3) (l9 : 0 ≤ row1) (u9 : row1 ≤ 3) (l10 : 0 ≤ cue) (u10 : cue ≤ 5) (l11 : 1 ≤ n) (u11 : n ≤ 12) (l12 : 0 ≤ k) (u12 : k ≤ 11) (l13 : 0 ≤ a) (u13 : a ≤ 11) (l14 : 1 ≤ b) (u14 : b ≤ 3) (l15 : 0 ≤ go) (u15 : go ≤ 0) : (True) ∧ (True) ∧ rxILFW_5 S0 ws S m row1 cue n (k + (-1)) ∧ rxmLFW_5 S0 ws S m row1 cue n (k + (-1)) < rxmLFW_9 S0 ws S m row1 cue n k a b go := by
  obtain ⟨hI, hx⟩ := hinv
  obtain ⟨a_, b_, c_, d_⟩ := rxcFW_9_2 hP hin I0 hI l8 u8 l9 u9 l10 u10 l11 u11 l12 u12 l13 u13 l14 u14 l15 u15
  exact ⟨a_, b_, ⟨c_, (by
      refine ⟨hx.1, fun z hz => ⟨fun c => ((hx.2 z hz).2 (by omega)).1 (by omega), fun c => ?_⟩⟩
      have q := ((hx.2 z hz).2 (by omega)).2 (by omega)
      rw [show k + (-1) = k - 1 by omega]
      exact q)⟩, d_⟩
theorem rxgLFW_9_2 {X : (Nat → Int → Int) → Prop} {S0 : Nat → Int → Int} {ws : List Int} (hP : rxPLFW S0 ws) : bx_obC rxL X S0 rxCLFW.2.2.1 (rxILFW S0 ws) (rxmLFW S0 ws) 9 rxzLFW_9 rxoLFW_9_2 := by
  intro S S' r r' hinv hX hin hsm_ hseg
  obtain ⟨I0, I1, h0_, hr_, b_, f_, d_⟩ := bx_cl (evs := []) (fvs := []) hseg (by decide +kernel) (by decide +kernel)
  have hinv : rxILFW_9 S0 ws S (r 8) (r 9) (r 10) (r 11) (r 12) (r 13) (r 14) (r 15) := hinv
  rw [← hr_ 8 (by decide), ← hr_ 9 (by decide), ← hr_ 10 (by decide), ← hr_ 11 (by decide), ← hr_ 12 (by decide), ← hr_ 13 (by decide), ← hr_ 14 (by decide), ← hr_ 15 (by decide)] at hinv
  obtain ⟨⟨l8, u8⟩, ⟨l9, u9⟩, ⟨l10, u10⟩, ⟨l11, u11⟩, ⟨l12, u12⟩, ⟨l13, u13⟩, ⟨l14, u14⟩, ⟨l15, u15⟩, -⟩ := b_
  have w_ := d_
  subst w_
  have g := rxcLFW_9_2 hP hin I0 hinv l8 u8 l9 u9 l10 u10 l11 u11 l12 u12 l13 u13 l14 u14 l15 u15
  refine ⟨bx_narP_ok (l := []) g.1, bx_nfP_ok h0_ (fvs := []) (by decide +kernel) g.2.1, ?_, ?_⟩
  · show rxILFW_5 S0 ws S' (bx_val [(0, 0), (0, 0), (0, 0), (0, 0), (0, 0), (0, 0), (0, 0), (0, 0), (8, 0), (9, 0), (10, 0), (11, 0), (12, (-1))] r' 8) (bx_val [(0, 0), (0, 0), (0, 0), (0, 0), (0, 0), (0, 0), (0, 0), (0, 0), (8, 0), (9, 0), (10, 0), (11, 0), (12, (-1))] r' 9) (bx_val [(0, 0), (0, 0), (0, 0), (0, 0), (0, 0), (0, 0), (0, 0), (0, 0), (8, 0), (9, 0), (10, 0), (11, 0), (12, (-1))] r' 10) (bx_val [(0, 0), (0, 0), (0, 0), (0, 0), (0, 0), (0, 0), (0, 0), (0, 0), (8, 0), (9, 0), (10, 0), (11, 0), (12, (-1))] r' 11) (bx_val [(0, 0), (0, 0), (0, 0), (0, 0), (0, 0), (0, 0), (0, 0), (0, 0), (8, 0), (9, 0), (10, 0), (11, 0), (12, (-1))] r' 12)
    rw [bx_val_x (n := 8) (e := (8, 0)) h0_ rfl, bx_val_x (n := 9) (e := (9, 0)) h0_ rfl, bx_val_x (n := 10) (e := (10, 0)) h0_ rfl, bx_val_x (n := 11) (e := (11, 0)) h0_ rfl, bx_val_x (n := 12) (e := (12, (-1))) h0_ rfl]
    exact g.2.2.1
  · show rxmLFW_5 S0 ws S' (bx_val [(0, 0), (0, 0), (0, 0), (0, 0), (0, 0), (0, 0), (0, 0), (0, 0), (8, 0), (9, 0), (10, 0), (11, 0), (12, (-1))] r' 8) (bx_val [(0, 0), (0, 0), (0, 0), (0, 0), (0, 0), (0, 0), (0, 0), (0, 0), (8, 0), (9, 0), (10, 0), (11, 0), (12, (-1))] r' 9) (bx_val [(0, 0), (0, 0), (0, 0), (0, 0), (0, 0), (0, 0), (0, 0), (0, 0), (8, 0), (9, 0), (10, 0), (11, 0), (12, (-1))] r' 10) (bx_val [(0, 0), (0, 0), (0, 0), (0, 0), (0, 0), (0, 0), (0, 0), (0, 0), (8, 0), (9, 0), (10, 0), (11, 0), (12, (-1))] r' 11) (bx_val [(0, 0), (0, 0), (0, 0), (0, 0), (0, 0), (0, 0), (0, 0), (0, 0), (8, 0), (9, 0), (10, 0), (11, 0), (12, (-1))] r' 12) < rxmLFW_9 S0 ws S' (r 8) (r 9) (r 10) (r 11) (r 12) (r 13) (r 14) (r 15)
    rw [bx_val_x (n := 8) (e := (8, 0)) h0_ rfl, bx_val_x (n := 9) (e := (9, 0)) h0_ rfl, bx_val_x (n := 10) (e := (10, 0)) h0_ rfl, bx_val_x (n := 11) (e := (11, 0)) h0_ rfl, bx_val_x (n := 12) (e := (12, (-1))) h0_ rfl, ← hr_ 8 (by decide), ← hr_ 9 (by decide), ← hr_ 10 (by decide), ← hr_ 11 (by decide), ← hr_ 12 (by decide), ← hr_ 13 (by decide), ← hr_ 14 (by decide), ← hr_ 15 (by decide)]
    exact g.2.2.2
theorem rxcLFW_11_0 {S0 : Nat → Int → Int} {ws : List Int} {S : Nat → Int → Int} {m row1 cue n k a b c : Int} (hP : rxPLFW S0 ws) (hin : bx_same rxL (bx_mdl rxCLFW.2.2.1) S0 S) (I0 : bx_Inv rxL S) (hinv : rxILFW_11 S0 ws S m row1 cue n k a b c) (l8 : 1 ≤ m) (u8 : m ≤ 3) (l9 : 0 ≤ row1) (u9 : row1 ≤ 3) (l10 : 0 ≤ cue) (u10 : cue ≤ 5) (l11 : 1 ≤ n) (u11 : n ≤ 12) (l12 : 0 ≤ k) (u12 : k ≤ 11) (l13 : 1 ≤ a) (u13 : a ≤ 3) (l14 : 0 ≤ b) (u14 : b ≤ 3) (l15 : 0 ≤ c) (u15 : c ≤ 5) : (True) ∧ (True) ∧ rxILFW_5 S0 ws S m row1 cue n k ∧ rxmLFW_5 S0 ws S m row1 cue n k < rxmLFW_11 S0 ws S m row1 cue n k a b c := by
  obtain ⟨hI, hx⟩ := hinv
  obtain ⟨a_, b_, c_, d_⟩ := rxcFW_11_0 hP hin I0 hI l8 u8 l9 u9 l10 u10 l11 u11 l12 u12 l13 u13 l14 u14 l15 u15
  exact ⟨a_, b_, ⟨c_, (by
      exact ⟨hx.1, fun z hz => ⟨fun c => by omega, fun _ => hx.2 z hz⟩⟩)⟩, d_⟩
theorem rxgLFW_11_0 {X : (Nat → Int → Int) → Prop} {S0 : Nat → Int → Int} {ws : List Int} (hP : rxPLFW S0 ws) : bx_obC rxL X S0 rxCLFW.2.2.1 (rxILFW S0 ws) (rxmLFW S0 ws) 11 rxzLFW_11 rxoLFW_11_0 := by
  intro S S' r r' hinv hX hin hsm_ hseg
  obtain ⟨I0, I1, h0_, hr_, b_, f_, d_⟩ := bx_cl (evs := []) (fvs := []) hseg (by decide +kernel) (by decide +kernel)
  have hinv : rxILFW_11 S0 ws S (r 8) (r 9) (r 10) (r 11) (r 12) (r 13) (r 14) (r 15) := hinv
  rw [← hr_ 8 (by decide), ← hr_ 9 (by decide), ← hr_ 10 (by decide), ← hr_ 11 (by decide), ← hr_ 12 (by decide), ← hr_ 13 (by decide), ← hr_ 14 (by decide), ← hr_ 15 (by decide)] at hinv
  obtain ⟨⟨l8, u8⟩, ⟨l9, u9⟩, ⟨l10, u10⟩, ⟨l11, u11⟩, ⟨l12, u12⟩, ⟨l13, u13⟩, ⟨l14, u14⟩, ⟨l15, u15⟩, -⟩ := b_
  have w_ := d_
  subst w_
  have g := rxcLFW_11_0 hP hin I0 hinv l8 u8 l9 u9 l10 u10 l11 u11 l12 u12 l13 u13 l14 u14 l15 u15
  refine ⟨bx_narP_ok (l := []) g.1, bx_nfP_ok h0_ (fvs := []) (by decide +kernel) g.2.1, ?_, ?_⟩
  · show rxILFW_5 S0 ws S' (bx_val [(0, 0), (0, 0), (0, 0), (0, 0), (0, 0), (0, 0), (0, 0), (0, 0), (8, 0), (9, 0), (10, 0), (11, 0), (12, 0)] r' 8) (bx_val [(0, 0), (0, 0), (0, 0), (0, 0), (0, 0), (0, 0), (0, 0), (0, 0), (8, 0), (9, 0), (10, 0), (11, 0), (12, 0)] r' 9) (bx_val [(0, 0), (0, 0), (0, 0), (0, 0), (0, 0), (0, 0), (0, 0), (0, 0), (8, 0), (9, 0), (10, 0), (11, 0), (12, 0)] r' 10) (bx_val [(0, 0), (0, 0), (0, 0), (0, 0), (0, 0), (0, 0), (0, 0), (0, 0), (8, 0), (9, 0), (10, 0), (11, 0), (12, 0)] r' 11) (bx_val [(0, 0), (0, 0), (0, 0), (0, 0), (0, 0), (0, 0), (0, 0), (0, 0), (8, 0), (9, 0), (10, 0), (11, 0), (12, 0)] r' 12)
    rw [bx_val_x (n := 8) (e := (8, 0)) h0_ rfl, bx_val_x (n := 9) (e := (9, 0)) h0_ rfl, bx_val_x (n := 10) (e := (10, 0)) h0_ rfl, bx_val_x (n := 11) (e := (11, 0)) h0_ rfl, bx_val_x (n := 12) (e := (12, 0)) h0_ rfl]
    exact g.2.2.1
  · show rxmLFW_5 S0 ws S' (bx_val [(0, 0), (0, 0), (0, 0), (0, 0), (0, 0), (0, 0), (0, 0), (0, 0), (8, 0), (9, 0), (10, 0), (11, 0), (12, 0)] r' 8) (bx_val [(0, 0), (0, 0), (0, 0), (0, 0), (0, 0), (0, 0), (0, 0), (0, 0), (8, 0), (9, 0), (10, 0), (11, 0), (12, 0)] r' 9) (bx_val [(0, 0), (0, 0), (0, 0), (0, 0), (0, 0), (0, 0), (0, 0), (0, 0), (8, 0), (9, 0), (10, 0), (11, 0), (12, 0)] r' 10) (bx_val [(0, 0), (0, 0), (0, 0), (0, 0), (0, 0), (0, 0), (0, 0), (0, 0), (8, 0), (9, 0), (10, 0), (11, 0), (12, 0)] r' 11) (bx_val [(0, 0), (0, 0), (0, 0), (0, 0), (0, 0), (0, 0), (0, 0), (0, 0), (8, 0), (9, 0), (10, 0), (11, 0), (12, 0)] r' 12) < rxmLFW_11 S0 ws S' (r 8) (r 9) (r 10) (r 11) (r 12) (r 13) (r 14) (r 15)
    rw [bx_val_x (n := 8) (e := (8, 0)) h0_ rfl, bx_val_x (n := 9) (e := (9, 0)) h0_ rfl, bx_val_x (n := 10) (e := (10, 0)) h0_ rfl, bx_val_x (n := 11) (e := (11, 0)) h0_ rfl, bx_val_x (n := 12) (e := (12, 0)) h0_ rfl, ← hr_ 8 (by decide), ← hr_ 9 (by decide), ← hr_ 10 (by decide), ← hr_ 11 (by decide), ← hr_ 12 (by decide), ← hr_ 13 (by decide), ← hr_ 14 (by decide), ← hr_ 15 (by decide)]
    exact g.2.2.2
theorem rxcLFW_12_0 {S0 : Nat → Int → Int} {ws : List Int} {S : Nat → Int → Int} {m row1 cue n k : Int} (hP : rxPLFW S0 ws) (hin : bx_same rxL (bx_mdl rxCLFW.2.2.1) S0 S) (I0 : bx_Inv rxL S) (hinv : rxILFW_12 S0 ws S m row1 cue n k) (l8 : 1 ≤ m) (u8 : m ≤ 3) (l9 : 0 ≤ row1) (u9 : row1 ≤ 3) (l10 : 0 ≤ cue) (u10 : cue ≤ 5) (l11 : 1 ≤ n) (u11 : n ≤ 12) (l12 : 0 ≤ k) (u12 : k ≤ 10) : (True) ∧ (True) ∧ rxILFW_5 S0 ws (bx_up S 519 (k + 1) ((-1))) m row1 cue n (k + 1) ∧ rxmLFW_5 S0 ws (bx_up S 519 (k + 1) ((-1))) m row1 cue n (k + 1) < rxmLFW_12 S0 ws S m row1 cue n k := by
  obtain ⟨hI, hx⟩ := hinv
  obtain ⟨a_, b_, c_, d_⟩ := rxcFW_12_0 hP hin I0 hI l8 u8 l9 u9 l10 u10 l11 u11 l12 u12
  exact ⟨a_, b_, ⟨c_, (by
      have hn := hI.2.2.2.2.1
      have hk := hI.1
      have e6 : S 482 6 = S0 482 6 := rx_sameR hin (tc := 0) (n := 6180) (g := 63) rfl (by omega) (by decide +kernel) (by decide +kernel) (by omega) (by omega)
      have h6 := rxN6 I0
      exact ⟨hx.1, fun z hz => ⟨fun c => by omega, fun _ => ldPu (by omega) (by show k + 1 < S0 482 6; omega) (by show S0 482 6 ≤ 12; omega) (hx.2 z hz)⟩⟩)⟩, d_⟩
theorem rxgLFW_12_0 {X : (Nat → Int → Int) → Prop} {S0 : Nat → Int → Int} {ws : List Int} (hP : rxPLFW S0 ws) : bx_obC rxL X S0 rxCLFW.2.2.1 (rxILFW S0 ws) (rxmLFW S0 ws) 12 rxzLFW_12 rxoLFW_12_0 := by
  intro S S' r r' hinv hX hin hsm_ hseg
  obtain ⟨I0, I1, h0_, hr_, b_, f_, d_⟩ := bx_cl (evs := [(1, (0, 519), (12, 1), .inr (0, (0, (-1))))]) (fvs := []) hseg (by decide +kernel) (by decide +kernel)
  have hinv : rxILFW_12 S0 ws S (r 8) (r 9) (r 10) (r 11) (r 12) := hinv
  rw [← hr_ 8 (by decide), ← hr_ 9 (by decide), ← hr_ 10 (by decide), ← hr_ 11 (by decide), ← hr_ 12 (by decide)] at hinv
  obtain ⟨⟨l8, u8⟩, ⟨l9, u9⟩, ⟨l10, u10⟩, ⟨l11, u11⟩, ⟨l12, u12⟩, -⟩ := b_
  obtain ⟨T0, w_, w0⟩ := d_
  subst w0
  subst w_
  have g := rxcLFW_12_0 hP hin I0 hinv l8 u8 l9 u9 l10 u10 l11 u11 l12 u12
  refine ⟨bx_narP_ok (l := []) g.1, bx_nfP_ok h0_ (fvs := []) (by decide +kernel) g.2.1, ?_, ?_⟩
  · show rxILFW_5 S0 ws (bx_up T0 519 (r' 12 + 1) ((-1))) (bx_val [(0, 0), (0, 0), (0, 0), (0, 0), (0, 0), (0, 0), (0, 0), (0, 0), (8, 0), (9, 0), (10, 0), (11, 0), (12, 1)] r' 8) (bx_val [(0, 0), (0, 0), (0, 0), (0, 0), (0, 0), (0, 0), (0, 0), (0, 0), (8, 0), (9, 0), (10, 0), (11, 0), (12, 1)] r' 9) (bx_val [(0, 0), (0, 0), (0, 0), (0, 0), (0, 0), (0, 0), (0, 0), (0, 0), (8, 0), (9, 0), (10, 0), (11, 0), (12, 1)] r' 10) (bx_val [(0, 0), (0, 0), (0, 0), (0, 0), (0, 0), (0, 0), (0, 0), (0, 0), (8, 0), (9, 0), (10, 0), (11, 0), (12, 1)] r' 11) (bx_val [(0, 0), (0, 0), (0, 0), (0, 0), (0, 0), (0, 0), (0, 0), (0, 0), (8, 0), (9, 0), (10, 0), (11, 0), (12, 1)] r' 12)
    rw [bx_val_x (n := 8) (e := (8, 0)) h0_ rfl, bx_val_x (n := 9) (e := (9, 0)) h0_ rfl, bx_val_x (n := 10) (e := (10, 0)) h0_ rfl, bx_val_x (n := 11) (e := (11, 0)) h0_ rfl, bx_val_x (n := 12) (e := (12, 1)) h0_ rfl]
    exact g.2.2.1
  · show rxmLFW_5 S0 ws (bx_up T0 519 (r' 12 + 1) ((-1))) (bx_val [(0, 0), (0, 0), (0, 0), (0, 0), (0, 0), (0, 0), (0, 0), (0, 0), (8, 0), (9, 0), (10, 0), (11, 0), (12, 1)] r' 8) (bx_val [(0, 0), (0, 0), (0, 0), (0, 0), (0, 0), (0, 0), (0, 0), (0, 0), (8, 0), (9, 0), (10, 0), (11, 0), (12, 1)] r' 9) (bx_val [(0, 0), (0, 0), (0, 0), (0, 0), (0, 0), (0, 0), (0, 0), (0, 0), (8, 0), (9, 0), (10, 0), (11, 0), (12, 1)] r' 10) (bx_val [(0, 0), (0, 0), (0, 0), (0, 0), (0, 0), (0, 0), (0, 0), (0, 0), (8, 0), (9, 0), (10, 0), (11, 0), (12, 1)] r' 11) (bx_val [(0, 0), (0, 0), (0, 0), (0, 0), (0, 0), (0, 0), (0, 0), (0, 0), (8, 0), (9, 0), (10, 0), (11, 0), (12, 1)] r' 12) < rxmLFW_12 S0 ws T0 (r 8) (r 9) (r 10) (r 11) (r 12)
    rw [bx_val_x (n := 8) (e := (8, 0)) h0_ rfl, bx_val_x (n := 9) (e := (9, 0)) h0_ rfl, bx_val_x (n := 10) (e := (10, 0)) h0_ rfl, bx_val_x (n := 11) (e := (11, 0)) h0_ rfl, bx_val_x (n := 12) (e := (12, 1)) h0_ rfl, ← hr_ 8 (by decide), ← hr_ 9 (by decide), ← hr_ 10 (by decide), ← hr_ 11 (by decide), ← hr_ 12 (by decide)]
    exact g.2.2.2
theorem rxgCLFW {X : (Nat → Int → Int) → Prop} {S0 : Nat → Int → Int} {ws : List Int} (hP : rxPLFW S0 ws) : bx_allI (fun i q => rxULFW q = true ∨ bx_allP (fun o => bx_obC rxL X S0 rxCLFW.2.2.1 (rxILFW S0 ws) (rxmLFW S0 ws) i q.1 o) q.2.1) 0 rxYLFW := ⟨Or.inr ⟨rxgLFW_0_0 hP, trivial⟩, Or.inr ⟨rxgLFW_1_0 hP, rxgLFW_1_1 hP, trivial⟩, Or.inr ⟨rxgLFW_2_0 hP, rxgLFW_2_1 hP, rxgLFW_2_2 hP, trivial⟩, Or.inl rfl, Or.inr trivial, Or.inr ⟨rxgLFW_5_0 hP, trivial⟩, Or.inl rfl, Or.inr ⟨rxgLFW_7_0 hP, trivial⟩, Or.inl rfl, Or.inr ⟨rxgLFW_9_0 hP, rxgLFW_9_1 hP, rxgLFW_9_2 hP, trivial⟩, Or.inl rfl, Or.inr ⟨rxgLFW_11_0 hP, trivial⟩, Or.inr ⟨rxgLFW_12_0 hP, trivial⟩, trivial⟩
theorem rxgELFW {X : (Nat → Int → Int) → Prop} {S0 : Nat → Int → Int} {ws : List Int} (hP : rxPLFW S0 ws) : bx_allI (fun i q => rxULFW q = true ∨ bx_allP (fun E => bx_obE rxL X S0 rxCLFW.2.2.1 (rxILFW S0 ws) (rxPSLFW S0 ws) i q.1 E) q.2.2) 0 rxYLFW := ⟨Or.inr trivial, Or.inr trivial, Or.inr trivial, Or.inl rfl, Or.inr ⟨rxfLFW_4_0 hP, trivial⟩, Or.inr ⟨rxfLFW_5_0 hP, trivial⟩, Or.inl rfl, Or.inr trivial, Or.inl rfl, Or.inr trivial, Or.inl rfl, Or.inr trivial, Or.inr trivial, trivial⟩
theorem rxuLFW {PX : State → Prop} {Dg : va_G} {A : Nat → Prop} {ad xa : Nat → Nat} {l : Launch} {X : (Nat → Int → Int) → Prop} (hPX : rx_PXOK rxNW A PX) (hX : ∀ S S1 : Nat → Int → Int, X S → bx_same rxL (bx_mdl rxCLFW.2.2.1) S S1 → X S1) (hQLME : bx_ConP rxG rxNW rxAO PX Dg rxL X vwCl A ad l rxM319 rxCLME rxPLME rxPSLME) (hQLTB : bx_ConP rxG rxNW rxAO PX Dg rxL X vwCl A ad l rxM320 rxCLTB rxPLTB rxPSLTB) (hQLGO : bx_ConP rxG rxNW rxAO PX Dg rxL X vwCl A ad l rxM321 rxCLGO rxPLGO rxPSLGO) {S0 : Nat → Int → Int} {ws : List Int} (hP : rxPLFW S0 ws) : ∀ (i : Nat) (q : bx_HE), rxYLFW[i]? = some q → rxULFW q = true → ∀ {p : Program} {e : Env} {R : Room} {s : State} {m : MethodId} {args : Array Value} {below : List Frame} {meth : Method} {c : Code} {Q : State → Prop} {H0 : Heap}, rx_Fr rxG rxNW rxAO PX p s m args meth c rxM323 → (∀ q, H0.size ≤ q → A q) → H0 = s.heap → rxM323.2.2.2.2.2.2.1 ≤ R.cells → rxM323.2.2.2.2.2.2.2 ≤ R.slots → rxCLFW.2.2.2.1 ≤ R.frames → rxCLFW.2.2.2.1 * 40 ≤ R.locals → bx_Step p l e R s m args below meth c Q Dg rxL X vwCl A xa H0 ad rxM323 rxYLFW (rxILFW S0 ws) (rxmLFW S0 ws) S0 rxCLFW.2.2.1 i q := by
  intro i q hq hus p e R s m args below meth c Q H0 hF hA hH0 hmc hms hd hdl
  match i, hq with
  | 0, hq =>
    cases hq
    exact absurd (show false = true from hus) Bool.false_ne_true
  | 1, hq =>
    cases hq
    exact absurd (show false = true from hus) Bool.false_ne_true
  | 2, hq =>
    cases hq
    exact absurd (show false = true from hus) Bool.false_ne_true
  | 3, hq =>
    cases hq
    exact rx_stepC (ins := .invokevirtual 586) (len := 3) (i' := 4) (M' := rxM319) (d := rxCLFW.2.2.2.1) (as := [.inr (3, (0, 480)), .inr (0, (12, 0)), .inr (0, (13, 0)), .inr (0, (14, 0))]) (t := []) (ct := rxCLME) hPX hF rfl hA hH0 hmc hms hd hdl (by decide +kernel) rfl rfl (by decide +kernel) (by decide +kernel) hQLME (by decide +kernel) rfl (Or.inl ⟨rfl, rfl, rfl⟩) (rxsLFW_3 hP)
  | 4, hq =>
    cases hq
    exact absurd (show false = true from hus) Bool.false_ne_true
  | 5, hq =>
    cases hq
    exact absurd (show false = true from hus) Bool.false_ne_true
  | 6, hq =>
    cases hq
    exact rx_stepC (ins := .invokevirtual 589) (len := 3) (i' := 7) (M' := rxM320) (d := rxCLFW.2.2.2.1) (as := [.inr (3, (0, 480)), .inr (0, (13, 0))]) (t := []) (ct := rxCLTB) hPX hF rfl hA hH0 hmc hms hd hdl (by decide +kernel) rfl rfl (by decide +kernel) (by decide +kernel) hQLTB (by decide +kernel) rfl (Or.inl ⟨rfl, rfl, rfl⟩) (rxsLFW_6 hP)
  | 7, hq =>
    cases hq
    exact absurd (show false = true from hus) Bool.false_ne_true
  | 8, hq =>
    cases hq
    exact rx_stepC (ins := .invokevirtual 592) (len := 3) (i' := 9) (M' := rxM321) (d := rxCLFW.2.2.2.1) (as := [.inr (3, (0, 480)), .inr (0, (13, 0)), .inr (0, (14, 0))]) (t := []) (ct := rxCLGO) hPX hF rfl hA hH0 hmc hms hd hdl (by decide +kernel) rfl rfl (by decide +kernel) (by decide +kernel) hQLGO (by decide +kernel) rfl (Or.inr ⟨_, _, _, 1, rfl, rfl, by omega, rfl, rfl, rfl⟩) (rxsLFW_8 hP)
  | 9, hq =>
    cases hq
    exact absurd (show false = true from hus) Bool.false_ne_true
  | 10, hq =>
    cases hq
    exact rx_stepC (ins := .invokevirtual 586) (len := 3) (i' := 11) (M' := rxM319) (d := rxCLFW.2.2.2.1) (as := [.inr (3, (0, 480)), .inr (0, (13, 0)), .inr (0, (14, 0)), .inr (0, (15, 0))]) (t := []) (ct := rxCLME) hPX hF rfl hA hH0 hmc hms hd hdl (by decide +kernel) rfl rfl (by decide +kernel) (by decide +kernel) hQLME (by decide +kernel) rfl (Or.inl ⟨rfl, rfl, rfl⟩) (rxsLFW_10 hP)
  | 11, hq =>
    cases hq
    exact absurd (show false = true from hus) Bool.false_ne_true
  | 12, hq =>
    cases hq
    exact absurd (show false = true from hus) Bool.false_ne_true
  | n + 13, hq => cases hq
theorem rxQLFW {PX : State → Prop} {Dg : va_G} {A : Nat → Prop} {ad xa : Nat → Nat} {l : Launch} {X : (Nat → Int → Int) → Prop} (hPX : rx_PXOK rxNW A PX) (hsl : ∀ s : State, PX s → ∀ o idx n : Nat, rxSl o idx = some n → ∃ tx : String, vk_R (rxNm o) idx tx (ad n) s)
    (hX : ∀ S S' : Nat → Int → Int, X S → bx_same rxL (bx_mdl rxCLFW.2.2.1) S S' → X S')
    (ih : ∀ (j2 : Nat) (ct2 : bx_Ct) (M2 : rx_Mt), ct2 ∈ rxCnE j2 → ct2.2.2.2.1 + 1 ≤ rxCLFW.2.2.2.1 → rxT.2.2.2.2.2 j2 = some M2 → bx_Con rxG rxNW rxAO PX Dg rxL X vwCl A ad l M2 ct2) (hQLME : bx_ConP rxG rxNW rxAO PX Dg rxL X vwCl A ad l rxM319 rxCLME rxPLME rxPSLME) (hQLTB : bx_ConP rxG rxNW rxAO PX Dg rxL X vwCl A ad l rxM320 rxCLTB rxPLTB rxPSLTB) (hQLGO : bx_ConP rxG rxNW rxAO PX Dg rxL X vwCl A ad l rxM321 rxCLGO rxPLGO rxPSLGO) : bx_ConP rxG rxNW rxAO PX Dg rxL X vwCl A ad l rxM323 rxCLFW rxPLFW rxPSLFW :=
  rxQof (xa := xa) (Cn := rxCnE) (f := 30000) (j := 323) (tab := rxYLFW) (us := rxULFW) hPX hsl hX ih rfl rxYcLFW rxILFW rxmLFW
    (fun S0 ws r I0 I ht0 ht as he he1 hX0 hI0 hP hs ha => by
      have e := he.symm.trans (show bx_ent0 rxNP rxCLFW.1 bx_I0 [] = some ([(0, 0), (0, 0), (0, 0), (0, 0), (0, 0), (0, 0), (0, 0), (0, 0), (1, 3), (0, 3), (0, 5)], [], [.inr (3, (0, 480)), .inr (0, (8, 0)), .inr (0, (9, 0)), .inr (0, (10, 0))]) from rfl)
      cases e
      subst ha
      have h0 : r 0 = 0 := hs.1
      show rxILFW_0 S0 _ S0 (r 8) (r 9) (r 10)
      refine ⟨⟨rfl, ?_⟩, trivial⟩
      simp only [List.map_cons, List.map_nil, bx_xv_ok h0]
      rfl)
    (fun S0 ws hP => rxuLFW (xa := xa) hPX hX hQLME hQLTB hQLGO hP) (fun S0 ws hP => rxgCLFW hP) (fun S0 ws hP => rxgELFW hP)
