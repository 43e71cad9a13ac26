/-! WHAT THE DEVELOPERS TELL: an expression's code in a program's rows -/
def rkPg : List Nat := (List.range 6).map (fun k => 77 + 10 * k) ++ ((List.range 6).map (fun k => 214 + 10 * k) ++ ((List.range 6).map (fun k => 350 + 10 * k) ++ [427]))
def tqOp (S : Nat → Int → Int) (pg at_ : Int) : Int := if S (pg + 1).toNat at_ = 1 then 0 else if S (pg + 1).toNat at_ = 2 then (if 0 ≤ S (pg + 2).toNat at_ ∧ S (pg + 2).toNat at_ ≤ 7 then S (pg + 2).toNat at_ + 1 else -1) else if S (pg + 1).toNat at_ ≤ 5 then S (pg + 1).toNat at_ + 25 else S (pg + 1).toNat at_ + 14
def tqCd (S : Nat → Int → Int) (pg first : Int) (d : rkC) : Prop := 0 ≤ first ∧ first + rkM d < S pg.toNat 0 ∧ S (pg + 1).toNat (first + rkM d) = 0 ∧ ∀ i : Int, 0 ≤ i → i < rkM d → tqOp S pg (first + i) = rkFo d i ∧ (rkFo d i = 0 ∨ rkFo d i = 29 ∨ rkFo d i = 30 → S (pg + 2).toNat (first + i) = rkAi first (rkFo d i) (rkFa d i)) ∧ S (pg + 1).toNat (first + i) ≠ 0
def tqHy (S : Nat → Int → Int) (vs : Int → Int) (pg first : Int) (d : rkC) (b : Bool) : Prop := tqCd S pg first d ∧ rkWm d b ∧ rkVb vs ∧ (∀ k : Int, 1 ≤ k → k ≤ 8 → S 22 (k - 1) = vs k) ∧ 0 ≤ pg ∧ pg.toNat ∈ rkPg
def tqSo (vs : Int → Int) (S : Nat → Int → Int) (pg first n at_ : Int) (d : rkC) (b : Bool) : Prop := ∃ st : List Int, rkSk (S (pg + 3).toNat) n st ∧ rkQt d vs b (at_ - first) st
def tqTw (vs : Int → Int) (S : Nat → Int → Int) (pg first n at_ x y : Int) (d : rkC) (b : Bool) : Prop := ∃ st : List Int, rkSk (S (pg + 3).toNat) n (y :: x :: st) ∧ rkQt d vs b (at_ - first) (y :: x :: st)
theorem tq_lt {S : Nat → Int → Int} {pg first at_ : Int} {d : rkC} (hc : tqCd S pg first d) (i1 : S (pg + 1).toNat at_ ≠ 0) (a : 0 ≤ at_ - first) (b : at_ - first ≤ rkM d) : at_ - first < rkM d := by
  by_cases e : at_ - first = rkM d
  · exfalso
    have g := hc.2.2.1
    rw [show first + rkM d = at_ by omega] at g
    exact i1 g
  · omega
/-- how the developers number operations -/
theorem rkEn_c {op : Int} (h : (0 ≤ op ∧ op ≤ 8) ∨ (20 ≤ op ∧ op ≤ 30)) : (op = 0 ∧ rkEn op = 1) ∨ (1 ≤ op ∧ op ≤ 8 ∧ rkEn op = 2) ∨ (20 ≤ op ∧ op ≤ 27 ∧ rkEn op = op - 14) ∨ (28 ≤ op ∧ op ≤ 30 ∧ rkEn op = op - 25) := by
  unfold rkEn
  by_cases h0 : op = 0
  · exact Or.inl ⟨h0, if_pos h0⟩
  · rw [if_neg h0]
    by_cases h8 : op ≤ 8
    · exact Or.inr (Or.inl ⟨by omega, h8, if_pos h8⟩)
    · rw [if_neg h8]
      by_cases h27 : op ≤ 27
      · exact Or.inr (Or.inr (Or.inl ⟨by omega, h27, if_pos h27⟩))
      · rw [if_neg h27]
        exact Or.inr (Or.inr (Or.inr ⟨by omega, by omega, if_pos (by omega)⟩))
theorem tqOp_of {S : Nat → Int → Int} {pg at_ op b a : Int} (h : (0 ≤ op ∧ op ≤ 8) ∨ (20 ≤ op ∧ op ≤ 30)) (e1 : S (pg + 1).toNat at_ = rkEn op) (e2 : S (pg + 2).toNat at_ = rkEi b op a) : tqOp S pg at_ = op ∧ (op = 0 ∨ op = 29 ∨ op = 30 → S (pg + 2).toNat at_ = rkAi b op a) ∧ S (pg + 1).toNat at_ ≠ 0 := by
  have c := rkEn_c h
  rw [← e1] at c
  refine ⟨?_, fun g => ?_, by omega⟩
  · unfold tqOp
    rcases c with ⟨c1, c2⟩ | ⟨c1, c2, c3⟩ | ⟨c1, c2, c3⟩ | ⟨c1, c2, c3⟩
    · rw [if_pos c2]
      exact c1.symm
    · have e3 : rkEi b op a + 1 = op := by
        unfold rkEi
        rw [if_neg (by omega), if_pos c2]
        omega
      rw [if_neg (by omega), if_pos c3, e2, if_pos (by omega)]
      exact e3
    · rw [if_neg (by omega), if_neg (by omega), if_neg (by omega)]
      omega
    · rw [if_neg (by omega), if_neg (by omega), if_pos (by omega)]
      omega
  · rw [e2]
    unfold rkEi rkAi
    rcases g with g | g
    · rw [if_pos g, if_neg (by omega)]
    · rw [if_neg (by omega), if_neg (by omega), if_pos g]
      exact (if_pos g).symm
section TQ1
variable {S0 S S_p : Nat → Int → Int} {vs : Int → Int} {pg first n at_ x y op : Int} {d : rkC} {b : Bool}
theorem tqSo_n (h : tqSo vs S pg first n at_ d b) : 0 ≤ n ∧ n ≤ 50 := by
  obtain ⟨st, h1, h2⟩ := h
  have := rkSk_le h1
  have := h2.2.2.1
  omega
theorem tqSo_num (hy : tqHy S0 vs pg first d b) (h : tqSo vs S pg first n at_ d b) (i1 : S0 (pg + 1).toNat at_ ≠ 0) (ho : op = tqOp S0 pg at_) (h8 : op ≤ 8) (hx : x = (if op = 0 then S0 (pg + 2).toNat at_ else S0 22 (op - 1)))  (hb : rkIn x) (e : S_p (pg + 3).toNat n = x) (r : ∀ j : Int, j ≠ n → S_p (pg + 3).toNat j = S (pg + 3).toNat j) : tqSo vs S_p pg first (n + 1) (at_ + 1) d b := by
  obtain ⟨st, h1, h2⟩ := h
  obtain ⟨⟨c0, c1, c2, c3⟩, hm, -, hvs, -⟩ := hy
  have i0 := h2.1
  have hi := tq_lt ⟨c0, c1, c2, c3⟩ i1 h2.1 h2.2.1
  obtain ⟨c4, c5, -⟩ := c3 (at_ - first) i0 hi
  rw [show first + (at_ - first) = at_ by omega] at c4 c5
  have n0 := rkSk_le h1
  have q := rkQt_num hm h2 (by omega) (by omega)
  have ex : (if rkFo d (at_ - first) = 0 then rkFa d (at_ - first) else vs (rkFo d (at_ - first))) = x := by
    rw [hx, ho, c4]
    have ho8 := rkQt_op hm i0 (show at_ - first < rkM d by omega)
    by_cases g : rkFo d (at_ - first) = 0
    · rw [if_pos g, if_pos g, c5 (Or.inl g), g]
      exact (if_neg (by omega)).symm
    · rw [if_neg g, if_neg g]
      exact (hvs _ (by omega) (by omega)).symm
  rw [ex] at q
  refine ⟨x :: st, rkSk_pu h1 (by omega) (fun j _ a => r j (by omega)) e hb, ?_⟩
  rw [show at_ + 1 - first = at_ - first + 1 by omega]
  exact q
theorem tqSo_two (hy : tqHy S0 vs pg first d b) (h : tqSo vs S pg first n at_ d b) (i1 : S0 (pg + 1).toNat at_ ≠ 0) (ho : op = tqOp S0 pg at_) (h20 : 20 ≤ op) (h27 : op ≤ 27) : 2 ≤ n ∧ tqTw vs S pg first n at_ (S (pg + 3).toNat (n - 2)) (S (pg + 3).toNat (n - 1)) d b ∧ rkIn (S (pg + 3).toNat (n - 2)) ∧ rkIn (S (pg + 3).toNat (n - 1)) := by
  obtain ⟨st, h1, h2⟩ := h
  obtain ⟨⟨c0, c1, c2, c3⟩, hm, -⟩ := hy
  have i0 := h2.1
  have hi := tq_lt ⟨c0, c1, c2, c3⟩ i1 h2.1 h2.2.1
  obtain ⟨c4, c5, -⟩ := c3 (at_ - first) i0 hi
  rw [show first + (at_ - first) = at_ by omega] at c4 c5
  obtain ⟨y, x, st2, e, -, -⟩ := rkQt_two hm h2 (by omega) (by omega) (by omega)
  subst e
  obtain ⟨g1, g2, g3, g4⟩ := rkSk_top h1
  obtain ⟨k1, k2, k3, k4⟩ := rkSk_top g4
  rw [show n - 1 - 1 = n - 2 by omega] at k2
  refine ⟨by omega, ?_, by rw [k2]; exact k3, by rw [g2]; exact g3⟩
  rw [g2, k2]
  exact ⟨st2, h1, h2⟩
/-- two are made one -/
theorem tqTw_of (hy : tqHy S0 vs pg first d b) (h : tqTw vs S pg first n at_ x y d b) (i1 : S0 (pg + 1).toNat at_ ≠ 0) (ho : op = tqOp S0 pg at_) (h20 : 20 ≤ op) (h27 : op ≤ 27) {z : Int} (hz : rkBi op x y = some z) (hz2 : -1000000000 ≤ z ∧ z ≤ 1000000000) (e : S_p (pg + 3).toNat (n - 2) = z) (r : ∀ j : Int, j ≠ n - 2 → S_p (pg + 3).toNat j = S (pg + 3).toNat j) : tqSo vs S_p pg first (n - 1) (at_ + 1) d b := by
  obtain ⟨st, h1, h2⟩ := h
  obtain ⟨⟨c0, c1, c2, c3⟩, hm, -⟩ := hy
  have i0 := h2.1
  have hi := tq_lt ⟨c0, c1, c2, c3⟩ i1 h2.1 h2.2.1
  obtain ⟨c4, c5, -⟩ := c3 (at_ - first) i0 hi
  rw [show first + (at_ - first) = at_ by omega] at c4 c5
  obtain ⟨y', x', st2, ee, k1, k2⟩ := rkQt_two hm h2 (by omega) (by omega) (by omega)
  cases ee
  obtain ⟨g1, g2, g3, g4⟩ := rkSk_top h1
  have k := k1 z (by rw [← c4, ← ho, hz]; exact rkLm_y hz2)
  refine ⟨z :: st, rkSk_rp g4 (fun j _ a => r j (by omega)) (by rw [show n - 1 - 1 = n - 2 by omega]; exact e) ⟨by omega, by omega⟩, ?_⟩
  rw [show at_ + 1 - first = at_ - first + 1 by omega]
  exact k
theorem tqTw_no (hy : tqHy S0 vs pg first d b) (h : tqTw vs S pg first n at_ x y d b) (i1 : S0 (pg + 1).toNat at_ ≠ 0) (ho : op = tqOp S0 pg at_) (h20 : 20 ≤ op) (h27 : op ≤ 27) (hz : rkLm (rkBi op x y) = none) : rkEv d vs 0 [] none := by
  obtain ⟨st, h1, h2⟩ := h
  obtain ⟨⟨c0, c1, c2, c3⟩, hm, -⟩ := hy
  have i0 := h2.1
  have hi := tq_lt ⟨c0, c1, c2, c3⟩ i1 h2.1 h2.2.1
  obtain ⟨c4, c5, -⟩ := c3 (at_ - first) i0 hi
  rw [show first + (at_ - first) = at_ by omega] at c4 c5
  obtain ⟨y', x', st2, ee, k1, k2⟩ := rkQt_two hm h2 (by omega) (by omega) (by omega)
  cases ee
  exact k2 (by rw [← c4, ← ho]; exact hz)
theorem tqSo_not (hy : tqHy S0 vs pg first d b) (h : tqSo vs S pg first n at_ d b) (i1 : S0 (pg + 1).toNat at_ ≠ 0) (ho : op = tqOp S0 pg at_) (h28 : op = 28) : 1 ≤ n ∧ (S (pg + 3).toNat (n - 1) = 0 ∨ S (pg + 3).toNat (n - 1) = 1) ∧ (S_p (pg + 3).toNat (n - 1) = 1 - S (pg + 3).toNat (n - 1) → (∀ j : Int, j ≠ n - 1 → S_p (pg + 3).toNat j = S (pg + 3).toNat j) → tqSo vs S_p pg first n (at_ + 1) d b) := by
  obtain ⟨st, h1, h2⟩ := h
  obtain ⟨⟨c0, c1, c2, c3⟩, hm, -⟩ := hy
  have i0 := h2.1
  have hi := tq_lt ⟨c0, c1, c2, c3⟩ i1 h2.1 h2.2.1
  obtain ⟨c4, c5, -⟩ := c3 (at_ - first) i0 hi
  rw [show first + (at_ - first) = at_ by omega] at c4 c5
  obtain ⟨x, st1, e, hx, k⟩ := rkQt_not hm h2 (by omega) (by omega)
  subst e
  obtain ⟨g1, g2, g3, g4⟩ := rkSk_top h1
  rw [g2]
  refine ⟨by omega, hx, fun e r => ⟨(1 - x) :: st1, rkSk_rp h1 (fun j _ a => r j (by omega)) e ⟨by omega, by omega⟩, ?_⟩⟩
  rw [show at_ + 1 - first = at_ - first + 1 by omega]
  exact k
theorem tqSo_jmp (hy : tqHy S0 vs pg first d b) (h : tqSo vs S pg first n at_ d b) (i1 : S0 (pg + 1).toNat at_ ≠ 0) (ho : op = tqOp S0 pg at_) (hj : op = 29 ∨ op = 30) : 1 ≤ n ∧ (S (pg + 3).toNat (n - 1) = (if op = 30 then 1 else 0) → at_ < S0 (pg + 2).toNat at_ ∧ True ∧ tqSo vs S pg first n (S0 (pg + 2).toNat at_) d b) ∧ (¬ S (pg + 3).toNat (n - 1) = (if op = 30 then 1 else 0) → tqSo vs S pg first (n - 1) (at_ + 1) d b) := by
  obtain ⟨st, h1, h2⟩ := h
  obtain ⟨⟨c0, c1, c2, c3⟩, hm, -⟩ := hy
  have i0 := h2.1
  have hi := tq_lt ⟨c0, c1, c2, c3⟩ i1 h2.1 h2.2.1
  obtain ⟨c4, c5, -⟩ := c3 (at_ - first) i0 hi
  rw [show first + (at_ - first) = at_ by omega] at c4 c5
  have hj' : rkFo d (at_ - first) = 29 ∨ rkFo d (at_ - first) = 30 := by omega
  obtain ⟨x, st1, e, hx, a1, a2, k1, k2⟩ := rkQt_jmp hm h2 (by omega) hj'
  subst e
  obtain ⟨g1, g2, g3, g4⟩ := rkSk_top h1
  have ea : S0 (pg + 2).toNat at_ = first + rkFa d (at_ - first) := (c5 (by omega)).trans (rkAi_j hj' (by omega))
  rw [g2, ho, c4, ea]
  refine ⟨by omega, fun e => ⟨by omega, trivial, x :: st1, h1, ?_⟩, fun e => ⟨st1, g4, ?_⟩⟩
  · rw [show first + rkFa d (at_ - first) - first = rkFa d (at_ - first) by omega]
    exact k1 e
  · rw [show at_ + 1 - first = at_ - first + 1 by omega]
    exact k2 e
theorem tqSo_end (hy : tqHy S0 vs pg first d b) (h : tqSo vs S pg first n at_ d b) (i1 : S0 (pg + 1).toNat at_ = 0 ∨ S0 pg.toNat 0 ≤ at_) : n = 1 ∧ rkEv d vs 0 [] (some [S (pg + 3).toNat 0]) ∧ rkIn (S (pg + 3).toNat 0) ∧ (b = true → S (pg + 3).toNat 0 = 0 ∨ S (pg + 3).toNat 0 = 1) := by
  obtain ⟨st, h1, h2⟩ := h
  obtain ⟨⟨c0, c1, c2, c3⟩, hm, -⟩ := hy
  have hi : rkM d ≤ at_ - first := by
    rcases i1 with g | g
    · by_cases q : at_ - first < rkM d
      · exfalso
        have z := (c3 (at_ - first) h2.1 q).2.2
        rw [show first + (at_ - first) = at_ by omega] at z
        exact z g
      · omega
    · omega
  obtain ⟨x, e, hx, k⟩ := rkQt_end h2 hi
  subst e
  obtain ⟨g1, g2, g3, g4⟩ := rkSk_top h1
  have g4 : n - 1 = 0 := g4
  rw [g4] at g2
  rw [g2]
  exact ⟨by omega, k, g3, hx⟩
theorem tqSo_c (h : tqSo vs S pg first n at_ d b) (r : ∀ j : Int, S_p (pg + 3).toNat j = S (pg + 3).toNat j) : tqSo vs S_p pg first n at_ d b := by
  obtain ⟨st, h1, h2⟩ := h
  exact ⟨st, rkSk_cg (fun j _ _ => r j) h1, h2⟩
theorem tqTw_c (h : tqTw vs S pg first n at_ x y d b) (r : ∀ j : Int, S_p (pg + 3).toNat j = S (pg + 3).toNat j) : tqTw vs S_p pg first n at_ x y d b := by
  obtain ⟨st, h1, h2⟩ := h
  exact ⟨st, rkSk_cg (fun j _ _ => r j) h1, h2⟩
theorem tqSo_lt (h : tqSo vs S pg first n at_ d b) : first ≤ at_ := by
  obtain ⟨st, h1, h2⟩ := h
  have i0 := h2.1
  omega
end TQ1
theorem tqCd_of {S : Nat → Int → Int} {t : Nat} {pg first : Int} {d : rkC} (e : pg = (t : Int)) (h : rkSe (rkAt S t) first d) (hw : rkW d) : tqCd S pg first d := by
  obtain ⟨h0, h1, h2, h3, h4⟩ := h
  rw [rkAt_p (by omega)] at h2 h3
  have e0 : pg.toNat = t + (427 - 427) := by omega
  have e1 : (pg + 1).toNat = t + (428 - 427) := by omega
  have e2 : (pg + 2).toNat = t + (429 - 427) := by omega
  refine ⟨h0, by rw [e0]; exact h2, by rw [e1]; exact h3, fun i i0 i1 => ?_⟩
  obtain ⟨a, b⟩ := h4 i i0 i1
  rw [rkAt_p (by omega)] at a b
  rw [← e1] at a
  rw [← e2] at b
  exact tqOp_of (hw.2.2 i i0 i1) a b
def rkPgK : List (Nat × Nat) := [(6, 0), (6, 4), (1021, 0), (1022, 0), (1024, 0), (1025, 0), (1026, 0), (1027, 0)]
theorem rkPg_k : rkPg.all (fun t => Nat.blt (t + 9) 522 && ((Nat.blt 4 (bx_wd (rxL.1 t)) && (Nat.beq (bx_mc (rxL.1 t) 0).1 6 && Nat.beq (bx_mc (rxL.1 t) 0).2 0 && (Nat.beq (bx_mc (rxL.1 t) 4).1 6 && Nat.beq (bx_mc (rxL.1 t) 4).2 4))) && ((List.range 400).all (fun i => Nat.blt i (bx_wd (rxL.1 (t + 1))) && (Nat.beq (bx_mc (rxL.1 (t + 1)) i).1 1021 && Nat.beq (bx_mc (rxL.1 (t + 1)) i).2 0)) && (List.range 400).all (fun i => Nat.blt i (bx_wd (rxL.1 (t + 2))) && (Nat.beq (bx_mc (rxL.1 (t + 2)) i).1 1022 && Nat.beq (bx_mc (rxL.1 (t + 2)) i).2 0))))) = true := by decide +kernel
/-- a program's code stays -/
theorem tq_fr {ms : List (Nat × Nat)} {S S_p : Nat → Int → Int} {pg : Int} (hs : bx_same rxL (bx_mdl ms) S S_p) (hk : [(6, 0), (1021, 0), (1022, 0)].all (fun q => !(bx_mdl ms q.1 q.2)) = true) (h0 : 0 ≤ pg) (ht : pg.toNat ∈ rkPg) : S_p pg.toNat 0 = S pg.toNat 0 ∧ ∀ i : Int, 0 ≤ i → i < 400 → S_p (pg + 1).toNat i = S (pg + 1).toNat i ∧ S_p (pg + 2).toNat i = S (pg + 2).toNat i := by
  have hq : ∀ a b : Nat, (a, b) ∈ [(6, 0), (1021, 0), (1022, 0)] → bx_mdl ms a b = false := fun a b hm => by
    have := List.all_eq_true.mp hk (a, b) hm
    rw [Bool.not_eq_true'] at this
    exact this
  have g := List.all_eq_true.mp rkPg_k _ ht
  simp only [Bool.and_eq_true, Nat.blt_eq, Nat.beq_eq_true_eq, List.all_eq_true, List.mem_range] at g
  obtain ⟨g1, ⟨g2, ⟨g3, g4⟩, -⟩, g5, g6⟩ := g
  have hw : rxL.2.1 = 522 := rfl
  have e1 : (pg + 1).toNat = pg.toNat + 1 := by omega
  have e2 : (pg + 2).toNat = pg.toNat + 2 := by omega
  refine ⟨hs pg.toNat 0 (by omega) (by omega) (by rw [Nat.eq_of_beq_eq_true g3, Nat.eq_of_beq_eq_true g4]; exact hq 6 0 (by decide)), fun i a b => ⟨?_, ?_⟩⟩
  · obtain ⟨k1, k2, k3⟩ := g5 i.toNat (by omega)
    have q := hs (pg.toNat + 1) i.toNat (by omega) k1 (by rw [Nat.eq_of_beq_eq_true k2, Nat.eq_of_beq_eq_true k3]; exact hq 1021 0 (by decide))
    rw [Int.toNat_of_nonneg a] at q
    rw [e1]
    exact q
  · obtain ⟨k1, k2, k3⟩ := g6 i.toNat (by omega)
    have q := hs (pg.toNat + 2) i.toNat (by omega) k1 (by rw [Nat.eq_of_beq_eq_true k2, Nat.eq_of_beq_eq_true k3]; exact hq 1022 0 (by decide))
    rw [Int.toNat_of_nonneg a] at q
    rw [e2]
    exact q
/-- its rows' boxes -/
theorem tq_bx {S : Nat → Int → Int} {pg : Int} (h : S pg.toNat 0 ≤ 400) {first : Int} {d : rkC} (hc : tqCd S pg first d) : first + rkM d < 400 := by
  have := hc.2.1
  omega
theorem tqSo_q {S : Nat → Int → Int} {vs : Int → Int} {pg first n at_ : Int} {d : rkC} {b : Bool} (h : tqSo vs S pg first n at_ d b) : 0 ≤ at_ - first ∧ at_ - first ≤ rkM d := by
  obtain ⟨st, h1, h2⟩ := h
  exact ⟨h2.1, h2.2.1⟩
theorem rkPg_b : rkPg.all (fun t => Nat.blt t 522 && (Nat.blt 0 (bx_wd (rxL.1 t)) && decide (rxL.2.2.1 t 0 = (0, 0, 400)))) = true := by decide +kernel
theorem rqSz {S : Nat → Int → Int} {pg : Int} (I0 : bx_Inv rxL S) (h0 : 0 ≤ pg) (ht : pg.toNat ∈ rkPg) : S pg.toNat 0 ≤ 400 := by
  have g := List.all_eq_true.mp rkPg_b _ ht
  simp only [Bool.and_eq_true, Nat.blt_eq, decide_eq_true_eq] at g
  obtain ⟨g1, g2, g3⟩ := g
  have q : 0 ≤ S pg.toNat 0 ∧ S pg.toNat 0 ≤ 400 := rx_inv I0 (p := pg.toNat) (j := 0) g1 rfl (Int.le_refl 0) (by omega) g3
  exact q.2
