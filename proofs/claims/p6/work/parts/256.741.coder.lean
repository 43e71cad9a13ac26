/-! WHAT THE REFERENCE RECKONS: an expression's code from first on -/
def rqVs (S : Nat → Int → Int) (k : Int) : Int := if S 480 15 = 0 then S 493 k else S 494 k
def rqCd (S : Nat → Int → Int) (first last : Int) (d : rkC) : Prop := 0 ≤ first ∧ last = first + rkM d ∧ last ≤ 400 ∧ ∀ i : Int, 0 ≤ i → i < rkM d → rxOpA S (first + i) = rkFo d i ∧ rxArA S (first + i) = rkAi first (rkFo d i) (rkFa d i)
def rqHy (S : Nat → Int → Int) (vs : Int → Int) (first last : Int) (d : rkC) (b : Bool) : Prop := rqCd S first last d ∧ rkWm d b ∧ rkVb vs ∧ ∀ k : Int, 1 ≤ k → k ≤ 8 → rqVs S k = vs k
/-- broken, or so far -/
def rqSo (vs : Int → Int) (S : Nat → Int → Int) (first n at_ : Int) (d : rkC) (b : Bool) : Prop := ∃ st : List Int, rkSk (S 495) n st ∧ rkQt d vs b (at_ - first) st
def rqHd (vs : Int → Int) (S : Nat → Int → Int) (first n at_ : Int) (d : rkC) (b : Bool) : Prop := (S 480 32 = 1 ∧ rkEv d vs 0 [] none) ∨ (S 480 32 = 0 ∧ rqSo vs S first n at_ d b)
/-- two stand on top -/
def rqTw (vs : Int → Int) (S : Nat → Int → Int) (first n at_ x y : Int) (d : rkC) (b : Bool) : Prop := ∃ st : List Int, rkSk (S 495) n (y :: x :: st) ∧ rkQt d vs b (at_ - first) (y :: x :: st)
/-- what it comes to -/
def rqOu (vs : Int → Int) (S : Nat → Int → Int) (d : rkC) (b : Bool) : Prop := (S 480 32 = 1 ∧ rkEv d vs 0 [] none) ∨ (S 480 32 = 0 ∧ ∃ x : Int, rkEv d vs 0 [] (some [x]) ∧ S 480 33 = x ∧ rkIn x ∧ (b = true → x = 0 ∨ x = 1))
section RQ1
variable {S0 S S_p : Nat → Int → Int} {vs : Int → Int} {first last n at_ x y op : Int} {d : rkC} {b : Bool}
theorem rqSo_n (h : rqSo vs S first n at_ d b) : 0 ≤ n ∧ n ≤ 50 := by
  obtain ⟨st, h1, h2⟩ := h
  have := rkSk_le h1
  have := h2.2.2.1
  omega
theorem rqSo_num (hy : rqHy S0 vs first last d b) (h : rqSo vs S first n at_ d b) (i1 : at_ < last) (ho : op = rxOpA S0 at_) (h8 : op ≤ 8) (hx : x = (if op = 0 then rxArA S0 at_ else rqVs S0 op))  (hb : rkIn x) (e : S_p 495 n = x) (r : ∀ j : Int, j ≠ n → S_p 495 j = S 495 j) : rqSo vs S_p first (n + 1) (at_ + 1) d b := by
  obtain ⟨st, h1, h2⟩ := h
  obtain ⟨⟨c0, c1, c2, c3⟩, hm, -, hvs⟩ := hy
  have i0 := h2.1
  obtain ⟨c4, c5⟩ := c3 (at_ - first) i0 (by omega)
  rw [show first + (at_ - first) = at_ by omega] at c4 c5
  have n0 := rkSk_le h1
  have q := rkQt_num hm h2 (by omega) (by omega)
  have ex : (if rkFo d (at_ - first) = 0 then rkFa d (at_ - first) else vs (rkFo d (at_ - first))) = x := by
    rw [hx, ho, c4]
    have ho8 := rkQt_op hm i0 (show at_ - first < rkM d by omega)
    by_cases g : rkFo d (at_ - first) = 0
    · rw [if_pos g, if_pos g, c5, g]
      exact (if_neg (by omega)).symm
    · rw [if_neg g, if_neg g]
      exact (hvs _ (by omega) (by omega)).symm
  rw [ex] at q
  refine ⟨x :: st, rkSk_pu h1 (by omega) (fun j _ a => r j (by omega)) e hb, ?_⟩
  rw [show at_ + 1 - first = at_ - first + 1 by omega]
  exact q
theorem rqSo_two (hy : rqHy S0 vs first last d b) (h : rqSo vs S first n at_ d b) (i1 : at_ < last) (ho : op = rxOpA S0 at_) (h20 : 20 ≤ op) (h27 : op ≤ 27) : 2 ≤ n ∧ rqTw vs S first n at_ (S 495 (n - 2)) (S 495 (n - 1)) d b ∧ rkIn (S 495 (n - 2)) ∧ rkIn (S 495 (n - 1)) := by
  obtain ⟨st, h1, h2⟩ := h
  obtain ⟨⟨c0, c1, c2, c3⟩, hm, -⟩ := hy
  have i0 := h2.1
  obtain ⟨c4, c5⟩ := c3 (at_ - first) i0 (by omega)
  rw [show first + (at_ - first) = at_ by omega] at c4 c5
  obtain ⟨y, x, st2, e, -, -⟩ := rkQt_two hm h2 (by omega) (by omega) (by omega)
  subst e
  obtain ⟨g1, g2, g3, g4⟩ := rkSk_top h1
  obtain ⟨k1, k2, k3, k4⟩ := rkSk_top g4
  rw [show n - 1 - 1 = n - 2 by omega] at k2
  refine ⟨by omega, ?_, by rw [k2]; exact k3, by rw [g2]; exact g3⟩
  rw [g2, k2]
  exact ⟨st2, h1, h2⟩
/-- two are made one -/
theorem rqTw_of (hy : rqHy S0 vs first last d b) (h : rqTw vs S first n at_ x y d b) (i1 : at_ < last) (ho : op = rxOpA S0 at_) (h20 : 20 ≤ op) (h27 : op ≤ 27) {z : Int} (hz : rkBi op x y = some z) (hz2 : -1000000000 ≤ z ∧ z ≤ 1000000000) (e : S_p 495 (n - 2) = z) (r : ∀ j : Int, j ≠ n - 2 → S_p 495 j = S 495 j) : rqSo vs S_p first (n - 1) (at_ + 1) d b := by
  obtain ⟨st, h1, h2⟩ := h
  obtain ⟨⟨c0, c1, c2, c3⟩, hm, -⟩ := hy
  have i0 := h2.1
  obtain ⟨c4, c5⟩ := c3 (at_ - first) i0 (by omega)
  rw [show first + (at_ - first) = at_ by omega] at c4 c5
  obtain ⟨y', x', st2, ee, k1, k2⟩ := rkQt_two hm h2 (by omega) (by omega) (by omega)
  cases ee
  obtain ⟨g1, g2, g3, g4⟩ := rkSk_top h1
  have k := k1 z (by rw [← c4, ← ho, hz]; exact rkLm_y hz2)
  refine ⟨z :: st, rkSk_rp g4 (fun j _ a => r j (by omega)) (by rw [show n - 1 - 1 = n - 2 by omega]; exact e) ⟨by omega, by omega⟩, ?_⟩
  rw [show at_ + 1 - first = at_ - first + 1 by omega]
  exact k
theorem rqTw_no (hy : rqHy S0 vs first last d b) (h : rqTw vs S first n at_ x y d b) (i1 : at_ < last) (ho : op = rxOpA S0 at_) (h20 : 20 ≤ op) (h27 : op ≤ 27) (hz : rkLm (rkBi op x y) = none) : rkEv d vs 0 [] none := by
  obtain ⟨st, h1, h2⟩ := h
  obtain ⟨⟨c0, c1, c2, c3⟩, hm, -⟩ := hy
  have i0 := h2.1
  obtain ⟨c4, c5⟩ := c3 (at_ - first) i0 (by omega)
  rw [show first + (at_ - first) = at_ by omega] at c4 c5
  obtain ⟨y', x', st2, ee, k1, k2⟩ := rkQt_two hm h2 (by omega) (by omega) (by omega)
  cases ee
  exact k2 (by rw [← c4, ← ho]; exact hz)
theorem rqSo_not (hy : rqHy S0 vs first last d b) (h : rqSo vs S first n at_ d b) (i1 : at_ < last) (ho : op = rxOpA S0 at_) (h28 : op = 28) : 1 ≤ n ∧ (S 495 (n - 1) = 0 ∨ S 495 (n - 1) = 1) ∧ (S_p 495 (n - 1) = 1 - S 495 (n - 1) → (∀ j : Int, j ≠ n - 1 → S_p 495 j = S 495 j) → rqSo vs S_p first n (at_ + 1) d b) := by
  obtain ⟨st, h1, h2⟩ := h
  obtain ⟨⟨c0, c1, c2, c3⟩, hm, -⟩ := hy
  have i0 := h2.1
  obtain ⟨c4, c5⟩ := c3 (at_ - first) i0 (by omega)
  rw [show first + (at_ - first) = at_ by omega] at c4 c5
  obtain ⟨x, st1, e, hx, k⟩ := rkQt_not hm h2 (by omega) (by omega)
  subst e
  obtain ⟨g1, g2, g3, g4⟩ := rkSk_top h1
  rw [g2]
  refine ⟨by omega, hx, fun e r => ⟨(1 - x) :: st1, rkSk_rp h1 (fun j _ a => r j (by omega)) e ⟨by omega, by omega⟩, ?_⟩⟩
  rw [show at_ + 1 - first = at_ - first + 1 by omega]
  exact k
theorem rqSo_jmp (hy : rqHy S0 vs first last d b) (h : rqSo vs S first n at_ d b) (i1 : at_ < last) (ho : op = rxOpA S0 at_) (hj : op = 29 ∨ op = 30) : 1 ≤ n ∧ (S 495 (n - 1) = (if op = 30 then 1 else 0) → at_ < rxArA S0 at_ ∧ rxArA S0 at_ ≤ last ∧ rqSo vs S first n (rxArA S0 at_) d b) ∧ (¬ S 495 (n - 1) = (if op = 30 then 1 else 0) → rqSo vs S first (n - 1) (at_ + 1) d b) := by
  obtain ⟨st, h1, h2⟩ := h
  obtain ⟨⟨c0, c1, c2, c3⟩, hm, -⟩ := hy
  have i0 := h2.1
  obtain ⟨c4, c5⟩ := c3 (at_ - first) i0 (by omega)
  rw [show first + (at_ - first) = at_ by omega] at c4 c5
  have hj' : rkFo d (at_ - first) = 29 ∨ rkFo d (at_ - first) = 30 := by omega
  obtain ⟨x, st1, e, hx, a1, a2, k1, k2⟩ := rkQt_jmp hm h2 (by omega) hj'
  subst e
  obtain ⟨g1, g2, g3, g4⟩ := rkSk_top h1
  have ea : rxArA S0 at_ = first + rkFa d (at_ - first) := c5.trans (rkAi_j hj' (by omega))
  rw [g2, ho, c4, ea]
  refine ⟨by omega, fun e => ⟨by omega, by omega, x :: st1, h1, ?_⟩, fun e => ⟨st1, g4, ?_⟩⟩
  · rw [show first + rkFa d (at_ - first) - first = rkFa d (at_ - first) by omega]
    exact k1 e
  · rw [show at_ + 1 - first = at_ - first + 1 by omega]
    exact k2 e
theorem rqSo_end (hy : rqHy S0 vs first last d b) (h : rqSo vs S first n at_ d b) (i1 : last ≤ at_) : n = 1 ∧ rkEv d vs 0 [] (some [S 495 0]) ∧ rkIn (S 495 0) ∧ (b = true → S 495 0 = 0 ∨ S 495 0 = 1) := by
  obtain ⟨st, h1, h2⟩ := h
  obtain ⟨⟨c0, c1, c2, c3⟩, hm, -⟩ := hy
  obtain ⟨x, e, hx, k⟩ := rkQt_end h2 (by omega)
  subst e
  obtain ⟨g1, g2, g3, g4⟩ := rkSk_top h1
  have g4 : n - 1 = 0 := g4
  rw [g4] at g2
  rw [g2]
  exact ⟨by omega, k, g3, hx⟩
theorem rqSo_c (h : rqSo vs S first n at_ d b) (r : ∀ j : Int, S_p 495 j = S 495 j) : rqSo vs S_p first n at_ d b := by
  obtain ⟨st, h1, h2⟩ := h
  exact ⟨st, rkSk_cg (fun j _ _ => r j) h1, h2⟩
theorem rqTw_c (h : rqTw vs S first n at_ x y d b) (r : ∀ j : Int, S_p 495 j = S 495 j) : rqTw vs S_p first n at_ x y d b := by
  obtain ⟨st, h1, h2⟩ := h
  exact ⟨st, rkSk_cg (fun j _ _ => r j) h1, h2⟩
theorem rqSo_lt (hy : rqHy S0 vs first last d b) (h : rqSo vs S first n at_ d b) : first ≤ at_ ∧ at_ ≤ last := by
  obtain ⟨st, h1, h2⟩ := h
  have e := hy.1.2.1
  have i0 := h2.1
  have i1 := h2.2.1
  exact ⟨by omega, by omega⟩
end RQ1
