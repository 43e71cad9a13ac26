/-! A PROGRAM STAYS while it is told; a clause of it -/
def tqEq (S S_p : Nat → Int → Int) (t : Nat) : Prop := S_p t 0 = S t 0 ∧ S_p t 4 = S t 4 ∧ (S_p t 8 = S t 8 ∧ S_p t 9 = S t 9 ∧ S_p t 10 = S t 10) ∧ (∀ i : Int, 0 ≤ i → i < 400 → S_p (t + 1) i = S (t + 1) i ∧ S_p (t + 2) i = S (t + 2) i) ∧ ∀ p : Nat, 4 ≤ p → p ≤ 9 → ∀ i : Int, 0 ≤ i → i < 12 → S_p (t + p) i = S (t + p) i
def tqKs : List (Nat × Nat) := [(6, 0), (6, 4), (6, 8), (6, 9), (6, 10), (1021, 0), (1022, 0), (1024, 0), (1025, 0), (1026, 0), (1027, 0)]
def tqOk (t i : Nat) : Bool := Nat.blt t 522 && (Nat.blt i (bx_wd (rxL.1 t)) && tqKs.contains (bx_mc (rxL.1 t) i))
theorem rkPg_e : rkPg.all (fun t => [0, 4, 8, 9, 10].all (fun i => tqOk t i) && ((List.range 400).all (fun i => tqOk (t + 1) i && tqOk (t + 2) i) && [4, 5, 6, 7, 8, 9].all (fun p => (List.range 12).all (fun i => tqOk (t + p) i)))) = true := by decide +kernel
theorem tqEq_sm {ms : List (Nat × Nat)} {S S_p : Nat → Int → Int} {t : Nat} (hs : bx_same rxL (bx_mdl ms) S S_p) (hk : tqKs.all (fun q => !(bx_mdl ms q.1 q.2)) = true) (ht : t ∈ rkPg) : tqEq S S_p t := by
  have key : ∀ (p i : Nat), tqOk p i = true → S_p p (i : Int) = S p (i : Int) := fun p i h => by
    unfold tqOk at h
    rw [Bool.and_eq_true, Bool.and_eq_true, Nat.blt_eq, Nat.blt_eq] at h
    refine hs p i (by show p < 522; exact h.1) h.2.1 ?_
    have q := List.all_eq_true.mp hk (bx_mc (rxL.1 p) i) (List.contains_iff_mem.mp h.2.2)
    rw [Bool.not_eq_true'] at q
    exact q
  have g := List.all_eq_true.mp rkPg_e _ ht
  rw [Bool.and_eq_true, Bool.and_eq_true] at g
  obtain ⟨g1, g2, g3⟩ := g
  have k := List.all_eq_true.mp g1
  refine ⟨key t 0 (k 0 (by decide)), key t 4 (k 4 (by decide)), ⟨key t 8 (k 8 (by decide)), key t 9 (k 9 (by decide)), key t 10 (k 10 (by decide))⟩, fun i a b => ?_, fun p p4 p9 i a b => ?_⟩
  · have q := List.all_eq_true.mp g2 i.toNat (List.mem_range.mpr (by omega))
    rw [Bool.and_eq_true] at q
    have q1 := key _ _ q.1
    have q2 := key _ _ q.2
    rw [Int.toNat_of_nonneg a] at q1 q2
    exact ⟨q1, q2⟩
  · have pm : p ∈ [4, 5, 6, 7, 8, 9] := by
      have e : p = 4 ∨ p = 5 ∨ p = 6 ∨ p = 7 ∨ p = 8 ∨ p = 9 := by omega
      rcases e with rfl | rfl | rfl | rfl | rfl | rfl <;> decide
    have q := List.all_eq_true.mp (List.all_eq_true.mp g3 p pm) i.toNat (List.mem_range.mpr (by omega))
    have q1 := key _ _ q
    rw [Int.toNat_of_nonneg a] at q1
    exact q1
theorem rkHl_eq {S S_p : Nat → Int → Int} {t : Nat} {L : List rkQ} (h : rkHl S t L) (e : tqEq S S_p t) : rkHl S_p t L := by
  obtain ⟨h1, h2, h3, h4⟩ := h
  obtain ⟨e0, e4, -, e1, ep⟩ := e
  refine ⟨e4.trans h1, h2, by omega, rkPd_cg ?_ (fun j a b => ?_) (fun p p1 p2 j a b => ?_) (by omega) h4⟩
  · rw [rkAt_p (by omega), rkAt_p (by omega)]
    exact e0
  · rw [rkAt_p (by omega)] at b
    rw [rkAt_p (by omega), rkAt_p (by omega), rkAt_p (by omega), rkAt_p (by omega)]
    exact e1 j a (by
      have b : j < S (t + 0) 0 := b
      rw [Nat.add_zero] at b
      omega)
  · rw [rkAt_p (by omega), rkAt_p (by omega)]
    exact ep (p - 427) (by omega) (by omega) j a b
theorem rkPq_eq {S S_p : Nat → Int → Int} {t : Nat} (h : rkPq S t) (e : tqEq S S_p t) : rkPq S_p t := by
  obtain ⟨-, -, ⟨e8, e9, e10⟩, -⟩ := e
  exact ⟨e8.trans h.1, e9.trans h.2.1, e10.trans h.2.2⟩
theorem rkPd_at {S : Nat → Int → Int} {q : rkQ} {L2 : List rkQ} : ∀ {L1 : List rkQ} {i : Int}, rkPd S i (L1 ++ q :: L2) → rkCq S (i + (L1.length : Int)) q
  | [], i, h => by
    simp only [List.length_nil]
    rw [show i + ((0 : Nat) : Int) = i by omega]
    exact h.1
  | x :: L1, i, h => by
    simp only [List.length_cons]
    rw [show i + ((L1.length + 1 : Nat) : Int) = i + 1 + (L1.length : Int) by omega]
    exact rkPd_at h.2
/-- a clause of a program, as it is told -/
def rkQm (q : rkQ) : Prop := (∀ d : rkC, q.2.2.2.1 = some d → rkWm d false) ∧ (∀ d : rkC, q.2.2.2.2.1 = some d → rkWm d false) ∧ ∀ d : rkC, q.2.2.2.2.2 = some d → rkWm d true
def tqQ (S : Nat → Int → Int) (vs : Int → Int) (pg cl : Int) (q : rkQ) : Prop := (0 ≤ pg ∧ pg.toNat ∈ rkPg) ∧ rkPq S pg.toNat ∧ rkCq (rkAt S pg.toNat) cl q ∧ rkQm q ∧ rkVb vs ∧ (∀ k : Int, 1 ≤ k → k ≤ 8 → S 22 (k - 1) = vs k) ∧ 0 ≤ cl ∧ cl ≤ 11
theorem tqQ_os {S : Nat → Int → Int} {vs : Int → Int} {pg a : Int} {b : Bool} {o : Option rkC} (h : rkOs (rkAt S pg.toNat) a o) (hp : 0 ≤ pg ∧ pg.toNat ∈ rkPg) (hv : rkVb vs) (hs : ∀ k : Int, 1 ≤ k → k ≤ 8 → S 22 (k - 1) = vs k) (hm : ∀ d : rkC, o = some d → rkWm d b) : (o = none ∧ a = -1) ∨ ∃ d : rkC, o = some d ∧ 0 ≤ a ∧ tqHy S vs pg a d b := by
  cases o with
  | none => exact Or.inl ⟨rfl, h⟩
  | some d =>
    obtain ⟨h1, h2⟩ := h
    exact Or.inr ⟨d, rfl, h1.1, tqCd_of (t := pg.toNat) (by omega) h1 h2, hm d rfl, hv, hs, hp⟩
/-- its rows -/
theorem tqQ_x {S : Nat → Int → Int} {vs : Int → Int} {pg cl : Int} {q : rkQ} (h : tqQ S vs pg cl q) : S (pg + 4).toNat cl = q.1 ∧ S (pg + 5).toNat cl = q.2.1 ∧ S (pg + 6).toNat cl = q.2.2.1 ∧ (S pg.toNat 8 = pg + 7 ∧ S pg.toNat 9 = pg + 8 ∧ S pg.toNat 10 = pg + 9) ∧ ((q.2.2.2.1 = none ∧ S (pg + 7).toNat cl = -1) ∨ ∃ d : rkC, q.2.2.2.1 = some d ∧ 0 ≤ S (pg + 7).toNat cl ∧ tqHy S vs pg (S (pg + 7).toNat cl) d false) ∧ ((q.2.2.2.2.1 = none ∧ S (pg + 8).toNat cl = -1) ∨ ∃ d : rkC, q.2.2.2.2.1 = some d ∧ 0 ≤ S (pg + 8).toNat cl ∧ tqHy S vs pg (S (pg + 8).toNat cl) d false) ∧ ((q.2.2.2.2.2 = none ∧ S (pg + 9).toNat cl = -1) ∨ ∃ d : rkC, q.2.2.2.2.2 = some d ∧ 0 ≤ S (pg + 9).toNat cl ∧ tqHy S vs pg (S (pg + 9).toNat cl) d true) := by
  obtain ⟨h1, h2, ⟨c1, c2, c3, c4, c5, c6⟩, ⟨m1, m2, m3⟩, h5, h6, -⟩ := h
  have e : ∀ k : Nat, (pg + (k : Int)).toNat = pg.toNat + k := fun k => by omega
  have e4 : (pg + 4).toNat = pg.toNat + (431 - 427) := e 4
  have e5 : (pg + 5).toNat = pg.toNat + (432 - 427) := e 5
  have e6 : (pg + 6).toNat = pg.toNat + (433 - 427) := e 6
  have e7 : (pg + 7).toNat = pg.toNat + (434 - 427) := e 7
  have e8 : (pg + 8).toNat = pg.toNat + (435 - 427) := e 8
  have e9 : (pg + 9).toNat = pg.toNat + (436 - 427) := e 9
  rw [rkAt_p (by omega)] at c1 c2 c3 c4 c5 c6
  rw [← e4] at c1
  rw [← e5] at c2
  rw [← e6] at c3
  rw [← e7] at c4
  rw [← e8] at c5
  rw [← e9] at c6
  obtain ⟨p1, p2, p3⟩ := h2
  have hp := h1.1
  exact ⟨c1, c2, c3, ⟨by omega, by omega, by omega⟩, tqQ_os c4 h1 h5 h6 m1, tqQ_os c5 h1 h5 h6 m2, tqQ_os c6 h1 h5 h6 m3⟩
def hd3 (S : Nat → Int → Int) : rkH3 := (S 21 0, S 21 1, S 21 2)
theorem rkQl_m {q : rkQ} (h : rkQl q) (h5 : q.2.2.2.2.1 = none) : rkQm q := ⟨h.2.2.2.1, fun d e => (by rw [h5] at e; cases e), h.2.2.2.2⟩
/-- a law's clauses -/
def rkLn (L : List rkQ) : Prop := ∀ q ∈ L, rkQl q ∧ q.2.2.2.2.1 = none
/-- what the developers' law tells -/
def rkDs (S0 : Nat → Int → Int) (p pa t y : Int) (z : rkH3) : Prop := (S0 1 15 = -1 ∧ z = (S0 19 2, 1, 0)) ∨ (S0 1 15 ≠ -1 ∧ ∀ L : List rkQ, rkHl S0 (77 + 10 * S0 1 15).toNat L → rkLn L → rkHr (rkVv p (S0 8 p) (S0 6 p) (S0 7 p) pa t y (S0 19 1)) L (S0 19 2, 1, 0) z)
def rkDp (S0 : Nat → Int → Int) : Prop := rkPf S0 ∧ (S0 1 15 = -1 ∨ (S0 1 15 < S0 1 14 ∧ ∃ L : List rkQ, rkHl S0 (77 + 10 * S0 1 15).toNat L ∧ rkLn L))
