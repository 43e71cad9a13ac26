/-! LAWS' TEXTS ALIKE in both -/
def rkKq (R : Int → Int) (S : Nat → Int → Int) (b : Nat) : Prop := ∀ k : Nat, (k : Int) < R 3 → k < 6 → ∃ L : List rkQ, rkTr R (k : Int) L ∧ rkHl S (b + 10 * k) L ∧ rkLn L
def rkKT (S : Nat → Int → Int) : Prop := rkPl S ∧ rkKq (S 482) S 77 ∧ (S 410 0 = 0 ∨ rkKq (S 483) S 214) ∧ (S 410 1 = 0 ∨ rkKq (fun j => S 483 (6180 + j)) S 350)
/-- behind the developers' image, ahead of the reference's -/
def rkKTi0 (S : Nat → Int → Int) : Prop := rkPl S ∧ rkKq (S 482) S 77 ∧ rkKq (S 482) S 214 ∧ (S 410 1 = 0 ∨ rkKq (fun j => S 483 (6180 + j)) S 350)
def rkKTi1 (S : Nat → Int → Int) : Prop := rkPl S ∧ rkKq (S 482) S 77 ∧ (S 410 0 = 0 ∨ rkKq (S 483) S 214) ∧ rkKq (S 482) S 350
/-- behind the developers' back -/
def rkKTb0 (S : Nat → Int → Int) : Prop := rkPl S ∧ rkKq (S 483) S 77 ∧ (S 410 0 = 0 ∨ rkKq (S 483) S 214) ∧ (S 410 1 = 0 ∨ rkKq (fun j => S 483 (6180 + j)) S 350)
def rkKTb1 (S : Nat → Int → Int) : Prop := rkPl S ∧ rkKq (fun j => S 483 (6180 + j)) S 77 ∧ (S 410 0 = 0 ∨ rkKq (S 483) S 214) ∧ (S 410 1 = 0 ∨ rkKq (fun j => S 483 (6180 + j)) S 350)
theorem rkKq_e {R : Int → Int} {S S_p : Nat → Int → Int} {b : Nat} (h : rkKq R S b) (e : ∀ k : Nat, k < 6 → tqEq S S_p (b + 10 * k)) : rkKq R S_p b := fun k x y => by
  obtain ⟨L, h1, h2, h3⟩ := h k x y
  exact ⟨L, h1, rkHl_eq h2 (e k y), h3⟩
theorem rkKq_r {R R' : Int → Int} {S : Nat → Int → Int} {b : Nat} (h : rkKq R S b) (e : ∀ j : Int, 0 ≤ j → j < 6180 → R' j = R j) : rkKq R' S b := fun k x y => by
  rw [e 3 (by omega) (by omega)] at x
  obtain ⟨L, h1, h2, h3⟩ := h k x y
  exact ⟨L, rkTr_cg h1 fun j a c => e j (by omega) (by omega), h2, h3⟩
theorem rkKq_c {R : Int → Int} {S0 S : Nat → Int → Int} {t s : Nat} {n : Int} (h : rkKq R S0 s) (hn : R 3 ≤ n) (c : ∀ k : Nat, (k : Int) < n → k < 6 → tqCp S0 S (t + 10 * k) (s + 10 * k)) : rkKq R S t := fun k x y => by
  obtain ⟨L, h1, h2, h3⟩ := h k x y
  exact ⟨L, h1, rkHl_cq h2 (c k (by omega) y), h3⟩
def rkKTk : List (Nat × Nat) := [(6, 0), (6, 4), (6, 8), (6, 9), (6, 10), (1021, 0), (1022, 0), (1024, 0), (1025, 0), (1026, 0), (1027, 0), (1016, 0), (9, 0), (9, 1), (1002, 0), (1009, 0), (1031, 0), (1063, 1), (1063, 5), (1064, 0), (1064, 1)]
theorem rkKT_q {ms : List (Nat × Nat)} (hk : rkKTk.all (fun q => !(bx_mdl ms q.1 q.2)) = true) {l : List (Nat × Nat)} (hl : l.all (fun q => rkKTk.contains q) = true) : l.all (fun q => !(bx_mdl ms q.1 q.2)) = true := List.all_eq_true.mpr fun x hm => List.all_eq_true.mp hk x (List.contains_iff_mem.mp (List.all_eq_true.mp hl x hm))
theorem rkKT_f {ms : List (Nat × Nat)} {l : List (Nat × Nat)} (hk : l.all (fun q => !(bx_mdl ms q.1 q.2)) = true) {a b : Nat} (hm : (a, b) ∈ l) : bx_mdl ms a b = false := by
  have := List.all_eq_true.mp hk (a, b) hm
  rw [Bool.not_eq_true'] at this
  exact this
/-- texts that stay, of a town -/
theorem rkKq_sm {ms : List (Nat × Nat)} {S S_p : Nat → Int → Int} (hs : bx_same rxL (bx_mdl ms) S S_p) (hk : tqKs.all (fun q => !(bx_mdl ms q.1 q.2)) = true) {R : Int → Int} {b : Nat} (hb : b = 77 ∨ b = 214 ∨ b = 350) (h : rkKq R S b) : rkKq R S_p b := rkKq_e h fun k hk6 => tqEq_sm hs hk (rkPg_in hb hk6)
/-- the row where it matters -/
theorem rkR_sm {ms : List (Nat × Nat)} {S S_p : Nat → Int → Int} (hs : bx_same rxL (bx_mdl ms) S S_p) (h1 : bx_mdl ms 1063 1 = false) (h5 : bx_mdl ms 1063 5 = false) {b : Nat} (h : rkKq (S 482) S_p b) : rkKq (S_p 482) S_p b := fun k x y => by
  have e3 : S_p 482 3 = S 482 3 := hs 482 3 (by decide) (by decide) h5
  rw [e3] at x
  obtain ⟨L, g1, g2, g3⟩ := h k x y
  exact ⟨L, rkTr_cg g1 fun j a c => rx_same1 h1 hs (by omega) (by omega), g2, g3⟩
theorem rkKT_sm {ms : List (Nat × Nat)} {S S_p : Nat → Int → Int} (hs : bx_same rxL (bx_mdl ms) S S_p) (hk : rkKTk.all (fun q => !(bx_mdl ms q.1 q.2)) = true) (h : rkKT S) : rkKT S_p := by
  obtain ⟨h0, h1, h2, h3⟩ := h
  have kp : ∀ i : Nat, i < 2 → S_p 410 (i : Int) = S 410 (i : Int) := fun i hi => hs 410 i (by decide) (by
    show i < 2
    exact hi) (by
    have e : bx_mc (rxL.1 410) i = (1031, if i < 780 then 0 else 1) := rfl
    rw [e, if_pos (by omega)]
    exact rkKT_f hk (by decide))
  have r3 : ∀ j : Int, 0 ≤ j → j < 12360 → S_p 483 j = S 483 j := fun j a b => rx_same64 (rkKT_f hk (by decide)) (rkKT_f hk (by decide)) hs a b
  have tk := rkKT_q hk (l := tqKs) (by decide)
  have k0 : S_p 410 0 = S 410 0 := kp 0 (by decide)
  have k1 : S_p 410 1 = S 410 1 := kp 1 (by decide)
  refine ⟨rkPl_sm hs (rkKT_q hk (by decide)) h0, rkR_sm hs (rkKT_f hk (by decide)) (rkKT_f hk (by decide)) (rkKq_sm hs tk (Or.inl rfl) h1), ?_, ?_⟩
  · rw [k0]
    exact h2.imp id fun g => rkKq_r (rkKq_sm hs tk (Or.inr (Or.inl rfl)) g) fun j a b => r3 j a (by omega)
  · rw [k1]
    exact h3.imp id fun g => rkKq_r (rkKq_sm hs tk (Or.inr (Or.inr rfl)) g) fun j a b => r3 (6180 + j) (by omega) (by omega)
/-! images -/
section RKKI
variable {S0 S1 S S_p : Nat → Int → Int}
theorem tqEq_w {tb b k : Nat} (hW : rkW4 S0 S1 tb) (e : ∀ (p : Nat) (j : Int), rkRgn p → S p j = S1 p j) (hb : b = 77 ∨ b = 214 ∨ b = 350) (ht : rkTb tb) (hn : tb + 54 ≠ b) (k6 : k < 6) : tqEq S0 S (b + 10 * k) := by
  unfold rkTb at ht
  have f : ∀ (p : Nat) (j : Int), b ≤ p → p < b + 60 → S p j = S0 p j := fun p j p0 p1 => by
    have r : rkRgn p := by
      unfold rkRgn
      omega
    exact (e p j r).trans (hW p j r (by omega))
  exact ⟨f _ _ (by omega) (by omega), f _ _ (by omega) (by omega), ⟨f _ _ (by omega) (by omega), f _ _ (by omega) (by omega), f _ _ (by omega) (by omega)⟩, fun i _ _ => ⟨f _ _ (by omega) (by omega), f _ _ (by omega) (by omega)⟩, fun p p4 p9 i _ _ => f _ _ (by omega) (by omega)⟩
theorem tqCp_w {tb sb : Nat} {n : Int} (hW : rkWt4 S0 S1 tb sb 6 12 n) (e : ∀ (p : Nat) (j : Int), rkRgn p → S p j = S1 p j) (ht : rkTb tb) (k : Nat) (hk : (k : Int) < n) (k6 : k < 6) : tqCp S0 S (tb + 54 + 10 * k) (sb + 54 + 10 * k) := tqCp_cg (hW.2.2.1 k hk k6) fun p j p0 p1 => e p j (rkTb_re ht (by omega) (by omega))
theorem rkKT_i0 (h : rkKT S0) (hl : rkPl S) (hn : S0 1 14 = S0 482 3) (hW : rkWt4 S0 S1 160 23 6 12 (S0 1 14)) (e : ∀ (p : Nat) (j : Int), rkRgn p → S p j = S1 p j) (r : ∀ j : Int, 0 ≤ j → j < 6180 → S 482 j = S0 482 j) (r3 : ∀ j : Int, 0 ≤ j → j < 12360 → S 483 j = S0 483 j) (k1 : S 410 1 = S0 410 1) : rkKTi0 S := by
  obtain ⟨-, h1, h2, h3⟩ := h
  refine ⟨hl, rkKq_r (rkKq_e h1 fun k k6 => tqEq_w hW.2.2.2 e (Or.inl rfl) (Or.inr (Or.inl rfl)) (by omega) k6) r, rkKq_r (rkKq_c (t := 214) h1 (by omega) (tqCp_w hW e (Or.inr (Or.inl rfl)))) r, ?_⟩
  rw [k1]
  exact h3.imp id fun g => rkKq_r (rkKq_e g fun k k6 => tqEq_w hW.2.2.2 e (Or.inr (Or.inr rfl)) (Or.inr (Or.inl rfl)) (by omega) k6) fun j a b => r3 _ (by omega) (by omega)
theorem rkKT_i1 (h : rkKT S0) (hl : rkPl S) (hn : S0 1 14 = S0 482 3) (hW : rkWt4 S0 S1 296 23 6 12 (S0 1 14)) (e : ∀ (p : Nat) (j : Int), rkRgn p → S p j = S1 p j) (r : ∀ j : Int, 0 ≤ j → j < 6180 → S 482 j = S0 482 j) (r3 : ∀ j : Int, 0 ≤ j → j < 12360 → S 483 j = S0 483 j) (k0 : S 410 0 = S0 410 0) : rkKTi1 S := by
  obtain ⟨-, h1, h2, h3⟩ := h
  refine ⟨hl, rkKq_r (rkKq_e h1 fun k k6 => tqEq_w hW.2.2.2 e (Or.inl rfl) (Or.inr (Or.inr rfl)) (by omega) k6) r, ?_, rkKq_r (rkKq_c (t := 350) h1 (by omega) (tqCp_w hW e (Or.inr (Or.inr rfl)))) r⟩
  rw [k0]
  exact h2.imp id fun g => rkKq_r (rkKq_e g fun k k6 => tqEq_w hW.2.2.2 e (Or.inr (Or.inl rfl)) (Or.inr (Or.inr rfl)) (by omega) k6) fun j a b => r3 _ (by omega) (by omega)
theorem rkKT_b0 (h : rkKT S0) (hl : rkPl S) (z : S0 410 0 ≠ 0) (hn : S0 138 14 = S0 483 3) (hW : rkWt4 S0 S1 23 160 6 12 (S0 138 14)) (e : ∀ (p : Nat) (j : Int), rkRgn p → S p j = S1 p j) (r3 : ∀ j : Int, 0 ≤ j → j < 12360 → S 483 j = S0 483 j) (k0 : S 410 0 = S0 410 0) (k1 : S 410 1 = S0 410 1) : rkKTb0 S := by
  obtain ⟨-, h1, h2, h3⟩ := h
  have h2 := h2.resolve_left z
  refine ⟨hl, rkKq_r (rkKq_c (t := 77) h2 (by omega) (tqCp_w hW e (Or.inl rfl))) fun j a b => r3 j a (by omega), Or.inr (rkKq_r (rkKq_e h2 fun k k6 => tqEq_w hW.2.2.2 e (Or.inr (Or.inl rfl)) (Or.inl rfl) (by omega) k6) fun j a b => r3 j a (by omega)), ?_⟩
  rw [k1]
  exact h3.imp id fun g => rkKq_r (rkKq_e g fun k k6 => tqEq_w hW.2.2.2 e (Or.inr (Or.inr rfl)) (Or.inl rfl) (by omega) k6) fun j a b => r3 _ (by omega) (by omega)
theorem rkKT_b1 (h : rkKT S0) (hl : rkPl S) (z : S0 410 1 ≠ 0) (hn : S0 274 14 = S0 483 6183) (hW : rkWt4 S0 S1 23 296 6 12 (S0 274 14)) (e : ∀ (p : Nat) (j : Int), rkRgn p → S p j = S1 p j) (r3 : ∀ j : Int, 0 ≤ j → j < 12360 → S 483 j = S0 483 j) (k0 : S 410 0 = S0 410 0) (k1 : S 410 1 = S0 410 1) : rkKTb1 S := by
  obtain ⟨-, h1, h2, h3⟩ := h
  have h3 := h3.resolve_left z
  refine ⟨hl, rkKq_r (rkKq_c (t := 77) h3 (Int.le_of_eq (show S0 483 (6180 + 3) = S0 274 14 from hn.symm)) (tqCp_w hW e (Or.inl rfl))) fun j a b => r3 (6180 + j) (by omega) (by omega), ?_, Or.inr (rkKq_r (rkKq_e h3 fun k k6 => tqEq_w hW.2.2.2 e (Or.inr (Or.inr rfl)) (Or.inl rfl) (by omega) k6) fun j a b => r3 (6180 + j) (by omega) (by omega))⟩
  rw [k0]
  exact h2.imp id fun g => rkKq_r (rkKq_e g fun k k6 => tqEq_w hW.2.2.2 e (Or.inr (Or.inl rfl)) (Or.inl rfl) (by omega) k6) fun j a b => r3 _ (by omega) (by omega)
end RKKI
/-! the reference's image, back -/
section RKKJ
theorem rkKq_j {ms : List (Nat × Nat)} {S S_p : Nat → Int → Int} (hs : bx_same rxL (bx_mdl ms) S S_p) (hk : [(6, 0), (6, 4), (6, 8), (6, 9), (6, 10), (1021, 0), (1022, 0), (1024, 0), (1025, 0), (1026, 0), (1027, 0), (1016, 0), (9, 0), (9, 1), (1002, 0), (1009, 0)].all (fun q => !(bx_mdl ms q.1 q.2)) = true) : (rkPl S → rkPl S_p) ∧ ∀ {R R' : Int → Int} {b : Nat}, (b = 77 ∨ b = 214 ∨ b = 350) → rkKq R S b → (∀ j : Int, 0 ≤ j → j < 6180 → R' j = R j) → rkKq R' S_p b := by
  have q : ∀ l : List (Nat × Nat), l.all (fun q => [(6, 0), (6, 4), (6, 8), (6, 9), (6, 10), (1021, 0), (1022, 0), (1024, 0), (1025, 0), (1026, 0), (1027, 0), (1016, 0), (9, 0), (9, 1), (1002, 0), (1009, 0)].contains q) = true → l.all (fun q => !(bx_mdl ms q.1 q.2)) = true := fun l hl => List.all_eq_true.mpr fun x hm => List.all_eq_true.mp hk x (List.contains_iff_mem.mp (List.all_eq_true.mp hl x hm))
  exact ⟨rkPl_sm hs (q _ (by decide)), fun hb h e => rkKq_r (rkKq_sm hs (q tqKs (by decide)) hb h) e⟩
end RKKJ
section RKKK
theorem rkKT_j0 {S S_p : Nat → Int → Int} (hl : rkPl S → rkPl S_p) (hq : ∀ {R R' : Int → Int} {b : Nat}, (b = 77 ∨ b = 214 ∨ b = 350) → rkKq R S b → (∀ j : Int, 0 ≤ j → j < 6180 → R' j = R j) → rkKq R' S_p b) (h : rkKTi0 S) (r : ∀ j : Int, 0 ≤ j → j < 6180 → S_p 482 j = S 482 j) (c1 : ∀ j : Int, 0 ≤ j → j < 6180 → S_p 483 j = S 482 j) (c2 : ∀ j : Int, 6180 ≤ j → S_p 483 j = S 483 j) (k1 : S_p 410 1 = S 410 1) : rkKT S_p := by
  obtain ⟨h0, h1, h2, h3⟩ := h
  refine ⟨hl h0, hq (Or.inl rfl) h1 r, Or.inr (hq (Or.inr (Or.inl rfl)) h2 c1), ?_⟩
  rw [k1]
  exact h3.imp id fun g => hq (Or.inr (Or.inr rfl)) g fun j a b => c2 _ (by omega)
theorem rkKT_j1 {S S_p : Nat → Int → Int} (hl : rkPl S → rkPl S_p) (hq : ∀ {R R' : Int → Int} {b : Nat}, (b = 77 ∨ b = 214 ∨ b = 350) → rkKq R S b → (∀ j : Int, 0 ≤ j → j < 6180 → R' j = R j) → rkKq R' S_p b) (h : rkKTi1 S) (r : ∀ j : Int, 0 ≤ j → j < 6180 → S_p 482 j = S 482 j) (c1 : ∀ j : Int, 0 ≤ j → j < 6180 → S_p 483 (6180 + j) = S 482 j) (c2 : ∀ j : Int, j < 6180 → S_p 483 j = S 483 j) (k0 : S_p 410 0 = S 410 0) : rkKT S_p := by
  obtain ⟨h0, h1, h2, h3⟩ := h
  refine ⟨hl h0, hq (Or.inl rfl) h1 r, ?_, Or.inr (hq (Or.inr (Or.inr rfl)) h3 c1)⟩
  rw [k0]
  exact h2.imp id fun g => hq (Or.inr (Or.inl rfl)) g fun j a b => c2 _ b
/-- nothing was changed but refusals -/
theorem rkKT_j2 {S S_p : Nat → Int → Int} (hl : rkPl S → rkPl S_p) (hq : ∀ {R R' : Int → Int} {b : Nat}, (b = 77 ∨ b = 214 ∨ b = 350) → rkKq R S b → (∀ j : Int, 0 ≤ j → j < 6180 → R' j = R j) → rkKq R' S_p b) (h : rkKT S) (r : ∀ j : Int, 0 ≤ j → j < 6180 → S_p 482 j = S 482 j) (c3 : ∀ j : Int, 0 ≤ j → j < 12360 → S_p 483 j = S 483 j) (k0 : S_p 410 0 = S 410 0) (k1 : S_p 410 1 = S 410 1) : rkKT S_p := by
  obtain ⟨h0, h1, h2, h3⟩ := h
  refine ⟨hl h0, hq (Or.inl rfl) h1 r, ?_, ?_⟩
  · rw [k0]
    exact h2.imp id fun g => hq (Or.inr (Or.inl rfl)) g fun j a b => c3 _ (by omega) (by omega)
  · rw [k1]
    exact h3.imp id fun g => hq (Or.inr (Or.inr rfl)) g fun j a b => c3 _ (by omega) (by omega)
theorem rkKT_k0 {S S_p : Nat → Int → Int} (hl : rkPl S → rkPl S_p) (hq : ∀ {R R' : Int → Int} {b : Nat}, (b = 77 ∨ b = 214 ∨ b = 350) → rkKq R S b → (∀ j : Int, 0 ≤ j → j < 6180 → R' j = R j) → rkKq R' S_p b) (h : rkKTb0 S) (r : ∀ j : Int, 0 ≤ j → j < 6180 → S_p 482 j = S 483 j) (c3 : ∀ j : Int, 0 ≤ j → j < 12360 → S_p 483 j = S 483 j) (k0 : S_p 410 0 = S 410 0) (k1 : S_p 410 1 = S 410 1) : rkKT S_p := by
  obtain ⟨h0, h1, h2, h3⟩ := h
  refine ⟨hl h0, hq (Or.inl rfl) h1 r, ?_, ?_⟩
  · rw [k0]
    exact h2.imp id fun g => hq (Or.inr (Or.inl rfl)) g fun j a b => c3 _ (by omega) (by omega)
  · rw [k1]
    exact h3.imp id fun g => hq (Or.inr (Or.inr rfl)) g fun j a b => c3 _ (by omega) (by omega)
theorem rkKT_k1 {S S_p : Nat → Int → Int} (hl : rkPl S → rkPl S_p) (hq : ∀ {R R' : Int → Int} {b : Nat}, (b = 77 ∨ b = 214 ∨ b = 350) → rkKq R S b → (∀ j : Int, 0 ≤ j → j < 6180 → R' j = R j) → rkKq R' S_p b) (h : rkKTb1 S) (r : ∀ j : Int, 0 ≤ j → j < 6180 → S_p 482 j = S 483 (6180 + j)) (c3 : ∀ j : Int, 0 ≤ j → j < 12360 → S_p 483 j = S 483 j) (k0 : S_p 410 0 = S 410 0) (k1 : S_p 410 1 = S 410 1) : rkKT S_p := by
  obtain ⟨h0, h1, h2, h3⟩ := h
  refine ⟨hl h0, hq (Or.inl rfl) h1 r, ?_, ?_⟩
  · rw [k0]
    exact h2.imp id fun g => hq (Or.inr (Or.inl rfl)) g fun j a b => c3 _ (by omega) (by omega)
  · rw [k1]
    exact h3.imp id fun g => hq (Or.inr (Or.inr rfl)) g fun j a b => c3 _ (by omega) (by omega)
end RKKK
/-! where both begin -/
theorem rkTl_st {row b : Nat} (h : ∀ i : Nat, i < 6 → rzS row (i : Int) = ((b + 10 * i : Nat) : Int) ∧ (rzS (b + 10 * i) 8 = ((b + 10 * i : Nat) : Int) + 7 ∧ rzS (b + 10 * i) 9 = ((b + 10 * i : Nat) : Int) + 8 ∧ rzS (b + 10 * i) 10 = ((b + 10 * i : Nat) : Int) + 9)) : rkTl rzS row b := h
theorem rkSl_st {row b n : Nat} (h : ∀ i : Nat, i < n → rzS row (i : Int) = ((b + 3 * i : Nat) : Int) ∧ (rzS (b + 3 * i) 0 = ((b + 3 * i + 1 : Nat) : Int) ∧ rzS (b + 3 * i) 1 = ((b + 3 * i + 2 : Nat) : Int))) : rkSl rzS row b n := h
theorem rkPl_st : rkPl rzS :=
  ⟨⟨⟨by decide +kernel, by decide +kernel, by decide +kernel⟩, rkTl_st (by decide +kernel), rkTl_st (by decide +kernel), rkTl_st (by decide +kernel)⟩, ⟨rkSl_st (by decide +kernel), rkSl_st (by decide +kernel)⟩, ⟨rkSl_st (by decide +kernel), rkSl_st (by decide +kernel)⟩, ⟨rkSl_st (by decide +kernel), rkSl_st (by decide +kernel)⟩⟩
theorem rkKT_st : rkKT rzS := by
  have e3 : rzS 482 3 = 0 := by decide +kernel
  refine ⟨rkPl_st, fun k x _ => ?_, Or.inl (by decide +kernel), Or.inl (by decide +kernel)⟩
  rw [e3] at x
  omega
