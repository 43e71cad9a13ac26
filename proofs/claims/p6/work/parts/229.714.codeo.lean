/-! OTHER PROGRAMS STAY, while the draft is written -/
/-- the places of the laws' texts: of the town, of both images -/
def rkOl : List Nat := (List.range 60).map (fun k => 77 + k) ++ ((List.range 60).map (fun k => 214 + k) ++ (List.range 60).map (fun k => 350 + k))
def rkOf (S0 S : Nat → Int → Int) : Prop := ∀ p i : Nat, p ∈ rkOl → i < bx_wd (rxL.1 p) → S p (i : Int) = S0 p (i : Int)
/-- and the draft's rows lie where they lay -/
def rkPO (S0 S : Nat → Int → Int) : Prop := rkPp S ∧ rkOf S0 S
theorem rkOf_rf {S : Nat → Int → Int} : rkOf S S := fun _ _ _ _ => rfl
theorem rkOf.tr {S0 S S_p : Nat → Int → Int} (h : rkOf S0 S) (g : rkOf S S_p) : rkOf S0 S_p := fun p i a b => (g p i a b).trans (h p i a b)
theorem rkPO_rf {S : Nat → Int → Int} (h : rkPp S) : rkPO S S := ⟨h, rkOf_rf⟩
theorem rkPO.tr {S0 S S_p : Nat → Int → Int} (h : rkPO S0 S) (g : rkPO S S_p) : rkPO S0 S_p := ⟨g.1, h.2.tr g.2⟩
theorem rkPO_up {S0 S : Nat → Int → Int} {q : Nat} {i v : Int} (hq : rkOl.contains q = false) (h8 : ¬ (q = 427 ∧ 8 ≤ i ∧ i ≤ 10)) (h : rkPO S0 S) : rkPO S0 (bx_up S q i v) := by
  obtain ⟨⟨p1, p2, p3⟩, f⟩ := h
  refine ⟨⟨(bx_up_ne (by omega)).trans p1, (bx_up_ne (by omega)).trans p2, (bx_up_ne (by omega)).trans p3⟩, fun p j a b => (bx_up_ne fun g => ?_).trans (f p j a b)⟩
  have e := g.1
  subst e
  rw [List.contains_iff_mem.mpr a] at hq
  cases hq
def rkKc : List Nat := [6, 1021, 1022, 1023, 1024, 1025, 1026, 1027]
theorem rkOl_k0 : rkOl.all (fun p => Nat.blt p 522 && rkKc.contains (bx_mc (rxL.1 p) 0).1) = true := by decide +kernel
theorem rkOl_k {p i : Nat} (h : p ∈ rkOl) : p < 522 ∧ rkKc.contains (bx_mc (rxL.1 p) i).1 = true := by
  have q := List.all_eq_true.mp rkOl_k0 p h
  rw [Bool.and_eq_true, Nat.blt_eq] at q
  rw [bx_mc1 (rxL.1 p) i]
  exact q
theorem rkPO_sm {ms : List (Nat × Nat)} {S0 S S_p : Nat → Int → Int} (hs : bx_same rxL (bx_mdl ms) S S_p) (hk : ms.all (fun q => !(rkKc.contains q.1)) = true) (h : rkPO S0 S) : rkPO S0 S_p := by
  have z : ∀ c k : Nat, rkKc.contains c = true → bx_mdl ms c k = false := fun c k hc => by
    unfold bx_mdl
    rw [List.any_eq_false]
    intro q hq g
    rw [Bool.and_eq_true, beq_iff_eq] at g
    have w := List.all_eq_true.mp hk q hq
    rw [g.1, hc] at w
    cases w
  obtain ⟨⟨p1, p2, p3⟩, f⟩ := h
  exact ⟨⟨(hs 427 8 (by decide) (by decide) (z 6 8 (by decide))).trans p1, (hs 427 9 (by decide) (by decide) (z 6 9 (by decide))).trans p2, (hs 427 10 (by decide) (by decide) (z 6 10 (by decide))).trans p3⟩, fun p i a b => (hs p i (rkOl_k (i := i) a).1 b (z _ _ (rkOl_k a).2)).trans (f p i a b)⟩
theorem rkPO_T {S0 S T : Nat → Int → Int} {c k : Nat} (v : ∀ (p i : Nat), p < rxL.2.1 → i < bx_wd (rxL.1 p) → bx_mc (rxL.1 p) i ≠ (c, k) → T p (i : Int) = S p (i : Int)) (hc : rkKc.contains c = false) (h : rkPO S0 S) : rkPO S0 T := by
  obtain ⟨⟨p1, p2, p3⟩, f⟩ := h
  have z : ∀ p i : Nat, rkKc.contains (bx_mc (rxL.1 p) i).1 = true → bx_mc (rxL.1 p) i ≠ (c, k) := fun p i g e => by
    rw [e, hc] at g
    cases g
  exact ⟨⟨(v 427 8 (by decide) (by decide) (z 427 8 (by decide +kernel))).trans p1, (v 427 9 (by decide) (by decide) (z 427 9 (by decide +kernel))).trans p2, (v 427 10 (by decide) (by decide) (z 427 10 (by decide +kernel))).trans p3⟩, fun p i a b => (v p i (rkOl_k (i := i) a).1 b (z p i (rkOl_k a).2)).trans (f p i a b)⟩
theorem rkPO_oc {S : Nat → Int → Int} {ki st cu : Int} (h : rkPp S) : rkPO S (rkOc S ki st cu) :=
  rkPO_up (by decide +kernel) (by omega) (rkPO_up (by decide +kernel) (by omega) (rkPO_up (by decide +kernel) (by omega) (rkPO_up (by decide +kernel) (by omega) (rkPO_up (by decide +kernel) (by omega) (rkPO_up (by decide +kernel) (by omega) (rkPO_up (by decide +kernel) (by omega) (rkPO_rf h)))))))
/-! A LAW'S TEXT of the developers -/
theorem rkHl_ne {S S_p : Nat → Int → Int} {t : Nat} {L : List rkQ} (h : rkHl S t L) (e : ∀ (p : Nat) (j : Int), t ≤ p → S_p p j = S p j) : rkHl S_p t L := by
  obtain ⟨h1, h2, h3, h4⟩ := h
  have f : ∀ (p : Nat) (j : Int), 427 ≤ p → rkAt S_p t p j = rkAt S t p j := fun p j a => by
    rw [rkAt_p a, rkAt_p a]
    exact e _ j (by omega)
  exact ⟨(e t 4 (Nat.le_refl t)).trans h1, h2, by rw [e t 0 (Nat.le_refl t)]; exact h3, rkPd_cg (S := rkAt S t) (f 427 0 (by omega)) (fun j x y => ⟨f 428 j (by omega), f 429 j (by omega)⟩) (fun p a b j x y => f p j (by omega)) h2 h4⟩
/-- all other texts stay -/
def rkOi (S0 S : Nat → Int → Int) (t : Nat) : Prop := ∀ p i : Nat, p ∈ rkOl → (p < t ∨ t + 10 ≤ p) → i < bx_wd (rxL.1 p) → S p (i : Int) = S0 p (i : Int)
def rkLd8 (S0 S : Nat → Int → Int) : Prop := ∃ i : Nat, i < 6 ∧ S0 1 14 = (i : Int) ∧ (∃ L : List rkQ, rkText false (rzCut (S0 411)) (S0 0 4) L ∧ rkHl S (77 + 10 * i) L) ∧ rkOi S0 S (77 + 10 * i)
/-- what law leaves -/
def rkLd (S0 S : Nat → Int → Int) : Prop := (S 1 14 = S0 1 14 ∧ rkOf S0 S) ∨ (S 1 14 = S0 1 14 + 1 ∧ rkLd8 S0 S)
theorem rkOl_ge {p : Nat} (h : p ∈ rkOl) : 77 ≤ p := by
  unfold rkOl at h
  rw [List.mem_append, List.mem_append, List.mem_map, List.mem_map, List.mem_map] at h
  rcases h with ⟨k, -, e⟩ | ⟨k, -, e⟩ | ⟨k, -, e⟩ <;> omega
theorem rkLd8_ne {S0 S S_p : Nat → Int → Int} (h : rkLd8 S0 S) (e : ∀ (p : Nat) (j : Int), 77 ≤ p → S_p p j = S p j) : rkLd8 S0 S_p := by
  obtain ⟨i, i6, hi, ⟨L, h1, h2⟩, h3⟩ := h
  exact ⟨i, i6, hi, ⟨L, h1, rkHl_ne h2 fun p j a => e p j (by omega)⟩, fun p k a b c => (e p _ (rkOl_ge a)).trans (h3 p k a b c)⟩
theorem rkLd8_of {S0 S S_p : Nat → Int → Int} {L : List rkQ} (h : rkPO S0 S) (h1 : rkText false (rzCut (S0 411)) (S0 0 4) L) (h2 : rkHl S 427 L) (e14 : S 1 14 = S0 1 14) (g : ∃ (i : Nat) (S1 : Nat → Int → Int), i < 6 ∧ S 1 14 = (i : Int) ∧ rkQc S S1 (77 + 10 * i) 427 ∧ ∀ (p : Nat) (j : Int), ¬ (p = 1 ∧ j = 14) → S_p p j = S1 p j) : rkLd8 S0 S_p := by
  obtain ⟨i, S1, i6, hi, q, f⟩ := g
  refine ⟨i, i6, by omega, ⟨L, h1, rkHl_ne (rkHl_cp h2 q) fun p j a => f p j (by omega)⟩, fun p k a b c => ?_⟩
  have g := rkOl_ge a
  have qf := q.2.2.2.2.2.2.2.2.2.2.1
  exact ((f p _ (by omega)).trans (qf p _ (by omega) (by omega) (by omega) (by omega) (by omega) (by omega) (by omega) (by omega) (by omega))).trans (h.2 p k a c)
theorem rkPp_of {S : Nat → Int → Int} (h : rkPf S) : rkPp S := ⟨by have := h.1.1; omega, by have := h.1.2.1; omega, by have := h.1.2.2; omega⟩
theorem rkPq_sm {ms : List (Nat × Nat)} {S S_p : Nat → Int → Int} (hs : bx_same rxL (bx_mdl ms) S S_p) (hk : [(6, 8), (6, 9), (6, 10)].all (fun q => !(bx_mdl ms q.1 q.2)) = true) {t : Nat} (ht : t < 522) (h1 : bx_mc (rxL.1 t) 8 = (6, 8) ∧ bx_mc (rxL.1 t) 9 = (6, 9) ∧ bx_mc (rxL.1 t) 10 = (6, 10) ∧ 10 < bx_wd (rxL.1 t)) (h : rkPq S t) : rkPq S_p t := by
  have k : ∀ c, c = 8 ∨ c = 9 ∨ c = 10 → bx_mdl ms 6 c = false := fun c hc => by
    have hm : ((6, c) : Nat × Nat) ∈ [(6, 8), (6, 9), (6, 10)] := by rcases hc with rfl | rfl | rfl <;> decide
    have := List.all_eq_true.mp hk (6, c) hm
    rw [Bool.not_eq_true'] at this
    exact this
  obtain ⟨a1, a2, a3, a4⟩ := h1
  have e8 : S_p t 8 = S t 8 := hs t 8 ht (by omega) (by rw [a1]; exact k 8 (by decide))
  have e9 : S_p t 9 = S t 9 := hs t 9 ht (by omega) (by rw [a2]; exact k 9 (by decide))
  have e10 : S_p t 10 = S t 10 := hs t 10 ht (by omega) (by rw [a3]; exact k 10 (by decide))
  exact ⟨e8.trans h.1, e9.trans h.2.1, e10.trans h.2.2⟩
theorem rkTl_sm {ms : List (Nat × Nat)} {S S_p : Nat → Int → Int} (hs : bx_same rxL (bx_mdl ms) S S_p) (hk : [(6, 8), (6, 9), (6, 10)].all (fun q => !(bx_mdl ms q.1 q.2)) = true) (hr : bx_mdl ms 1016 0 = false) {row b : Nat} (hrow : row = 20 ∧ b = 77 ∨ row = 157 ∧ b = 214 ∨ row = 293 ∧ b = 350) (h : rkTl S row b) : rkTl S_p row b := fun i i6 => by
  obtain ⟨h1, h2⟩ := h i i6
  have e : i = 0 ∨ i = 1 ∨ i = 2 ∨ i = 3 ∨ i = 4 ∨ i = 5 := by omega
  refine ⟨?_, ?_⟩
  · refine Eq.trans ?_ h1
    rcases hrow with ⟨rfl, rfl⟩ | ⟨rfl, rfl⟩ | ⟨rfl, rfl⟩
    · exact hs 20 i (by decide) (by rcases e with rfl | rfl | rfl | rfl | rfl | rfl <;> decide) (by rcases e with rfl | rfl | rfl | rfl | rfl | rfl <;> exact hr)
    · exact hs 157 i (by decide) (by rcases e with rfl | rfl | rfl | rfl | rfl | rfl <;> decide) (by rcases e with rfl | rfl | rfl | rfl | rfl | rfl <;> exact hr)
    · exact hs 293 i (by decide) (by rcases e with rfl | rfl | rfl | rfl | rfl | rfl <;> decide) (by rcases e with rfl | rfl | rfl | rfl | rfl | rfl <;> exact hr)
  · refine rkPq_sm hs hk ?_ ?_ h2
    · show b + 10 * i < 522
      omega
    · rcases hrow with ⟨-, rfl⟩ | ⟨-, rfl⟩ | ⟨-, rfl⟩ <;> rcases e with rfl | rfl | rfl | rfl | rfl | rfl <;> decide +kernel
theorem rkPf_sm {ms : List (Nat × Nat)} {S S_p : Nat → Int → Int} (hs : bx_same rxL (bx_mdl ms) S S_p) (hk : [(6, 8), (6, 9), (6, 10)].all (fun q => !(bx_mdl ms q.1 q.2)) = true) (hr : bx_mdl ms 1016 0 = false) (h : rkPf S) : rkPf S_p :=
  ⟨rkPq_sm hs hk (by decide) (by decide +kernel) h.1, rkTl_sm hs hk hr (Or.inl ⟨rfl, rfl⟩) h.2.1, rkTl_sm hs hk hr (Or.inr (Or.inl ⟨rfl, rfl⟩)) h.2.2.1, rkTl_sm hs hk hr (Or.inr (Or.inr ⟨rfl, rfl⟩)) h.2.2.2⟩
