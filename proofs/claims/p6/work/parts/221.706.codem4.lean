/-! A LAW'S TEXT in the reference's rows -/
theorem rzLC_if {T : Int → Int} {n f lf : Int} {r r2 : rzR} (h : rzLC T n f lf r2) (g : rzLH T n rzLn_ f lf r) (gr : r.1 = true) : rzIf T n rzLn_ r.2.1 r.2.2 r2 := by
  rcases rzAlt_c g h with ⟨a, b⟩ | ⟨a, b⟩
  · subst a
    exact b
  · rcases rzAlt_c a b with ⟨c, d⟩ | ⟨c, d⟩
    · obtain ⟨r1, d1, d2⟩ := d
      have e := rzDet_ex r1 r d1 c
      subst e
      rcases d2 with ⟨z, -⟩ | ⟨-, z⟩
      · rw [gr] at z
        cases z
      · exact z
    · subst c
      cases gr
/-- the clauses from k on -/
def rkPm (S : Nat → Int → Int) : Int → List rkQ → Prop
  | _, [] => True
  | k, q :: L => rkCm S k q ∧ rkPm S (k + 1) L
def rkCs (S : Nat → Int → Int) : Prop := ∀ k : Int, 0 ≤ k → k < S 480 16 → rxCq S (S 486 (8 * k + 3)) (S 486 (8 * k + 4)) ∧ rxCq S (S 486 (8 * k + 5)) (S 486 (8 * k + 6))
theorem rkCm_fr {S S_p : Nat → Int → Int} {k : Int} {q : rkQ} (h : rkCm S k q) (r : ∀ j : Int, 0 ≤ j → j < 8 * S 480 16 → S_p 486 j = S 486 j) (f : rkFm S S_p (S 480 18)) (hc : rkCs S) (k0 : 0 ≤ k) (k1 : k < S 480 16) : rkCm S_p k q := by
  obtain ⟨h1, h2, h3⟩ := h
  obtain ⟨c1, c2⟩ := hc k k0 k1
  refine ⟨(r _ (by omega) (by omega)).trans h1, ?_, ?_⟩
  · rw [r (8 * k + 3) (by omega) (by omega), r (8 * k + 4) (by omega) (by omega)]
    exact rkGz_fr h2 f c1.2.1
  · rw [r (8 * k + 5) (by omega) (by omega), r (8 * k + 6) (by omega) (by omega)]
    exact rkGz_fr h3 f c2.2.1
theorem rkPm_fr {S S_p : Nat → Int → Int} (r : ∀ j : Int, 0 ≤ j → j < 8 * S 480 16 → S_p 486 j = S 486 j) (f : rkFm S S_p (S 480 18)) (hc : rkCs S) : ∀ {L : List rkQ} {k : Int}, 0 ≤ k → k + (L.length : Int) ≤ S 480 16 → rkPm S k L → rkPm S_p k L
  | [], _, _, _, _ => trivial
  | q :: L, k, k0, hl, h => by
    simp only [List.length_cons] at hl
    exact ⟨rkCm_fr h.1 r f hc k0 (by omega), rkPm_fr r f hc (by omega) (by omega) h.2⟩
theorem rkPm_ne {S S_p : Nat → Int → Int} (r : ∀ j : Int, S_p 486 j = S 486 j) (f : ∀ i : Int, S_p 487 i = S 487 i ∧ S_p 488 i = S 488 i) : ∀ {L : List rkQ} {k : Int}, rkPm S k L → rkPm S_p k L
  | [], _, _ => trivial
  | q :: L, k, h => by
    refine ⟨⟨(r _).trans h.1.1, ?_, ?_⟩, rkPm_ne r f h.2⟩
    · rw [r, r]
      exact rkGz_ne h.1.2.1 f
    · rw [r, r]
      exact rkGz_ne h.1.2.2 f
theorem rkPm_ap {S : Nat → Int → Int} {q : rkQ} : ∀ {L : List rkQ} {k : Int}, rkPm S k L → rkCm S (k + (L.length : Int)) q → rkPm S k (L ++ [q])
  | [], k, _, h => by
    simp only [List.length_nil] at h
    exact ⟨by rw [show k = k + ((0 : Nat) : Int) by omega]; exact h, trivial⟩
  | x :: L, k, g, h => by
    simp only [List.length_cons] at h
    exact ⟨g.1, rkPm_ap g.2 (by rw [show k + 1 + (L.length : Int) = k + ((L.length + 1 : Nat) : Int) by omega]; exact h)⟩
/-- ahead of a clause -/
def rkMp (S0 S : Nat → Int → Int) : Prop := ∃ L : List rkQ, S 480 16 = (L.length : Int) ∧ rkPm S 0 L ∧ ∀ L' : List rkQ, rkTx false (rzCut (S0 485)) (S0 480 8) (12 - S 480 16).toNat (S 480 9) (S 480 21) L' → rkText false (rzCut (S0 485)) (S0 480 8) (L ++ L')
/-- behind it -/
def rkMq (S0 S : Nat → Int → Int) : Prop := ∃ L : List rkQ, S 480 16 = (L.length : Int) ∧ rkPm S 0 L ∧ ∀ L' : List rkQ, rzAlt (rzSg (rzCut (S0 485)) (S0 480 8) 59 (S 480 9)) (rkTx false (rzCut (S0 485)) (S0 480 8) (12 - S 480 16).toNat (rzN (rzCut (S0 485)) (S0 480 8) (S 480 9)) (S 480 21) L') (L' = []) → rkText false (rzCut (S0 485)) (S0 480 8) (L ++ L')
/-- the whole -/
def rkMz (S0 S : Nat → Int → Int) : Prop := ∃ L : List rkQ, rkText false (rzCut (S0 485)) (S0 480 8) L ∧ S 480 16 = (L.length : Int) ∧ rkPm S 0 L
theorem rkMp_0 {S0 S : Nat → Int → Int} (e16 : S 480 16 = 0) (e9 : S 480 9 = rzF (rzCut (S0 485)) (S0 480 8) 0) (e21 : S 480 21 = 0) : rkMp S0 S := by
  refine ⟨[], e16, trivial, fun L' h => ?_⟩
  rw [e16, e9, e21] at h
  exact h
theorem rkMq_of {S0 S S_p : Nat → Int → Int} {P : rzR → Prop} (h : rkMp S0 S) (hc : rkCs S) (eT : rzCut (S 485) = rzCut (S0 485)) (en : S 480 8 = S0 480 8) (b16 : 0 ≤ S 480 16) (g : rkL7 S S_p) (x : rzCo S S_p P) (z : S_p 480 14 = 0) (e16 : S_p 480 16 = S 480 16 + 1) (hP : ∀ r : rzR, P r → r.1 = true → S 480 16 < 12 ∧ rzLC (rzCut (S 485)) (S 480 8) (S 480 9) (S 480 21) r) : rkMq S0 S_p := by
  obtain ⟨L, h1, h2, h3⟩ := h
  obtain ⟨q, r, t, ⟨g1, g2, g3⟩, g4, g5, g6, g7⟩ := g
  obtain ⟨-, -, r2, p1, p2, p3, p4⟩ := x.1 z
  obtain ⟨n12, lc⟩ := hP r2 p1 p2
  have hf := rzLC_if lc g1 g2
  rw [eT, en] at g1 g3 g4 hf
  have hl : ((L ++ [((q.1, q.2.1, q.2.2.1, q.2.2.2.1, q.2.2.2.2.1, t) : rkQ)]).length : Int) = (L.length : Int) + 1 := by simp
  refine ⟨L ++ [(q.1, q.2.1, q.2.2.1, q.2.2.2.1, q.2.2.2.2.1, t)], by omega, rkPm_ap (rkPm_fr g7 g6 hc (Int.le_refl 0) (by omega) h2) (by rw [← h1, Int.zero_add]; exact g5), fun L' hL => ?_⟩
  rw [List.append_assoc]
  refine h3 _ ?_
  rw [show (12 - S 480 16).toNat = (12 - S_p 480 16).toNat + 1 by omega]
  rw [p3, p4] at hL
  exact ⟨r, r2, q, t, L', g1, g3, hf, g4, rfl, hL⟩
theorem rkMp_of {S0 S S_p : Nat → Int → Int} (h : rkMq S0 S) (hs : rzSg (rzCut (S0 485)) (S0 480 8) 59 (S 480 9) = true) (e9 : S_p 480 9 = rzN (rzCut (S0 485)) (S0 480 8) (S 480 9)) (e21 : S_p 480 21 = S 480 21) (e16 : S_p 480 16 = S 480 16) (hp : ∀ L : List rkQ, S 480 16 = (L.length : Int) → rkPm S 0 L → rkPm S_p 0 L) : rkMp S0 S_p := by
  obtain ⟨L, h1, h2, h3⟩ := h
  refine ⟨L, e16.trans h1, hp L h1 h2, fun L' hL => h3 L' (rzAlt_y hs ?_)⟩
  rw [e16, e9, e21] at hL
  exact hL
theorem rkMz_of {S0 S S_p : Nat → Int → Int} (h : rkMq S0 S) (hs : rzSg (rzCut (S0 485)) (S0 480 8) 59 (S 480 9) = false) (e16 : S_p 480 16 = S 480 16) (hp : ∀ L : List rkQ, S 480 16 = (L.length : Int) → rkPm S 0 L → rkPm S_p 0 L) : rkMz S0 S_p := by
  obtain ⟨L, h1, h2, h3⟩ := h
  have t := h3 [] (rzAlt_n hs rfl)
  rw [List.append_nil] at t
  exact ⟨L, t, e16.trans h1, hp L h1 h2⟩
theorem rkMz_ne {S0 S S_p : Nat → Int → Int} (h : rkMz S0 S) (e16 : S_p 480 16 = S 480 16) (r : ∀ j : Int, S_p 486 j = S 486 j) (f : ∀ i : Int, S_p 487 i = S 487 i ∧ S_p 488 i = S 488 i) : rkMz S0 S_p := by
  obtain ⟨L, h1, h2, h3⟩ := h
  exact ⟨L, h1, e16.trans h2, rkPm_ne r f h3⟩
theorem rkPm_sm {ms : List (Nat × Nat)} {S S_p : Nat → Int → Int} (hs : bx_same rxL (bx_mdl ms) S S_p) (hk : [(1068, 0), (1069, 0)].all (fun q => !(bx_mdl ms q.1 q.2)) = true) (hr : ∀ j : Int, 0 ≤ j → j < 96 → S_p 486 j = S 486 j) (hc : rkCs S) (b16 : S 480 16 ≤ 12) (b18 : S 480 18 ≤ 400) (L : List rkQ) (hL : S 480 16 = (L.length : Int)) (h : rkPm S 0 L) : rkPm S_p 0 L :=
  rkPm_fr (fun j x y => hr j x (by omega)) (fun i x y => rkFm_sm hs hk i x (by omega)) hc (Int.le_refl 0) (by omega) h
/-! the row's texts -/
def rkGt (R : Int → Int) (b a e : Int) : Option rkC → Prop
  | none => e = a
  | some d => 0 ≤ a ∧ 0 < rkM d ∧ e = a + rkM d ∧ e ≤ 400 ∧ rkW d ∧ ∀ i : Int, 0 ≤ i → i < rkM d → R (b + 98 + 2 * (a + i)) = rkFo d i ∧ R (b + 98 + 2 * (a + i) + 1) = rkAi a (rkFo d i) (rkFa d i)
def rkCt (R : Int → Int) (b k : Int) (q : rkQ) : Prop := R (b + 2 + 8 * k) = q.1 ∧ rkGt R b (R (b + 2 + 8 * k + 3)) (R (b + 2 + 8 * k + 4)) q.2.2.2.1 ∧ rkGt R b (R (b + 2 + 8 * k + 5)) (R (b + 2 + 8 * k + 6)) q.2.2.2.2.2
def rkPt (R : Int → Int) (b : Int) : Int → List rkQ → Prop
  | _, [] => True
  | k, q :: L => rkCt R b k q ∧ rkPt R b (k + 1) L
/-- text number n holds these clauses -/
def rkTr (R : Int → Int) (n : Int) (L : List rkQ) : Prop := R (780 + 900 * n + 1) = (L.length : Int) ∧ (L.length : Int) ≤ 12 ∧ rkPt R (780 + 900 * n) 0 L
theorem rkGt_of {S : Nat → Int → Int} {R : Int → Int} {b a e : Int} {o : Option rkC} (h : rkGz S a e o) (he : e ≤ S 480 18) (h18 : S 480 18 ≤ 400) (ho : ∀ j : Int, 0 ≤ j → j < S 480 18 → R (b + 98 + 2 * j) = S 487 j ∧ R (b + 98 + 2 * j + 1) = S 488 j) : rkGt R b a e o := by
  cases o with
  | none => exact h
  | some d =>
    obtain ⟨h0, h1, h2, h3, h4⟩ := h
    refine ⟨h0, h1, h2, by omega, h3, fun i p q => ?_⟩
    obtain ⟨o1, o2⟩ := ho (a + i) (by omega) (by omega)
    rw [o1, o2]
    exact h4 i p q
theorem rkPt_of {S : Nat → Int → Int} {R : Int → Int} {b : Int} (hc : ∀ j : Int, 0 ≤ j → j < 8 * S 480 16 → R (b + 2 + j) = S 486 j) (ho : ∀ j : Int, 0 ≤ j → j < S 480 18 → R (b + 98 + 2 * j) = S 487 j ∧ R (b + 98 + 2 * j + 1) = S 488 j) (hs : rkCs S) (h18 : S 480 18 ≤ 400) : ∀ {L : List rkQ} {k : Int}, 0 ≤ k → k + (L.length : Int) ≤ S 480 16 → rkPm S k L → rkPt R b k L
  | [], _, _, _, _ => trivial
  | q :: L, k, k0, hl, h => by
    simp only [List.length_cons] at hl
    have e : ∀ c : Int, 0 ≤ c → c < 8 → R (b + 2 + 8 * k + c) = S 486 (8 * k + c) := fun c c0 c1 => by
      rw [show b + 2 + 8 * k + c = b + 2 + (8 * k + c) by omega]
      exact hc (8 * k + c) (by omega) (by omega)
    obtain ⟨c1, c2⟩ := hs k k0 (by omega)
    obtain ⟨⟨g1, g2, g3⟩, g4⟩ := h
    refine ⟨⟨(hc (8 * k) (by omega) (by omega)).trans g1, ?_, ?_⟩, rkPt_of hc ho hs h18 (by omega) (by omega) g4⟩
    · rw [e 3 (by omega) (by omega), e 4 (by omega) (by omega)]
      exact rkGt_of g2 c1.2.1 h18 ho
    · rw [e 5 (by omega) (by omega), e 6 (by omega) (by omega)]
      exact rkGt_of g3 c2.2.1 h18 ho
theorem rkGt_cg {R R' : Int → Int} {b a e : Int} {o : Option rkC} (h : rkGt R b a e o) (hr : ∀ j : Int, b ≤ j → j < b + 900 → R' j = R j) : rkGt R' b a e o := by
  cases o with
  | none => exact h
  | some d =>
    obtain ⟨h0, h1, h2, h3, h4, h5⟩ := h
    refine ⟨h0, h1, h2, h3, h4, fun i p q => ?_⟩
    rw [hr _ (by omega) (by omega), hr _ (by omega) (by omega)]
    exact h5 i p q
theorem rkPt_cg {R R' : Int → Int} {b : Int} (hr : ∀ j : Int, b ≤ j → j < b + 900 → R' j = R j) : ∀ {L : List rkQ} {k : Int}, 0 ≤ k → k + (L.length : Int) ≤ 12 → rkPt R b k L → rkPt R' b k L
  | [], _, _, _, _ => trivial
  | q :: L, k, k0, hl, h => by
    simp only [List.length_cons] at hl
    obtain ⟨⟨g1, g2, g3⟩, g4⟩ := h
    refine ⟨⟨(hr _ (by omega) (by omega)).trans g1, ?_, ?_⟩, rkPt_cg hr (by omega) (by omega) g4⟩
    · rw [hr (b + 2 + 8 * k + 3) (by omega) (by omega), hr (b + 2 + 8 * k + 4) (by omega) (by omega)]
      exact rkGt_cg g2 hr
    · rw [hr (b + 2 + 8 * k + 5) (by omega) (by omega), hr (b + 2 + 8 * k + 6) (by omega) (by omega)]
      exact rkGt_cg g3 hr
theorem rkTr_cg {R R' : Int → Int} {n : Int} {L : List rkQ} (h : rkTr R n L) (hr : ∀ j : Int, 780 + 900 * n ≤ j → j < 780 + 900 * n + 900 → R' j = R j) : rkTr R' n L :=
  ⟨(hr _ (by omega) (by omega)).trans h.1, h.2.1, rkPt_cg hr (Int.le_refl 0) (by have := h.2.1; omega) h.2.2⟩
/-- what law leaves in the row -/
def rkLw (S0 S : Nat → Int → Int) : Prop := (S 482 3 = S0 482 3 ∧ ∀ j : Int, 0 ≤ j → j < 6180 → S 482 j = S0 482 j) ∨ (S 482 3 = S0 482 3 + 1 ∧ (∀ j : Int, 0 ≤ j → j < 6180 → j ≠ 3 → (j < 780 + 900 * S0 482 3 ∨ 780 + 900 * S0 482 3 + 900 ≤ j) → S 482 j = S0 482 j) ∧ ∃ L : List rkQ, rkText false (rzCut (S0 485)) (S0 480 8) L ∧ rkTr (S 482) (S0 482 3) L)
def rkMt (S0 S : Nat → Int → Int) : Prop := 0 ≤ S0 482 3 ∧ (∀ j : Int, 0 ≤ j → j < 6180 → (j < 780 + 900 * S0 482 3 ∨ 780 + 900 * S0 482 3 + 900 ≤ j) → S 482 j = S0 482 j) ∧ ∃ L : List rkQ, rkText false (rzCut (S0 485)) (S0 480 8) L ∧ rkTr (S 482) (S0 482 3) L
theorem rkMt_of {S0 S : Nat → Int → Int} {base : Int} (h : rkMz S0 S) (hr : rxRx S0 S base) (hc : ∀ j : Int, 0 ≤ j → j < 8 * S 480 16 → S 482 (base + 2 + j) = S 486 j) (ho : ∀ j : Int, 0 ≤ j → j < S 480 18 → S 482 (base + 98 + 2 * j) = S 487 j ∧ S 482 (base + 98 + 2 * j + 1) = S 488 j) (h16 : S 480 16 ≤ 12) (h18 : S 480 18 ≤ 400) : rkMt S0 S := by
  obtain ⟨L, h1, h2, h3⟩ := h
  obtain ⟨r1, r2, r3, r4, r5, r6, r7⟩ := hr
  subst r5
  exact ⟨r6, r1, L, h1, r2.trans h2, by omega, rkPt_of hc ho r3 h18 (Int.le_refl 0) (by omega) h3⟩
theorem rkLw_of {S0 S : Nat → Int → Int} {v : Int} (h : rkMt S0 S) (e : v = S0 482 3 + 1) : rkLw S0 (bx_up S 482 3 v) := by
  obtain ⟨h0, h1, L, h2, h3⟩ := h
  refine Or.inr ⟨bx_up_at.trans e, fun j x y n3 z => (bx_up_ne (by omega)).trans (h1 j x y z), L, h2, rkTr_cg h3 fun j x y => bx_up_ne (by omega)⟩
theorem rkLw_ne {S0 S S_p : Nat → Int → Int} (h : rkLw S0 S) (e : ∀ j : Int, S_p 482 j = S 482 j) : rkLw S0 S_p := by
  have e : S_p 482 = S 482 := funext e
  unfold rkLw
  rw [e]
  exact h
