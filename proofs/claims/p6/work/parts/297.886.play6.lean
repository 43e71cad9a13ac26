/-! A PLAY'S TEXT in the reference's rows -/
theorem rzPC_if {T : Int → Int} {n f lf : Int} {r r2 : rzR} (h : rzPC T n f lf r2) (g : rzPH T n rzPn f lf r) (gr : r.1 = true) : rzIf T n rzPn r.2.1 r.2.2 r2 := by
  have no : ∀ {a b : Int}, r = (false, a, b) → False := fun e => by
    rw [e] at gr
    cases gr
  rcases rzAlt_c g h with ⟨g, h⟩ | ⟨a, -⟩
  · rcases rzAlt_c g h with ⟨g, h⟩ | ⟨a, -⟩
    · rcases rzAlt_c g h with ⟨g, h⟩ | ⟨a, -⟩
      · rcases rzAlt_c g h with ⟨g, h⟩ | ⟨a, -⟩
        · rcases rzAlt_c g h with ⟨a, h⟩ | ⟨g, h⟩
          · subst a
            exact h
          · rcases rzAlt_c g h with ⟨c, d⟩ | ⟨a, -⟩
            · obtain ⟨s1, u1, u2⟩ := c
              obtain ⟨s2, v1, v2⟩ := d
              have e := rzDet_ex s1 s2 u1 v1
              subst e
              rcases u2 with ⟨z, w⟩ | ⟨z, w⟩
              · subst w
                rw [gr] at z
                cases z
              · rcases v2 with ⟨z2, -⟩ | ⟨-, w2⟩
                · rw [z] at z2
                  cases z2
                · rcases rzAlt_c w w2 with ⟨p, s, q1, q2⟩ | ⟨p, p2⟩
                  · have e := rzDet_ex s r q1 p
                    subst e
                    rcases q2 with ⟨z3, -⟩ | ⟨-, z3⟩
                    · rw [gr] at z3
                      cases z3
                    · exact z3
                  · subst p
                    exact p2
            · exact (no a).elim
        · exact (no a).elim
      · exact (no a).elim
    · exact (no a).elim
  · exact (no a).elim
/-- the clauses from k on -/
def rjPm (S : Nat → Int → Int) : Int → List rkQ → Prop
  | _, [] => True
  | k, q :: L => rjCp S k q ∧ rjPm S (k + 1) L
theorem rjCp_fr {S S_p : Nat → Int → Int} {k : Int} {q : rkQ} (h : rjCp S k q) (r : ∀ j : Int, 0 ≤ j → j < 10 * S 480 16 → S_p 496 j = S 496 j) (f : ∀ i : Int, 0 ≤ i → i < S 480 18 → S_p 487 i = S 487 i ∧ S_p 488 i = S 488 i) (hc : rxPd S) (k0 : 0 ≤ k) (k1 : k < S 480 16) : rjCp S_p k q := by
  obtain ⟨h1, h2, h3, h4, h5, h6, h7⟩ := h
  have c4 : S 496 (10 * k + 4) ≤ S 480 18 := by
    have := (hc k k0 k1 3 (by omega) (by omega)).2.1
    rwa [show 10 * k + 3 + 1 = 10 * k + 4 by omega] at this
  have c5 : S 496 (10 * k + 5) ≤ S 480 18 := by
    have := (hc k k0 k1 4 (by omega) (by omega)).2.1
    rwa [show 10 * k + 4 + 1 = 10 * k + 5 by omega] at this
  have c6 : S 496 (10 * k + 6) ≤ S 480 18 := by
    have := (hc k k0 k1 5 (by omega) (by omega)).2.1
    rwa [show 10 * k + 5 + 1 = 10 * k + 6 by omega] at this
  refine ⟨(r _ (by omega) (by omega)).trans h1, (r _ (by omega) (by omega)).trans h2, (r _ (by omega) (by omega)).trans h3, h4, ?_, ?_, ?_⟩
  · rw [r (10 * k + 3) (by omega) (by omega), r (10 * k + 4) (by omega) (by omega)]
    exact rjGz_fr h5 f c4
  · rw [r (10 * k + 4) (by omega) (by omega), r (10 * k + 5) (by omega) (by omega)]
    exact rjGz_fr h6 f c5
  · rw [r (10 * k + 5) (by omega) (by omega), r (10 * k + 6) (by omega) (by omega)]
    exact rjGz_fr h7 f c6
theorem rjPm_fr {S S_p : Nat → Int → Int} (r : ∀ j : Int, 0 ≤ j → j < 10 * S 480 16 → S_p 496 j = S 496 j) (f : ∀ i : Int, 0 ≤ i → i < S 480 18 → S_p 487 i = S 487 i ∧ S_p 488 i = S 488 i) (hc : rxPd S) : ∀ {L : List rkQ} {k : Int}, 0 ≤ k → k + (L.length : Int) ≤ S 480 16 → rjPm S k L → rjPm S_p k L
  | [], _, _, _, _ => trivial
  | q :: L, k, k0, hl, h => by
    simp only [List.length_cons] at hl
    exact ⟨rjCp_fr h.1 r f hc k0 (by omega), rjPm_fr r f hc (by omega) (by omega) h.2⟩
theorem rjPm_ne {S S_p : Nat → Int → Int} (r : ∀ j : Int, S_p 496 j = S 496 j) (f : ∀ i : Int, S_p 487 i = S 487 i ∧ S_p 488 i = S 488 i) : ∀ {L : List rkQ} {k : Int}, rjPm S k L → rjPm S_p k L
  | [], _, _ => trivial
  | q :: L, k, h => by
    obtain ⟨h1, h2, h3, h4, h5, h6, h7⟩ := h.1
    refine ⟨⟨(r _).trans h1, (r _).trans h2, (r _).trans h3, h4, ?_, ?_, ?_⟩, rjPm_ne r f h.2⟩
    · rw [r, r]
      exact rjGz_fr h5 (M := S 496 (10 * k + 4)) (fun i _ _ => f i) (Int.le_refl _)
    · rw [r, r]
      exact rjGz_fr h6 (M := S 496 (10 * k + 5)) (fun i _ _ => f i) (Int.le_refl _)
    · rw [r, r]
      exact rjGz_fr h7 (M := S 496 (10 * k + 6)) (fun i _ _ => f i) (Int.le_refl _)
theorem rjPm_ap {S : Nat → Int → Int} {q : rkQ} : ∀ {L : List rkQ} {k : Int}, rjPm S k L → rjCp S (k + (L.length : Int)) q → rjPm S k (L ++ [q])
  | [], k, _, h => by
    simp only [List.length_nil] at h
    exact ⟨by rw [show k = k + ((0 : Nat) : Int) by omega]; exact h, trivial⟩
  | x :: L, k, g, h => by
    simp only [List.length_cons] at h
    exact ⟨g.1, rjPm_ap g.2 (by rw [show k + 1 + (L.length : Int) = k + ((L.length + 1 : Nat) : Int) by omega]; exact h)⟩
/-- ahead of a clause -/
def rjMp (S0 S : Nat → Int → Int) : Prop := ∃ L : List rkQ, S 480 16 = (L.length : Int) ∧ rjPm S 0 L ∧ ∀ L' : List rkQ, rkTx true (rzCut (S0 485)) (S0 480 8) (12 - S 480 16).toNat (S 480 9) (S 480 21) L' → rkText true (rzCut (S0 485)) (S0 480 8) (L ++ L')
/-- behind it -/
def rjMq (S0 S : Nat → Int → Int) : Prop := ∃ L : List rkQ, S 480 16 = (L.length : Int) ∧ rjPm S 0 L ∧ ∀ L' : List rkQ, rzAlt (rzSg (rzCut (S0 485)) (S0 480 8) 59 (S 480 9)) (rkTx true (rzCut (S0 485)) (S0 480 8) (12 - S 480 16).toNat (rzN (rzCut (S0 485)) (S0 480 8) (S 480 9)) (S 480 21) L') (L' = []) → rkText true (rzCut (S0 485)) (S0 480 8) (L ++ L')
/-- the whole -/
def rjMz (S0 S : Nat → Int → Int) : Prop := ∃ L : List rkQ, rkText true (rzCut (S0 485)) (S0 480 8) L ∧ S 480 16 = (L.length : Int) ∧ rjPm S 0 L
theorem rjMp_0 {S0 S : Nat → Int → Int} (e16 : S 480 16 = 0) (e9 : S 480 9 = rzF (rzCut (S0 485)) (S0 480 8) 0) (e21 : S 480 21 = 0) : rjMp S0 S := by
  refine ⟨[], e16, trivial, fun L' h => ?_⟩
  rw [e16, e9, e21] at h
  exact h
theorem rjMq_of {S0 S S_p : Nat → Int → Int} {P : rzR → Prop} (h : rjMp S0 S) (hc : rxPd S) (eT : rzCut (S 485) = rzCut (S0 485)) (en : S 480 8 = S0 480 8) (b16 : 0 ≤ S 480 16) (g : rjYZ S S_p) (x : rzCo S S_p P) (z : S_p 480 14 = 0) (e16 : S_p 480 16 = S 480 16 + 1) (hP : ∀ r : rzR, P r → r.1 = true → S 480 16 < 12 ∧ rzPC (rzCut (S 485)) (S 480 8) (S 480 9) (S 480 21) r) : rjMq S0 S_p := by
  obtain ⟨L, h1, h2, h3⟩ := h
  obtain ⟨q, r, t, ⟨g1, g2, g3⟩, g4, g5, g6, g7⟩ := g
  obtain ⟨-, -, r2, p1, p2, p3, p4⟩ := x.1 z
  obtain ⟨n12, lc⟩ := hP r2 p1 p2
  have hf := rzPC_if lc g1 g2
  rw [eT, en] at g1 g3 g4 hf
  have hl : ((L ++ [((q.1, q.2.1, q.2.2.1, q.2.2.2.1, q.2.2.2.2.1, t) : rkQ)]).length : Int) = (L.length : Int) + 1 := by simp
  refine ⟨L ++ [(q.1, q.2.1, q.2.2.1, q.2.2.2.1, q.2.2.2.2.1, t)], by omega, rjPm_ap (rjPm_fr g7 g6 hc (Int.le_refl 0) (by omega) h2) (by rw [← h1, Int.zero_add]; exact g5), fun L' hL => ?_⟩
  rw [List.append_assoc]
  refine h3 _ ?_
  rw [show (12 - S 480 16).toNat = (12 - S_p 480 16).toNat + 1 by omega]
  rw [p3, p4] at hL
  exact ⟨r, r2, q, t, L', g1, g3, hf, g4, rfl, hL⟩
theorem rjMp_of {S0 S S_p : Nat → Int → Int} (h : rjMq S0 S) (hs : rzSg (rzCut (S0 485)) (S0 480 8) 59 (S 480 9) = true) (e9 : S_p 480 9 = rzN (rzCut (S0 485)) (S0 480 8) (S 480 9)) (e21 : S_p 480 21 = S 480 21) (e16 : S_p 480 16 = S 480 16) (hp : ∀ L : List rkQ, S 480 16 = (L.length : Int) → rjPm S 0 L → rjPm S_p 0 L) : rjMp S0 S_p := by
  obtain ⟨L, h1, h2, h3⟩ := h
  refine ⟨L, e16.trans h1, hp L h1 h2, fun L' hL => h3 L' (rzAlt_y hs ?_)⟩
  rw [e16, e9, e21] at hL
  exact hL
theorem rjMz_of {S0 S S_p : Nat → Int → Int} (h : rjMq S0 S) (hs : rzSg (rzCut (S0 485)) (S0 480 8) 59 (S 480 9) = false) (e16 : S_p 480 16 = S 480 16) (hp : ∀ L : List rkQ, S 480 16 = (L.length : Int) → rjPm S 0 L → rjPm S_p 0 L) : rjMz S0 S_p := by
  obtain ⟨L, h1, h2, h3⟩ := h
  have t := h3 [] (rzAlt_n hs rfl)
  rw [List.append_nil] at t
  exact ⟨L, t, e16.trans h1, hp L h1 h2⟩
theorem rjMz_ne {S0 S S_p : Nat → Int → Int} (h : rjMz S0 S) (e16 : S_p 480 16 = S 480 16) (r : ∀ j : Int, S_p 496 j = S 496 j) (f : ∀ i : Int, S_p 487 i = S 487 i ∧ S_p 488 i = S 488 i) : rjMz S0 S_p := by
  obtain ⟨L, h1, h2, h3⟩ := h
  exact ⟨L, h1, e16.trans h2, rjPm_ne r f h3⟩
theorem rjPm_sm {ms : List (Nat × Nat)} {S S_p : Nat → Int → Int} (hs : bx_same rxL (bx_mdl ms) S S_p) (hk : [(1068, 0), (1069, 0)].all (fun q => !(bx_mdl ms q.1 q.2)) = true) (hr : ∀ j : Int, 0 ≤ j → j < 120 → S_p 496 j = S 496 j) (hc : rxPd S) (b16 : S 480 16 ≤ 12) (b18 : S 480 18 ≤ 400) (L : List rkQ) (hL : S 480 16 = (L.length : Int)) (h : rjPm S 0 L) : rjPm S_p 0 L :=
  rjPm_fr (fun j x y => hr j x (by omega)) (fun i x y => rkFm_sm hs hk i x (by omega)) hc (Int.le_refl 0) (by omega) h
theorem rjPm_at {S : Nat → Int → Int} {q : rkQ} {L2 : List rkQ} : ∀ {L1 : List rkQ} {k : Int}, rjPm S k (L1 ++ q :: L2) → rjCp S (k + (L1.length : Int)) q
  | [], k, h => by
    simp only [List.length_nil]
    rw [show k + ((0 : Nat) : Int) = k by omega]
    exact h.1
  | x :: L1, k, h => by
    have g := rjPm_at (L1 := L1) h.2
    simp only [List.length_cons]
    rw [show k + ((L1.length + 1 : Nat) : Int) = k + 1 + (L1.length : Int) by omega]
    exact g
