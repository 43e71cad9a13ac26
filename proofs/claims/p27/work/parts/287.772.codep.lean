theorem rkHK {vs : Int → Int} {q : rkQ} {hd y y_p : Int} (n : q.1 ≠ hd) (g : rkJ1 hd vs q y y_p) : y_p = y := by
  rcases g with g | g
  · exact g.2
  · exact absurd g.1 n
theorem rkHKf {vs : Int → Int} {q : rkQ} {hd y y_p : Int} (f : rkFal vs q.2.2.2.2.2) (g : rkJ1 hd vs q y y_p) : y_p = y := by
  rcases g with g | ⟨-, g | g⟩
  · exact g.2
  · exact g.2
  · exact (rkTF g.1 f).elim
theorem rkHKs {vs : Int → Int} {q : rkQ} {hd y y_p : Int} (t : rkTru vs q.2.2.2.2.2) (h2 : hd ≠ 2) (n : q.1 = hd) (g : rkJ1 hd vs q y y_p) : (rkSum vs q.2.2.2.1 none ∧ y_p = y) ∨ rkSum vs q.2.2.2.1 (some y_p) := by
  rcases g with g | ⟨-, g | ⟨-, g | g⟩⟩
  · exact absurd n g.1
  · exact (rkTF t g.1).elim
  · exact absurd g.1 h2
  · exact g.2
theorem rkHJ_0 {vs : Int → Int} {q : rkQ} {x z : rkH3} {a a_p : Int} (h : rkH1 vs q x z) (g : rkJ1 0 vs q a a_p) (e : x.1 = rkNear a 100) : z.1 = rkNear a_p 100 := by
  rcases h with ⟨f, ez⟩ | ⟨t, ⟨k2, ez⟩ | ⟨k2, ⟨s, ez⟩ | ⟨v, s, ez⟩⟩⟩
  · rw [ez, rkHKf f g]
    exact e
  · rw [ez, rkHK (by omega) g]
    exact e
  · by_cases k : q.1 = 0
    · rcases rkHKs t (by decide) k g with w | w
      · rw [ez, w.2]
        exact e
      · cases rkSum_det s w
    · rw [ez, rkHK k g]
      exact e
  · by_cases k : q.1 = 0
    · rw [ez, if_pos k]
      rcases rkHKs t (by decide) k g with w | w
      · cases rkSum_det s w.1
      · rw [Option.some.inj (rkSum_det s w)]
    · rw [ez, if_neg k, rkHK k g]
      exact e
theorem rkHJ_1 {vs : Int → Int} {q : rkQ} {x z : rkH3} {a a_p : Int} (hq : rkQl q) (h : rkH1 vs q x z) (g : rkJ1 1 vs q a a_p) (e : x.2.1 = rkNear a 99) : z.2.1 = rkNear a_p 99 := by
  obtain ⟨q0, q2, -⟩ := hq
  rcases h with ⟨f, ez⟩ | ⟨t, ⟨k2, ez⟩ | ⟨k2, ⟨s, ez⟩ | ⟨v, s, ez⟩⟩⟩
  · rw [ez, rkHKf f g]
    exact e
  · rw [ez, rkHK (by omega) g]
    exact e
  · by_cases k : q.1 = 1
    · rcases rkHKs t (by decide) k g with w | w
      · rw [ez, w.2]
        exact e
      · cases rkSum_det s w
    · rw [ez, rkHK k g]
      exact e
  · by_cases k : q.1 = 1
    · rw [ez, if_neg (by omega)]
      rcases rkHKs t (by decide) k g with w | w
      · cases rkSum_det s w.1
      · rw [Option.some.inj (rkSum_det s w)]
    · rw [ez, if_pos (by omega), rkHK k g]
      exact e
theorem rkHJ_2 {vs : Int → Int} {q : rkQ} {x z : rkH3} {a a_p : Int} (h : rkH1 vs q x z) (g : rkJ1 2 vs q a a_p) (e : x.2.2 = a) : z.2.2 = a_p := by
  rcases h with ⟨f, ez⟩ | ⟨t, ⟨k2, ez⟩ | ⟨k2, h⟩⟩
  · rw [ez, rkHKf f g]
    exact e
  · rw [ez]
    rcases g with g | ⟨-, g | ⟨-, g | g⟩⟩
    · exact absurd k2 g.1
    · exact (rkTF t g.1).elim
    · exact g.2.symm
    · exact absurd rfl g.1
  · rw [rkHK k2 g]
    rcases h with ⟨s, ez⟩ | ⟨v, s, ez⟩
    · rw [ez]
      exact e
    · rw [ez]
      split
      · exact e
      · exact e
theorem rkHJr_0 {vs : Int → Int} : ∀ {L : List rkQ} {x z : rkH3} {a a_p : Int}, rkHr vs L x z → rkJr 0 vs L a a_p → x.1 = rkNear a 100 → z.1 = rkNear a_p 100
  | [], x, z, a, a_p, h, g, e => by
    have h : z = x := h
    have g : a_p = a := g
    rw [h, g]
    exact e
  | q :: L, x, z, a, a_p, h, g, e => by
    obtain ⟨y, h1, h2⟩ := h
    obtain ⟨b, g1, g2⟩ := g
    exact rkHJr_0 h2 g2 (rkHJ_0 h1 g1 e)
theorem rkHJr_1 {vs : Int → Int} : ∀ {L : List rkQ} {x z : rkH3} {a a_p : Int}, rkLl L → rkHr vs L x z → rkJr 1 vs L a a_p → x.2.1 = rkNear a 99 → z.2.1 = rkNear a_p 99
  | [], x, z, a, a_p, _, h, g, e => by
    have h : z = x := h
    have g : a_p = a := g
    rw [h, g]
    exact e
  | q :: L, x, z, a, a_p, hl, h, g, e => by
    obtain ⟨y, h1, h2⟩ := h
    obtain ⟨b, g1, g2⟩ := g
    exact rkHJr_1 (fun q_p m => hl q_p (List.mem_cons_of_mem _ m)) h2 g2 (rkHJ_1 (hl q (List.mem_cons_self ..)) h1 g1 e)
theorem rkHJr_2 {vs : Int → Int} : ∀ {L : List rkQ} {x z : rkH3} {a a_p : Int}, rkHr vs L x z → rkJr 2 vs L a a_p → x.2.2 = a → z.2.2 = a_p
  | [], x, z, a, a_p, h, g, e => by
    have h : z = x := h
    have g : a_p = a := g
    rw [h, g]
    exact e
  | q :: L, x, z, a, a_p, h, g, e => by
    obtain ⟨y, h1, h2⟩ := h
    obtain ⟨b, g1, g2⟩ := g
    exact rkHJr_2 h2 g2 (rkHJ_2 h1 g1 e)
theorem rkJr2_b {vs : Int → Int} : ∀ {L : List rkQ} {a a_p : Int}, rkJr 2 vs L a a_p → (a = 0 ∨ a = 1) → (a_p = 0 ∨ a_p = 1)
  | [], a, a_p, g, e => by
    have g : a_p = a := g
    rw [g]
    exact e
  | q :: L, a, a_p, g, e => by
    obtain ⟨b, g1, g2⟩ := g
    refine rkJr2_b g2 ?_
    rcases g1 with g | ⟨-, g | ⟨-, g | g⟩⟩
    · rw [g.2]
      exact e
    · rw [g.2]
      exact e
    · exact Or.inr g.2
    · exact absurd rfl g.1
noncomputable def rqZ (R : Int → Int) (p pa t : Int) (z : rkH3) : Prop := (R 4 = -1 ∧ z = (R 9, 1, 0)) ∨ (R 4 ≠ -1 ∧ ∃ L : List rkQ, rkTr R (R 4) L ∧ rkLn L ∧ rkHr (rkVv p (R (240 + 3 * p)) (R (238 + 3 * p)) (R (239 + 3 * p)) pa t (R 7) (R 8)) L (R 9, 1, 0) z)
theorem rqZ_0 {R : Int → Int} {p pa t x : Int} {z : rkH3} (h9 : 0 ≤ R 9 ∧ R 9 ≤ 100) (h : rqZ R p pa t z) (g : rqAs R p pa t (R 7) 0 (R 9) x) : z.1 = rkNear x 100 := by
  rcases h with ⟨a, h⟩ | ⟨a, L, h1, h2, h3⟩
  · rcases g with ⟨-, g⟩ | ⟨b, -⟩
    · rw [h, g]
      exact (rkNear_i h9.1 h9.2).symm
    · exact absurd a b
  · rcases g with ⟨b, -⟩ | ⟨-, g⟩
    · exact absurd b a
    · exact rkHJr_0 h3 (g L h1 (rkLn_l h2)) (rkNear_i h9.1 h9.2).symm
theorem rqZ_1 {R : Int → Int} {p pa t x : Int} {z : rkH3} (h : rqZ R p pa t z) (g : rqAs R p pa t (R 7) 1 1 x) : z.2.1 = rkNear x 99 := by
  rcases h with ⟨a, h⟩ | ⟨a, L, h1, h2, h3⟩
  · rcases g with ⟨-, g⟩ | ⟨b, -⟩
    · rw [h, g]
      exact (rkNear_i (show (0 : Int) ≤ 1 by decide) (show (1 : Int) ≤ 99 by decide)).symm
    · exact absurd a b
  · rcases g with ⟨b, -⟩ | ⟨-, g⟩
    · exact absurd b a
    · exact rkHJr_1 (rkLn_l h2) h3 (g L h1 (rkLn_l h2)) (rkNear_i (show (0 : Int) ≤ 1 by decide) (show (1 : Int) ≤ 99 by decide)).symm
theorem rqZ_2 {R : Int → Int} {p pa t x : Int} {z : rkH3} (h : rqZ R p pa t z) (g : rqAs R p pa t (R 7) 2 0 x) : z.2.2 = if x = 1 then 1 else 0 := by
  have key : z.2.2 = x ∧ (x = 0 ∨ x = 1) := by
    rcases h with ⟨a, h⟩ | ⟨a, L, h1, h2, h3⟩
    · rcases g with ⟨-, g⟩ | ⟨b, -⟩
      · rw [h, g]
        exact ⟨rfl, Or.inl rfl⟩
      · exact absurd a b
    · rcases g with ⟨b, -⟩ | ⟨-, g⟩
      · exact absurd b a
      · have j := g L h1 (rkLn_l h2)
        exact ⟨rkHJr_2 h3 j rfl, rkJr2_b j (Or.inl rfl)⟩
  rw [key.1]
  rcases key.2 with e | e
  · rw [e]
    rfl
  · rw [e]
    rfl
