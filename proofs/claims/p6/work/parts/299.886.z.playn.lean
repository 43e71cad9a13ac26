/-! A PLAY'S TEXT is made of clauses as they may be -/
theorem rzPH_lf {T : Int → Int} {n f lf : Int} {ws : List (List Int)} {r : rzR} (h : rzPH T n ws f lf r) (h0 : 0 ≤ lf) (h50 : lf ≤ 50) : 0 ≤ r.2.2 ∧ r.2.2 ≤ 50 := by
  have no : ∀ {a : Int}, r = (false, a, lf) → 0 ≤ r.2.2 ∧ r.2.2 ≤ 50 := fun e => by
    rw [e]
    exact ⟨h0, h50⟩
  rcases h with ⟨-, h⟩ | ⟨-, h⟩
  · rcases h with ⟨-, h⟩ | ⟨-, h⟩
    · rcases h with ⟨-, h⟩ | ⟨-, h⟩
      · rcases h with ⟨-, h⟩ | ⟨-, h⟩
        · rcases h with ⟨-, h⟩ | ⟨-, h⟩
          · rw [h]
            exact ⟨h0, h50⟩
          · rcases h with ⟨-, r1, g1, g2⟩ | ⟨-, h⟩
            · have b := rzEx_lf g1 h0 h50
              rcases g2 with ⟨-, g2⟩ | ⟨-, g2⟩
              · rw [g2]
                exact b
              · rcases g2 with ⟨-, g2⟩ | ⟨-, g2⟩
                · exact rzEx_lf g2 b.1 b.2
                · rw [g2]
                  exact b
            · exact no h
        · exact no h
      · exact no h
    · exact no h
  · exact no h
theorem rkTx_pl {T : Int → Int} {n : Int} : ∀ {c : Nat} {f lf : Int} {L : List rkQ}, 0 ≤ lf → lf ≤ 50 → rkTx true T n c f lf L → ∀ q ∈ L, rjQl q
  | 0, _, _, _, _, _, h => h.elim
  | c + 1, f, lf, L, h0, h50, h => by
    obtain ⟨r, r2, q, t, L', a1, a2, a3, a4, a5, a6⟩ := h
    have a1 : rzPH T n rzPn f lf r := a1
    have a2 : rkPH T n rzPn f lf q := a2
    have a3 : rzIf T n rzPn r.2.1 r.2.2 r2 := a3
    have a4 : rkIf T n rzPn r.2.1 r.2.2 t := a4
    have b1 := rzPH_lf a1 h0 h50
    have b2 := rzIf_lf a3 b1.1 b1.2
    have hw : rzPn.length ≤ 8 := by decide
    have hw6 : (rzPn.length : Int) ≤ 6 := by decide
    have ht : ∀ d : rkC, t = some d → rkWm d true ∧ rjN 6 d := fun d e => by
      rcases a4 with ⟨-, d', x, y⟩ | ⟨-, y⟩
      · rw [y] at e
        cases e
        exact ⟨rkEx_wm hw (Or.inr rfl) b1.1 b1.2 (rkEx_w hw x) x, rjEx_w (by decide) hw6 x⟩
      · rw [y] at e
        cases e
    have hq : rjQl (q.1, q.2.1, q.2.2.1, q.2.2.2.1, q.2.2.2.2.1, t) := by
      obtain ⟨f1, f2, f3, f4, -, -, -, -, a2⟩ := a2
      rcases a2 with ⟨-, y⟩ | ⟨-, d, s, g, x, sx, hg, y⟩
      · subst y
        exact ⟨Or.inr rfl, fun e => absurd rfl e, fun d e => (by cases e), fun d e => (by cases e), ht⟩
      · subst y
        have bs := rzEx_lf sx h0 h50
        refine ⟨Or.inl rfl, fun _ => ⟨d, rfl⟩, fun d' e => ?_, fun d' e => ?_, ht⟩
        · cases e
          exact ⟨rkEx_wm hw (Or.inl rfl) h0 h50 (rkEx_w hw x) x, rjEx_w (by decide) hw6 x⟩
        · rcases hg with ⟨-, d2, x2, y2⟩ | ⟨-, y2⟩
          · have e : g = some d' := e
            rw [y2] at e
            cases e
            exact ⟨rkEx_wm hw (Or.inl rfl) bs.1 bs.2 (rkEx_w hw x2) x2, rjEx_w (by decide) hw6 x2⟩
          · have e : g = some d' := e
            rw [y2] at e
            cases e
    subst a5
    intro q_p hm
    rcases List.mem_cons.mp hm with e | e
    · subst e
      exact hq
    · rcases a6 with ⟨-, y⟩ | ⟨-, y⟩
      · exact rkTx_pl b2.1 b2.2 y q_p e
      · rw [y] at e
        cases e
theorem rkText_pl {T : Int → Int} {n : Int} {L : List rkQ} (h : rkText true T n L) : ∀ q ∈ L, rjQl q := rkTx_pl (Int.le_refl 0) (by decide) h
