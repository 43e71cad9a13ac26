/-! A LAW'S TEXT is made of clauses as they may be -/
theorem rzRun_lf {T : Int → Int} {n : Int} {ws : List (List Int)} : ∀ (k : Nat) (f : Int) (lv : List Int) (pr : Bool) (lf : Int) (r : rzR), rzRun T n ws k f lv pr lf = some r → 0 ≤ lf → lf ≤ 50 → 0 ≤ r.2.2 ∧ r.2.2 ≤ 50
  | 0, f, lv, pr, lf, r, h, _, _ => by cases h
  | k + 1, f, lv, pr, lf, r, h, h0, h50 => by
    have h : (match rzStep T n ws f lv pr lf with
      | (0, f', lv', pr', lf') => rzRun T n ws k f' lv' pr' lf'
      | (1, _, _, _, _) => some (true, f, lf)
      | _ => some (false, f, lf)) = some r := h
    match hs : rzStep T n ws f lv pr lf, h with
    | (0, f', lv', pr', lf'), h =>
      have b : 0 ≤ lf' ∧ lf' ≤ 50 := by
        cases lv with
        | nil =>
          have hs : ((2, f, [], pr, lf) : rzA) = (0, f', lv', pr', lf') := hs
          cases hs
        | cons s rest =>
          cases pr with
          | true =>
            have := rzStep_l1 hs
            omega
          | false =>
            have q := rzStep_l0 hs
            have q2 := q.2 h50
            have q1 := q.1
            split at q1 <;> omega
      exact rzRun_lf k f' lv' pr' lf' r h b.1 b.2
    | (1, _, _, _, _), h =>
      have e := Option.some.inj h
      subst e
      exact ⟨h0, h50⟩
    | (q + 2, _, _, _, _), h =>
      have e := Option.some.inj h
      subst e
      exact ⟨h0, h50⟩
theorem rzEx_lf {T : Int → Int} {n test f lf : Int} {ws : List (List Int)} {r : rzR} (h : rzEx T n ws test f lf r) (h0 : 0 ≤ lf) (h50 : lf ≤ 50) : 0 ≤ r.2.2 ∧ r.2.2 ≤ 50 := by
  obtain ⟨k, hk⟩ := h
  exact rzRun_lf k _ _ _ _ _ hk h0 h50
theorem rzIf_lf {T : Int → Int} {n f lf : Int} {ws : List (List Int)} {r : rzR} (h : rzIf T n ws f lf r) (h0 : 0 ≤ lf) (h50 : lf ≤ 50) : 0 ≤ r.2.2 ∧ r.2.2 ≤ 50 := by
  rcases h with ⟨-, h⟩ | ⟨-, h⟩
  · exact rzEx_lf h h0 h50
  · subst h
    exact ⟨h0, h50⟩
theorem rzLH_lf {T : Int → Int} {n f lf : Int} {ws : List (List Int)} {r : rzR} (h : rzLH T n ws f lf r) (h0 : 0 ≤ lf) (h50 : lf ≤ 50) : 0 ≤ r.2.2 ∧ r.2.2 ≤ 50 := by
  rcases h with ⟨-, h⟩ | ⟨-, ⟨-, h⟩ | ⟨-, h⟩⟩
  · subst h
    exact ⟨h0, h50⟩
  · exact rzEx_lf h h0 h50
  · subst h
    exact ⟨h0, h50⟩
theorem rkEx_wm {T : Int → Int} {n test f lf : Int} {ws : List (List Int)} {d : rkC} (hw : ws.length ≤ 8) (ht : test = 0 ∨ test = 1) (h0 : 0 ≤ lf) (h50 : lf ≤ 50) (hk : rkW d) (h : rkEx T n ws test f lf d) : rkWm d (decide (test ≠ 0)) := ⟨rkEx_t hw ht h, hk, rkEx_n hw h0 h50 h⟩
theorem rkRun_w {T : Int → Int} {n : Int} {ws : List (List Int)} (hw : ws.length ≤ 8) {d : rkC} : ∀ (k : Nat) (f : Int) (lv : List Int) (pr : Bool) (lf : Int) (c : rkC), rkRun T n ws k f lv pr lf c = some d → rkW c → rkW d
  | 0, f, lv, pr, lf, c, h, _ => by cases h
  | k + 1, f, lv, pr, lf, c, h, hc => by
    have h : (match rzStep T n ws f lv pr lf with
      | (0, f', lv', pr', lf') => rkRun T n ws k f' lv' pr' lf' (rkSt T n ws f lv pr c)
      | (1, _, _, _, _) => some (rkRed 1 c)
      | _ => none) = some d := h
    match hs : rzStep T n ws f lv pr lf, h with
    | (0, f', lv', pr', lf'), h =>
      refine rkRun_w hw k f' lv' pr' lf' _ h ?_
      cases lv with
      | nil => exact hc
      | cons s rest => exact (rkSt_w hw hc).1
    | (1, _, _, _, _), h =>
      have e := Option.some.inj h
      rw [← e]
      exact (rkRed_w (l := 1) (by omega) hc).1
    | (q + 2, _, _, _, _), h => cases h
theorem rkEx_w {T : Int → Int} {n test f lf : Int} {ws : List (List Int)} {d : rkC} (hw : ws.length ≤ 8) (h : rkEx T n ws test f lf d) : rkW d := by
  obtain ⟨k, hk⟩ := h
  exact rkRun_w hw k _ _ _ _ _ hk rkW_0
theorem rkTx_ln {T : Int → Int} {n : Int} : ∀ {c : Nat} {f lf : Int} {L : List rkQ}, 0 ≤ lf → lf ≤ 50 → rkTx false T n c f lf L → rkLn L
  | 0, _, _, _, _, _, h => h.elim
  | c + 1, f, lf, L, h0, h50, h => by
    obtain ⟨r, r2, q, t, L', a1, a2, a3, a4, a5, a6⟩ := h
    have a1 : rzLH T n rzLn_ f lf r := a1
    have a2 : rkLH T n rzLn_ f lf q := a2
    have a3 : rzIf T n rzLn_ r.2.1 r.2.2 r2 := a3
    have a4 : rkIf T n rzLn_ r.2.1 r.2.2 t := a4
    have b1 := rzLH_lf a1 h0 h50
    have b2 := rzIf_lf a3 b1.1 b1.2
    have hw : rzLn_.length ≤ 8 := by decide
    have ht : ∀ d : rkC, t = some d → rkWm d true := fun d e => by
      rcases a4 with ⟨-, d', x, y⟩ | ⟨-, y⟩
      · rw [y] at e
        cases e
        exact rkEx_wm hw (Or.inr rfl) b1.1 b1.2 (rkEx_w hw x) x
      · rw [y] at e
        cases e
    have hq : rkQl (q.1, q.2.1, q.2.2.1, q.2.2.2.1, q.2.2.2.2.1, t) ∧ q.2.2.2.2.1 = none := by
      rcases a2 with ⟨-, y⟩ | ⟨-, d, x, y⟩
      · subst y
        exact ⟨⟨show (0 : Int) ≤ 2 by decide, show (2 : Int) ≤ 2 by decide, fun e => absurd rfl e, fun d e => (by cases e), ht⟩, rfl⟩
      · subst y
        refine ⟨⟨?_, ?_, fun _ => ⟨d, rfl⟩, fun d' e => ?_, ht⟩, rfl⟩
        · show 0 ≤ (if rzIs T n rzW_slips f = true then (0 : Int) else 1)
          split <;> omega
        · show (if rzIs T n rzW_slips f = true then (0 : Int) else 1) ≤ 2
          split <;> omega
        · cases e
          exact rkEx_wm hw (Or.inl rfl) h0 h50 (rkEx_w hw x) x
    subst a5
    intro q_p hm
    rcases List.mem_cons.mp hm with e | e
    · subst e
      exact hq
    · rcases a6 with ⟨-, y⟩ | ⟨-, y⟩
      · exact rkTx_ln b2.1 b2.2 y q_p e
      · rw [y] at e
        cases e
theorem rkText_ln {T : Int → Int} {n : Int} {L : List rkQ} (h : rkText false T n L) : rkLn L := rkTx_ln (Int.le_refl 0) (by decide) h
theorem rkLn_l {L : List rkQ} (h : rkLn L) : rkLl L := fun q m => (h q m).1
