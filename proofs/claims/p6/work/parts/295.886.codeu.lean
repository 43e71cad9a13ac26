/-! WORDS THAT CODE ASKS FOR: none beyond those of its language; what others are is no matter -/
def rjN (m : Int) (c : rkC) : Prop := (∀ j : Int, 0 ≤ j → j < (c.1 : Int) → 20 ≤ rkPo c j) ∧ ∀ i : Int, i < rkM c → (0 ≤ rkFo c i ∧ rkFo c i ≤ m) ∨ 20 ≤ rkFo c i
section RJN
variable {m : Int} {c : rkC}
theorem rjN_0 (hm : 0 ≤ m) : rjN m rkC0 := ⟨fun j a b => by
  have b : j < ((0 : Nat) : Int) := b
  omega, fun i _ => Or.inl ⟨Int.le_refl 0, hm⟩⟩
theorem rjN_emit {op a : Int} (h : rjN m c) (ho : (0 ≤ op ∧ op ≤ m) ∨ 20 ≤ op) : rjN m (rkEmit op a c) := ⟨h.1, fun i b => by
  have b : i < rkM c + 1 := b
  show (0 ≤ rkUp (rkFo c) (rkM c) op i ∧ rkUp (rkFo c) (rkM c) op i ≤ m) ∨ 20 ≤ rkUp (rkFo c) (rkM c) op i
  by_cases e : i = rkM c
  · rw [e, rkUp_at]
    exact ho
  · rw [rkUp_ne e]
    exact h.2 i (by omega)⟩
theorem rjN_push {op a : Int} (h : rjN m c) (ho : 20 ≤ op) : rjN m (rkPush op a c) := ⟨fun j a0 b => by
  have b : j < ((c.1 + 1 : Nat) : Int) := b
  show 20 ≤ rkUp (rkPo c) (c.1 : Int) op j
  by_cases e : j = (c.1 : Int)
  · rw [e, rkUp_at]
    exact ho
  · rw [rkUp_ne e]
    exact h.1 j a0 (by omega), h.2⟩
theorem rjN_pop (h : rjN m c) : rjN m (rkPop c) := ⟨fun j a b => by
  have b : j < ((c.1 - 1 : Nat) : Int) := b
  exact h.1 j a (by omega), h.2⟩
theorem rjN_top (h : rjN m c) (hn : 0 < c.1) : rjN m (rkTop c) := by
  unfold rkTop
  split
  · exact ⟨(rjN_pop h).1, h.2⟩
  · exact rjN_emit (rjN_pop h) (Or.inr (h.1 _ (by omega) (by omega)))
theorem rjN_rd {l : Int} : ∀ (k : Nat) (c : rkC), rjN m c → rjN m (rkRd l k c)
  | 0, _, h => h
  | k + 1, c, h => by
    show rjN m (if 0 < c.1 ∧ l ≤ rkBd (rkPo c ((c.1 : Int) - 1)) then rkRd l k (rkTop c) else c)
    by_cases g : 0 < c.1 ∧ l ≤ rkBd (rkPo c ((c.1 : Int) - 1))
    · rw [if_pos g]
      exact rjN_rd k _ (rjN_top h g.1)
    · rw [if_neg g]
      exact h
theorem rjN_red {l : Int} (h : rjN m c) : rjN m (rkRed l c) := rjN_rd _ _ h
theorem rjN_st {T : Int → Int} {n : Int} {ws : List (List Int)} (hw : (ws.length : Int) ≤ m) {f : Int} {lv : List Int} {pr : Bool} (h : rjN m c) : rjN m (rkSt T n ws f lv pr c) := by
  cases lv with
  | nil => exact h
  | cons s rest =>
    cases pr with
    | false =>
      rw [rkSt_0]
      by_cases h1 : rzDg T n f = true
      · rw [if_pos h1]
        exact rjN_emit h (Or.inl ⟨by omega, by omega⟩)
      rw [if_neg h1]
      by_cases h2 : 0 ≤ rzIxn T n f ws 0
      · rw [if_pos h2]
        have q := rzIxn_le (T := T) (n := n) (f := f) (l := ws) (k := 0) (Int.le_refl 0)
        exact rjN_emit h (Or.inl ⟨by omega, by omega⟩)
      rw [if_neg h2]
      repeat' split
      all_goals exact rjN_push h (by decide)
    | true =>
      rw [rkSt_1]
      repeat' split
      all_goals first
        | exact rjN_pop (rjN_red h)
        | exact rjN_push (rjN_red h) (by decide)
        | exact rjN_push (rjN_emit (rjN_red h) (Or.inr (by decide))) (by decide)
theorem rjN_run {T : Int → Int} {n : Int} {ws : List (List Int)} (hw : (ws.length : Int) ≤ m) {d : rkC} : ∀ (k : Nat) (f : Int) (lv : List Int) (pr : Bool) (lf : Int) (c : rkC), rkRun T n ws k f lv pr lf c = some d → rjN m c → rjN m d
  | 0, f, lv, pr, lf, c, h, _ => by cases h
  | k + 1, f, lv, pr, lf, c, h, hc => by
    have h : (match rzStep T n ws f lv pr lf with
      | (0, f', lv', pr', lf') => rkRun T n ws k f' lv' pr' lf' (rkSt T n ws f lv pr c)
      | (1, _, _, _, _) => some (rkRed 1 c)
      | _ => none) = some d := h
    match hs : rzStep T n ws f lv pr lf, h with
    | (0, f', lv', pr', lf'), h => exact rjN_run hw k f' lv' pr' lf' _ h (rjN_st hw hc)
    | (1, _, _, _, _), h =>
      have e : rkRed 1 c = d := Option.some.inj h
      rw [← e]
      exact rjN_red hc
    | (q + 2, _, _, _, _), h => cases h
theorem rjEx_w {T : Int → Int} {n test f lf : Int} {ws : List (List Int)} {d : rkC} (hm : 0 ≤ m) (hw : (ws.length : Int) ≤ m) (h : rkEx T n ws test f lf d) : rjN m d := by
  obtain ⟨k, hk⟩ := h
  exact rjN_run hw k f [test] false lf rkC0 hk (rjN_0 hm)
theorem rkVl_v {d : rkC} {vs vs' : Int → Int} (hm : m ≤ 8) (hn : rjN m d) (hv : ∀ k : Int, 1 ≤ k → k ≤ m → vs k = vs' k) {r : Option (List Int)} : ∀ (k : Nat) (i : Int) (st : List Int), rkVl d vs k i st = some r → rkVl d vs' k i st = some r
  | 0, i, st, h => by cases h
  | k + 1, i, st, h => by
    unfold rkVl at h ⊢
    by_cases h1 : rkM d ≤ i
    · rw [if_pos h1] at h ⊢
      exact h
    rw [if_neg h1] at h ⊢
    by_cases h2 : rkFo d i ≤ 8
    · rw [if_pos h2] at h ⊢
      have e : (if rkFo d i = 0 then rkFa d i else vs (rkFo d i)) = (if rkFo d i = 0 then rkFa d i else vs' (rkFo d i)) := by
        by_cases z : rkFo d i = 0
        · rw [if_pos z, if_pos z]
        · rw [if_neg z, if_neg z]
          have q := hn.2 i (by omega)
          exact hv _ (by omega) (by omega)
      rw [← e]
      exact rkVl_v hm hn hv k _ _ h
    rw [if_neg h2] at h ⊢
    cases st with
    | nil => exact h
    | cons x st1 =>
      simp only at h ⊢
      by_cases h3 : rkFo d i = 28
      · rw [if_pos h3] at h ⊢
        exact rkVl_v hm hn hv k _ _ h
      rw [if_neg h3] at h ⊢
      by_cases h4 : rkFo d i = 29 ∨ rkFo d i = 30
      · rw [if_pos h4] at h ⊢
        by_cases h5 : x = (if rkFo d i = 30 then 1 else 0)
        · rw [if_pos h5] at h ⊢
          exact rkVl_v hm hn hv k _ _ h
        · rw [if_neg h5] at h ⊢
          exact rkVl_v hm hn hv k _ _ h
      rw [if_neg h4] at h ⊢
      cases st1 with
      | nil => exact h
      | cons y st2 =>
        simp only at h ⊢
        cases h6 : rkLm (rkBi (rkFo d i) y x) with
        | none =>
          rw [h6] at h
          exact h
        | some z =>
          rw [h6] at h
          exact rkVl_v hm hn hv k _ _ h
theorem rkEv_v {d : rkC} {vs vs' : Int → Int} (hm : m ≤ 8) (hn : rjN m d) (hv : ∀ k : Int, 1 ≤ k → k ≤ m → vs k = vs' k) {r : Option (List Int)} {i : Int} {st : List Int} (h : rkEv d vs i st r) : rkEv d vs' i st r := by
  obtain ⟨k, hk⟩ := h
  exact ⟨k, rkVl_v hm hn hv k i st hk⟩
end RJN
