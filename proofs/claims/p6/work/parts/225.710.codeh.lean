/-! HOW HIGH IT STANDS: as many parts as are read -/
def rkNu (fo : Int → Int) : Nat → Nat
  | 0 => 0
  | k + 1 => rkNu fo k + (if fo (k : Int) ≤ 8 then 1 else 0)
theorem rkNu_cg {fo fo' : Int → Int} : ∀ {k : Nat}, (∀ j : Int, j < (k : Int) → fo' j = fo j) → rkNu fo' k = rkNu fo k
  | 0, _ => rfl
  | k + 1, h => by
    show rkNu fo' k + (if fo' (k : Int) ≤ 8 then 1 else 0) = rkNu fo k + (if fo (k : Int) ≤ 8 then 1 else 0)
    rw [h k (by omega), rkNu_cg fun j hj => h j (by omega)]
theorem rkNu_mo {fo : Int → Int} {k : Nat} : ∀ j : Nat, rkNu fo k ≤ rkNu fo (k + j)
  | 0 => Nat.le_refl _
  | j + 1 => Nat.le_trans (rkNu_mo j) (Nat.le_add_right _ _)
def rkNc (c : rkC) : Nat := rkNu (rkFo c) (rkM c).toNat
theorem rkNc_emit {op a : Int} {c : rkC} (h0 : 0 ≤ rkM c) : rkNc (rkEmit op a c) = rkNc c + (if op ≤ 8 then 1 else 0) := by
  show rkNu (rkUp (rkFo c) (rkM c) op) (rkM c + 1).toNat = rkNu (rkFo c) (rkM c).toNat + _
  have e : (rkM c + 1).toNat = (rkM c).toNat + 1 := by omega
  have e2 : (((rkM c).toNat : Nat) : Int) = rkM c := by omega
  rw [e]
  show rkNu (rkUp (rkFo c) (rkM c) op) (rkM c).toNat + (if rkUp (rkFo c) (rkM c) op (((rkM c).toNat : Nat) : Int) ≤ 8 then 1 else 0) = _
  rw [e2, rkUp_at, rkNu_cg (fo := rkFo c) fun j hj => rkUp_ne (by omega)]
theorem rkNc_top {c : rkC} (h : rkW c) (hn : 0 < c.1) : rkNc (rkTop c) = rkNc c := by
  have q := (h.2.1 ((c.1 : Int) - 1) (by omega) (by omega)).1
  unfold rkTop
  by_cases hj : rkPo c ((c.1 : Int) - 1) = 29 ∨ rkPo c ((c.1 : Int) - 1) = 30
  · rw [if_pos hj]
    rfl
  · rw [if_neg hj, rkNc_emit (c := rkPop c) h.1, if_neg (by omega)]
    rfl
theorem rkNc_rd {l : Int} (hl : 1 ≤ l) : ∀ (k : Nat) (c : rkC), rkW c → rkNc (rkRd l k c) = rkNc c
  | 0, c, h => rfl
  | k + 1, c, h => by
    show rkNc (if 0 < c.1 ∧ l ≤ rkBd (rkPo c ((c.1 : Int) - 1)) then rkRd l k (rkTop c) else c) = rkNc c
    by_cases g : 0 < c.1 ∧ l ≤ rkBd (rkPo c ((c.1 : Int) - 1))
    · rw [if_pos g, rkNc_rd hl k _ (rkW_top h g.1 (rkBd_le (by omega))), rkNc_top h g.1]
    · rw [if_neg g]
theorem rkNc_red {l : Int} (hl : 1 ≤ l) {c : rkC} (h : rkW c) : rkNc (rkRed l c) = rkNc c := rkNc_rd hl _ _ h
section RKNH
variable {T : Int → Int} {n : Int} {ws : List (List Int)} {f s : Int} {rest : List Int} {c : rkC}
theorem rkNc_1 (h : rkW c) : rkNc (rkSt T n ws f (s :: rest) true c) = rkNc c := by
  have k : ∀ l : Int, 1 ≤ l → rkNc (rkRed l c) = rkNc c := fun l hl => rkNc_red hl h
  have e : ∀ l op : Int, 1 ≤ l → 9 ≤ op → rkNc (rkEmit op 0 (rkRed l c)) = rkNc c := fun l op hl ho => by
    rw [rkNc_emit (rkRed_w hl h).1.1, if_neg (by omega), k l hl]
    rfl
  rw [rkSt_1]
  (repeat' split) <;> first
    | exact k 1 (by omega)
    | exact k 4 (by omega)
    | exact k 5 (by omega)
    | exact k 6 (by omega)
    | exact e 2 29 (by omega) (by omega)
    | exact e 1 30 (by omega) (by omega)
theorem rkNc_0 (h : rkW c) : rkNc (rkSt T n ws f (s :: rest) false c) ≤ rkNc c + (if rzDg T n f = true ∨ 0 ≤ rzIxn T n f ws 0 then 1 else 0) := by
  have e : ∀ op a : Int, rkNc (rkEmit op a c) ≤ rkNc c + 1 := fun op a => by
    rw [rkNc_emit h.1]
    split <;> omega
  rw [rkSt_0]
  by_cases h1 : rzDg T n f = true
  · rw [if_pos h1, if_pos (Or.inl h1)]
    exact e _ _
  rw [if_neg h1]
  by_cases h2 : 0 ≤ rzIxn T n f ws 0
  · rw [if_pos h2, if_pos (Or.inr h2)]
    exact e _ _
  rw [if_neg h2]
  (repeat' split) <;> exact Nat.le_add_right _ _
theorem rzStep_l1 {lf f' lf' : Int} {lv' : List Int} {pr' : Bool} {q : Nat} (h : rzStep T n ws f (s :: rest) true lf = (q, f', lv', pr', lf')) : lf' = lf := by
  have h := congrArg (fun z : rzA => z.2.2.2.2) h
  have h : (if rest ≠ [] ∧ s = 0 ∧ rzSg T n 93 f = true then (0, rzN T n f, rest, true, lf)
      else if rest ≠ [] ∧ (s = 3 ∨ s = 4) ∧ rzSg T n 41 f = true then (0, rzN T n f, 4 :: rest.tail, true, lf)
      else if (s = 3 ∨ s = 4) ∧ (rzIs T n rzW_and f = true ∨ rzIs T n rzW_or f = true) then (0, rzN T n f, 1 :: rest, false, lf)
      else if s ≠ 4 ∧ f < n ∧ (T f = 43 ∨ T f = 45 ∨ T f = 42 ∨ T f = 47 ∨ T f = 37) then (0, rzN T n f, s :: rest, false, lf)
      else if s = 2 ∧ f < n ∧ (T f = 60 ∨ T f = 62 ∨ T f = 61) then (0, rzN T n f, 3 :: rest, false, lf)
      else if rest = [] ∧ s ≠ 1 ∧ s ≠ 2 then (1, f, s :: rest, true, lf)
      else ((2, f, s :: rest, true, lf) : rzA)).2.2.2.2 = lf' := h
  rw [← h]
  (repeat' split) <;> rfl
theorem rzStep_l0 {lf f' lf' : Int} {lv' : List Int} {pr' : Bool} (h : rzStep T n ws f (s :: rest) false lf = (0, f', lv', pr', lf')) : lf' = lf + (if rzDg T n f = true ∨ 0 ≤ rzIxn T n f ws 0 then 1 else 0) ∧ (lf ≤ 50 → lf' ≤ 50) := by
  have h : (if rzDg T n f = true ∨ 0 ≤ rzIxn T n f ws 0 then
      (if 1000 < rzNo T n f ∨ 50 ≤ lf then (2, f, s :: rest, false, lf) else (0, rzN T n f, (if s = 1 then 2 else s) :: rest, true, lf + 1))
      else if s = 1 ∧ rzIs T n rzW_not f = true then (0, rzN T n f, s :: rest, false, lf)
      else if s = 1 ∧ rzSg T n 40 f = true then
        (if rest.length < 8 then (0, rzN T n f, 1 :: 1 :: rest, false, lf) else (2, f, s :: rest, false, lf))
      else if rzSg T n 91 f = true then
        (if rest.length < 8 then (0, rzN T n f, 0 :: (if s = 1 then 2 else s) :: rest, false, lf) else (2, f, s :: rest, false, lf))
      else ((2, f, s :: rest, false, lf) : rzA)) = (0, f', lv', pr', lf') := h
  by_cases h1 : rzDg T n f = true ∨ 0 ≤ rzIxn T n f ws 0
  · rw [if_pos h1] at h ⊢
    by_cases h2 : 1000 < rzNo T n f ∨ 50 ≤ lf
    · rw [if_pos h2] at h
      cases (congrArg (fun z : rzA => z.1) h)
    · rw [if_neg h2] at h
      have e : lf + 1 = lf' := congrArg (fun z : rzA => z.2.2.2.2) h
      omega
  · rw [if_neg h1] at h ⊢
    have e : lf = lf' := by
      have g := congrArg (fun z : rzA => z.2.2.2.2) h
      refine Eq.trans ?_ g
      show lf = (if s = 1 ∧ rzIs T n rzW_not f = true then (0, rzN T n f, s :: rest, false, lf)
        else if s = 1 ∧ rzSg T n 40 f = true then
          (if rest.length < 8 then (0, rzN T n f, 1 :: 1 :: rest, false, lf) else (2, f, s :: rest, false, lf))
        else if rzSg T n 91 f = true then
          (if rest.length < 8 then (0, rzN T n f, 0 :: (if s = 1 then 2 else s) :: rest, false, lf) else (2, f, s :: rest, false, lf))
        else ((2, f, s :: rest, false, lf) : rzA)).2.2.2.2
      (repeat' split) <;> rfl
    omega
end RKNH
theorem rkRun_n {T : Int → Int} {n l0 : Int} {ws : List (List Int)} (hw : ws.length ≤ 8) {d : rkC} : ∀ (k : Nat) (f : Int) (lv : List Int) (pr : Bool) (lf : Int) (c : rkC), rkRun T n ws k f lv pr lf c = some d → rkW c → (rkNc c : Int) + l0 ≤ lf → lf ≤ 50 → (rkNc d : Int) + l0 ≤ 50
  | 0, f, lv, pr, lf, c, h, _, _, _ => by cases h
  | k + 1, f, [], pr, lf, c, h, _, _, _ => by cases h
  | k + 1, f, s :: rest, pr, lf, c, h, hc, h1, h2 => by
    have h : (match rzStep T n ws f (s :: rest) pr lf with
      | (0, f', lv', pr', lf') => rkRun T n ws k f' lv' pr' lf' (rkSt T n ws f (s :: rest) pr c)
      | (1, _, _, _, _) => some (rkRed 1 c)
      | _ => none) = some d := h
    have w := (rkSt_w (T := T) (n := n) (f := f) (s := s) (rest := rest) (pr := pr) hw hc).1
    match hs : rzStep T n ws f (s :: rest) pr lf, h with
    | (0, f', lv', pr', lf'), h =>
      cases pr with
      | true =>
        have e := rzStep_l1 hs
        have g := rkNc_1 (T := T) (n := n) (ws := ws) (f := f) (s := s) (rest := rest) hc
        exact rkRun_n hw k f' lv' pr' lf' _ h w (by omega) (by omega)
      | false =>
        obtain ⟨e, e2⟩ := rzStep_l0 hs
        have g := rkNc_0 (T := T) (n := n) (ws := ws) (f := f) (s := s) (rest := rest) hc
        have e2 := e2 h2
        by_cases q : rzDg T n f = true ∨ 0 ≤ rzIxn T n f ws 0
        · rw [if_pos q] at e g
          exact rkRun_n hw k f' lv' pr' lf' _ h w (by omega) e2
        · rw [if_neg q] at e g
          exact rkRun_n hw k f' lv' pr' lf' _ h w (by omega) e2
    | (1, _, _, _, _), h =>
      have e : rkRed 1 c = d := Option.some.inj h
      rw [← e, rkNc_red (by omega) hc]
      omega
    | (q + 2, _, _, _, _), h => cases h
/-- an expression has at most 50 parts -/
theorem rkEx_n {T : Int → Int} {n test f lf : Int} {ws : List (List Int)} {d : rkC} (hw : ws.length ≤ 8) (h0 : 0 ≤ lf) (h50 : lf ≤ 50) (h : rkEx T n ws test f lf d) : rkNc d ≤ 50 := by
  obtain ⟨k, hk⟩ := h
  have e : rkNc rkC0 = 0 := rfl
  have := rkRun_n (l0 := lf) hw k f [test] false lf rkC0 hk rkW_0 (by omega) h50
  omega
/-- so high it stands at most -/
theorem rkWt_h {d : rkC} {τ : Int → List Bool} (h0 : τ 0 = []) (h : ∀ i : Int, 0 ≤ i → i < rkM d → rkRu τ (rkM d) i (rkFo d i) (rkFa d i)) : ∀ k : Nat, (k : Int) ≤ rkM d → (τ (k : Int)).length ≤ rkNu (rkFo d) k
  | 0, _ => by
    show (τ 0).length ≤ 0
    rw [h0]
    exact Nat.le_refl 0
  | k + 1, hk => by
    have q := rkWt_h h0 h k (by omega)
    have r := h (k : Int) (by omega) (by omega)
    show (τ ((k : Int) + 1)).length ≤ rkNu (rkFo d) k + (if rkFo d (k : Int) ≤ 8 then 1 else 0)
    rcases r with ⟨r1, r2, r3⟩ | ⟨r1, r2, t, r3, r4⟩ | ⟨r1, r2, t, r3, r4⟩ | ⟨r1, t, r3, r4⟩ | ⟨r1, t, r3, r4, -⟩
    · rw [r3, if_pos r2, List.length_cons]
      omega
    · rw [r3] at q
      rw [r4]
      simp only [List.length_cons] at q ⊢
      omega
    · rw [r3] at q
      rw [r4]
      simp only [List.length_cons] at q ⊢
      omega
    · rw [r3] at q
      rw [r4]
      simp only [List.length_cons] at q ⊢
      omega
    · rw [r3] at q
      rw [r4]
      simp only [List.length_cons] at q
      omega
