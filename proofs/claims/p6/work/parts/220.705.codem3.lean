/-! CLAUSES in the reference's rows -/
theorem rkPush_m {op a : Int} {c : rkC} : rkM (rkPush op a c) = rkM c := rfl
theorem rkPop_m {c : rkC} : rkM (rkPop c) = rkM c := rfl
theorem rkEmit_m {op a : Int} {c : rkC} : rkM (rkEmit op a c) = rkM c + 1 := rfl
theorem rkTop_m {c : rkC} : rkM c ≤ rkM (rkTop c) := by
  unfold rkTop
  by_cases hj : rkPo c ((c.1 : Int) - 1) = 29 ∨ rkPo c ((c.1 : Int) - 1) = 30
  · rw [if_pos hj]
    exact Int.le_refl _
  · rw [if_neg hj]
    show rkM c ≤ rkM c + 1
    omega
theorem rkRd_m {l : Int} : ∀ (k : Nat) (c : rkC), rkM c ≤ rkM (rkRd l k c)
  | 0, c => Int.le_refl _
  | k + 1, c => by
    show rkM c ≤ rkM (if 0 < c.1 ∧ l ≤ rkBd (rkPo c ((c.1 : Int) - 1)) then rkRd l k (rkTop c) else c)
    by_cases g : 0 < c.1 ∧ l ≤ rkBd (rkPo c ((c.1 : Int) - 1))
    · rw [if_pos g]
      exact Int.le_trans rkTop_m (rkRd_m k _)
    · rw [if_neg g]
      exact Int.le_refl _
theorem rkRed_m {l : Int} {c : rkC} : rkM c ≤ rkM (rkRed l c) := rkRd_m _ _
section RKPOS
variable {T : Int → Int} {n : Int} {ws : List (List Int)}
theorem rkSt_m {f : Int} {lv : List Int} {pr : Bool} {c : rkC} : rkM c ≤ rkM (rkSt T n ws f lv pr c) := by
  cases lv with
  | nil => exact Int.le_refl _
  | cons s rest =>
    cases pr with
    | false =>
      rw [rkSt_0]
      (repeat' split) <;> first
        | exact Int.le_refl _
        | exact Int.le_add_one (Int.le_refl _)
    | true =>
      rw [rkSt_1]
      (repeat' split) <;> first
        | exact rkRed_m (l := 1)
        | exact rkRed_m (l := 4)
        | exact rkRed_m (l := 5)
        | exact rkRed_m (l := 6)
        | exact Int.le_add_one (rkRed_m (l := 2))
        | exact Int.le_add_one (rkRed_m (l := 1))
theorem rzStep_pr {f lf f' lf' : Int} {lv lv' : List Int} {q : Nat} {c : rkC} (h : rzStep T n ws f lv false lf = (q, f', lv', true, lf')) : rkM c < rkM (rkSt T n ws f lv false c) ∨ q = 2 := by
  cases lv with
  | nil => exact Or.inr (congrArg (fun z : rzA => z.1) h).symm
  | cons s rest =>
    by_cases h1 : rzDg T n f = true ∨ 0 ≤ rzIxn T n f ws 0
    · refine Or.inl ?_
      rw [rkSt_0]
      by_cases h2 : rzDg T n f = true
      · rw [if_pos h2]
        exact Int.lt_succ _
      · rw [if_neg h2, if_pos (h1.resolve_left h2)]
        exact Int.lt_succ _
    · have h : (if rzDg T n f = true ∨ 0 ≤ rzIxn T n f ws 0 then
        (if 1000 < rzNo T n f ∨ 50 ≤ lf then (2, f, s :: rest, false, lf) else (0, rzN T n f, (if s = 1 then 2 else s) :: rest, true, lf + 1))
        else if s = 1 ∧ rzIs T n rzW_not f = true then (0, rzN T n f, s :: rest, false, lf)
        else if s = 1 ∧ rzSg T n 40 f = true then
          (if rest.length < 8 then (0, rzN T n f, 1 :: 1 :: rest, false, lf) else (2, f, s :: rest, false, lf))
        else if rzSg T n 91 f = true then
          (if rest.length < 8 then (0, rzN T n f, 0 :: (if s = 1 then 2 else s) :: rest, false, lf) else (2, f, s :: rest, false, lf))
        else ((2, f, s :: rest, false, lf) : rzA)) = (q, f', lv', true, lf') := h
      have h := congrArg (fun z : rzA => z.2.2.2.1) h
      rw [if_neg h1] at h
      exfalso
      revert h
      (repeat' split) <;> intro h <;> cases h
theorem rzStep_n1 {f lf f' lf' : Int} {lv lv' : List Int} {pr' : Bool} : rzStep T n ws f lv false lf ≠ (1, f', lv', pr', lf') := fun h => by
  cases lv with
  | nil => cases (congrArg (fun z : rzA => z.1) h)
  | cons s rest =>
    have h : (if rzDg T n f = true ∨ 0 ≤ rzIxn T n f ws 0 then
        (if 1000 < rzNo T n f ∨ 50 ≤ lf then (2, f, s :: rest, false, lf) else (0, rzN T n f, (if s = 1 then 2 else s) :: rest, true, lf + 1))
        else if s = 1 ∧ rzIs T n rzW_not f = true then (0, rzN T n f, s :: rest, false, lf)
        else if s = 1 ∧ rzSg T n 40 f = true then
          (if rest.length < 8 then (0, rzN T n f, 1 :: 1 :: rest, false, lf) else (2, f, s :: rest, false, lf))
        else if rzSg T n 91 f = true then
          (if rest.length < 8 then (0, rzN T n f, 0 :: (if s = 1 then 2 else s) :: rest, false, lf) else (2, f, s :: rest, false, lf))
        else ((2, f, s :: rest, false, lf) : rzA)) = (1, f', lv', pr', lf') := h
    have h := congrArg (fun z : rzA => z.1) h
    revert h
    (repeat' split) <;> intro h <;> cases h
theorem rkRun_pos {d : rkC} : ∀ (k : Nat) (f : Int) (lv : List Int) (pr : Bool) (lf : Int) (c : rkC), rkRun T n ws k f lv pr lf c = some d → 0 ≤ rkM c → (pr = true → 0 < rkM c) → 0 < rkM d
  | 0, f, lv, pr, lf, c, h, _, _ => by cases h
  | k + 1, f, lv, pr, lf, c, h, h0, h1 => by
    have h : (match rzStep T n ws f lv pr lf with
      | (0, f', lv', pr', lf') => rkRun T n ws k f' lv' pr' lf' (rkSt T n ws f lv pr c)
      | (1, _, _, _, _) => some (rkRed 1 c)
      | _ => none) = some d := h
    have m := rkSt_m (T := T) (n := n) (ws := ws) (f := f) (lv := lv) (pr := pr) (c := c)
    match hs : rzStep T n ws f lv pr lf, h with
    | (0, f', lv', pr', lf'), h =>
      refine rkRun_pos k f' lv' pr' lf' _ h (Int.le_trans h0 m) fun e => ?_
      subst e
      cases pr with
      | true => exact Int.lt_of_lt_of_le (h1 rfl) m
      | false =>
        rcases rzStep_pr (c := c) hs with g | g
        · exact Int.lt_of_le_of_lt h0 g
        · cases g
    | (1, _, _, _, _), h =>
      cases pr with
      | true =>
        have e : rkRed 1 c = d := Option.some.inj h
        rw [← e]
        exact Int.lt_of_lt_of_le (h1 rfl) rkRed_m
      | false => exact absurd hs rzStep_n1
    | (q + 2, _, _, _, _), h => cases h
theorem rkEx_pos {test f lf : Int} {d : rkC} (h : rkEx T n ws test f lf d) : 0 < rkM d := by
  obtain ⟨k, hk⟩ := h
  exact rkRun_pos k f [test] false lf rkC0 hk (Int.le_refl 0) fun g => by cases g
end RKPOS
theorem rkFm_sm {ms : List (Nat × Nat)} {S S_p : Nat → Int → Int} (hs : bx_same rxL (bx_mdl ms) S S_p) (hk : [(1068, 0), (1069, 0)].all (fun q => !(bx_mdl ms q.1 q.2)) = true) : ∀ i : Int, 0 ≤ i → i < 400 → S_p 487 i = S 487 i ∧ S_p 488 i = S 488 i := fun i x y => ⟨rz_fd hs (p := 487) (n := 400) (c := 1068) (k := 0) (rzMs hk (by decide)) (by decide) (by decide +kernel) i x y, rz_fd hs (p := 488) (n := 400) (c := 1069) (k := 0) (rzMs hk (by decide)) (by decide) (by decide +kernel) i x y⟩
/-- a piece of code, from a up to e -/
def rkGz (S : Nat → Int → Int) (a e : Int) : Option rkC → Prop
  | none => e = a
  | some d => 0 ≤ a ∧ 0 < rkM d ∧ e = a + rkM d ∧ rkW d ∧ ∀ i : Int, 0 ≤ i → i < rkM d → S 487 (a + i) = rkFo d i ∧ S 488 (a + i) = rkAi a (rkFo d i) (rkFa d i)
theorem rkGz_fr {S S_p : Nat → Int → Int} {a e m : Int} {o : Option rkC} (h : rkGz S a e o) (f : rkFm S S_p m) (he : e ≤ m) : rkGz S_p a e o := by
  cases o with
  | none => exact h
  | some d =>
    obtain ⟨h0, h1, h2, h3, h4⟩ := h
    refine ⟨h0, h1, h2, h3, fun i p q => ?_⟩
    obtain ⟨f1, f2⟩ := f (a + i) (by omega) (by omega)
    rw [f1, f2]
    exact h4 i p q
theorem rkGz_mo {S : Nat → Int → Int} {b : Int} {d : rkC} (h : rkMo S b d) (hp : 0 < rkM d) (hw : rkW d) : rkGz S b (S 480 18) (some d) := ⟨h.1, hp, h.2.2.1, hw, h.2.2.2⟩
/-- a law's clause k -/
def rkCm (S : Nat → Int → Int) (k : Int) (q : rkQ) : Prop := S 486 (8 * k) = q.1 ∧ rkGz S (S 486 (8 * k + 3)) (S 486 (8 * k + 4)) q.2.2.2.1 ∧ rkGz S (S 486 (8 * k + 5)) (S 486 (8 * k + 6)) q.2.2.2.2.2
def rkWh (S0 : Nat → Int → Int) (wh : Int) : Prop := (wh = 0 ∧ rzIs (rzCut (S0 485)) (S0 480 8) rzW_slips (S0 480 9) = true ∧ rzIs (rzCut (S0 485)) (S0 480 8) rzW_bars (S0 480 9) = false) ∨ (wh = 1 ∧ rzIs (rzCut (S0 485)) (S0 480 8) rzW_hours (S0 480 9) = true ∧ rzIs (rzCut (S0 485)) (S0 480 8) rzW_bars (S0 480 9) = false) ∨ (wh = 2 ∧ rzIs (rzCut (S0 485)) (S0 480 8) rzW_bars (S0 480 9) = true)
/-- behind the head word -/
def rkL3 (S0 S : Nat → Int → Int) : Prop := S 480 9 = rzN (rzCut (S0 485)) (S0 480 8) (S0 480 9) ∧ S 480 21 = S0 480 21 ∧ S 480 18 = S0 480 18 ∧ rkFm S0 S (S0 480 18)
theorem rkL3_ne {S0 S S_p : Nat → Int → Int} (h : rkL3 S0 S) (e9 : S_p 480 9 = S 480 9) (e21 : S_p 480 21 = S 480 21) (e18 : S_p 480 18 = S 480 18) (e : ∀ i : Int, S_p 487 i = S 487 i ∧ S_p 488 i = S 488 i) : rkL3 S0 S_p := ⟨e9.trans h.1, e21.trans h.2.1, e18.trans h.2.2.1, fun i p q => ⟨(e i).1.trans (h.2.2.2 i p q).1, (e i).2.trans (h.2.2.2 i p q).2⟩⟩
/-- behind the head -/
def rkHq (S0 : Nat → Int → Int) (q : rkQ) (r : rzR) : Prop := rzLH (rzCut (S0 485)) (S0 480 8) rzLn_ (S0 480 9) (S0 480 21) r ∧ r.1 = true ∧ rkLH (rzCut (S0 485)) (S0 480 8) rzLn_ (S0 480 9) (S0 480 21) q
def rkL4 (S0 S : Nat → Int → Int) (base : Int) : Prop := ∃ (q : rkQ) (r : rzR), rkHq S0 q r ∧ S 480 9 = r.2.1 ∧ S 480 21 = r.2.2 ∧ S 486 base = q.1 ∧ rkGz S (S0 480 18) (S 480 18) q.2.2.2.1 ∧ rkFm S0 S (S0 480 18)
theorem rkGz_ne {S S_p : Nat → Int → Int} {a e : Int} {o : Option rkC} (h : rkGz S a e o) (f : ∀ i : Int, S_p 487 i = S 487 i ∧ S_p 488 i = S 488 i) : rkGz S_p a e o := rkGz_fr h (m := e) (fun i _ _ => f i) (Int.le_refl _)
theorem rkL4_ne {S0 S S_p : Nat → Int → Int} {base : Int} (h : rkL4 S0 S base) (e9 : S_p 480 9 = S 480 9) (e21 : S_p 480 21 = S 480 21) (e18 : S_p 480 18 = S 480 18) (eb : S_p 486 base = S 486 base) (e : ∀ i : Int, S_p 487 i = S 487 i ∧ S_p 488 i = S 488 i) : rkL4 S0 S_p base := by
  obtain ⟨q, r, h1, h2, h3, h4, h5, h6⟩ := h
  refine ⟨q, r, h1, e9.trans h2, e21.trans h3, eb.trans h4, ?_, fun i x y => ⟨(e i).1.trans (h6 i x y).1, (e i).2.trans (h6 i x y).2⟩⟩
  rw [e18]
  exact rkGz_ne h5 e
theorem rkL4_bars {S0 S : Nat → Int → Int} {base : Int} (h : rkL3 S0 S) (hw : rkWh S0 (S 486 base)) (h2 : S 486 base = 2) : rkL4 S0 S base := by
  obtain ⟨g1, g2, g3, g4⟩ := h
  rcases hw with v | v | v
  · omega
  · omega
  · exact ⟨(2, -1, -1, none, none, none), (true, rzN (rzCut (S0 485)) (S0 480 8) (S0 480 9), S0 480 21), ⟨rzAlt_y v.2 rfl, rfl, rzAlt_y v.2 rfl⟩, g1, g2, h2, g3, g4⟩
theorem rkL4_ex {S0 S S_p : Nat → Int → Int} {base : Int} (hW : rzWr S0 = rzLn_) (a : rzKr S0 S) (h : rkL3 S0 S) (hw : rkWh S0 (S 486 base)) (h2 : S 486 base ≠ 2) (x : rzXo S S_p 0) (y : rkEm S S_p 0) (z : S_p 480 14 = 0) (e : S_p 486 base = S 486 base) : rkL4 S0 S_p base := by
  obtain ⟨g1, g2, g3, g4⟩ := h
  unfold rzXo at x
  unfold rkEm at y
  rw [a.1, a.2.1, a.w, hW, g1, g2] at x y
  obtain ⟨-, -, r, r1, r2, r3, r4⟩ := x.1 z
  obtain ⟨f, d, d1, d2, d3⟩ := y z
  rw [g3] at f d3
  have gz := rkGz_mo d3 (rkEx_pos d1) d2
  rcases hw with ⟨v1, v2, v3⟩ | ⟨v1, v2, v3⟩ | v
  · refine ⟨(0, -1, -1, some d, none, none), r, ⟨rzAlt_n v3 (rzAlt_y (by rw [v2]; rfl) r1), r2, rzAlt_n v3 ⟨d, d1, by rw [if_pos v2]⟩⟩, r3, r4, e.trans v1, gz, g4.tr f⟩
  · have u := rzIs_u v2 (v := rzW_slips)
    have u : rzIs (rzCut (S0 485)) (S0 480 8) rzW_slips (S0 480 9) = false := u.trans (by decide)
    refine ⟨(1, -1, -1, some d, none, none), r, ⟨rzAlt_n v3 (rzAlt_y (by rw [v2, Bool.or_true]) r1), r2, rzAlt_n v3 ⟨d, d1, by rw [u]; rfl⟩⟩, r3, r4, e.trans v1, gz, g4.tr f⟩
  · exact absurd v.1 h2
/-- behind the word 'if' -/
def rkL5 (S0 S : Nat → Int → Int) (base : Int) : Prop := ∃ (q : rkQ) (r : rzR), rkHq S0 q r ∧ rzIs (rzCut (S0 485)) (S0 480 8) rzW_if r.2.1 = true ∧ S 480 9 = rzN (rzCut (S0 485)) (S0 480 8) r.2.1 ∧ S 480 21 = r.2.2 ∧ S 486 base = q.1 ∧ rkGz S (S0 480 18) (S 480 18) q.2.2.2.1 ∧ rkFm S0 S (S0 480 18)
/-- behind the clause -/
def rkL6 (S0 S : Nat → Int → Int) (base : Int) : Prop := ∃ (q : rkQ) (r : rzR) (t : Option rkC), rkHq S0 q r ∧ rkIf (rzCut (S0 485)) (S0 480 8) rzLn_ r.2.1 r.2.2 t ∧ S 486 base = q.1 ∧ rkGz S (S 486 (base + 3)) (S 486 (base + 4)) q.2.2.2.1 ∧ rkGz S (S 486 (base + 5)) (S 480 18) t ∧ rkFm S0 S (S0 480 18)
theorem rkL5_of {S0 S S_p : Nat → Int → Int} {base : Int} (h : rkL4 S0 S base) (a : rzKr S0 S) (hi : rzIs (rzCut (S 485)) (S 480 8) rzW_if (S 480 9) = true) (e9 : S_p 480 9 = rzN (rzCut (S 485)) (S 480 8) (S 480 9)) (e21 : S_p 480 21 = S 480 21) (e18 : S_p 480 18 = S 480 18) (b18 : S 480 18 ≤ 400) (eb : S_p 486 base = S 486 base) (e : ∀ i : Int, 0 ≤ i → i < 400 → S_p 487 i = S 487 i ∧ S_p 488 i = S 488 i) (b0 : S0 480 18 ≤ 400) : rkL5 S0 S_p base := by
  obtain ⟨q, r, h1, h2, h3, h4, h5, h6⟩ := h
  rw [a.1, a.2.1, h2] at hi e9
  have f : rkFm S S_p 400 := fun i x y => e i x y
  refine ⟨q, r, h1, hi, e9, e21.trans h3, eb.trans h4, ?_, h6.tr fun i x y => e i x (by omega)⟩
  rw [e18]
  exact rkGz_fr h5 f b18
theorem rkL6_no {S0 S : Nat → Int → Int} {base m : Int} (h : rkL4 S0 S base) (hi : rzIs (rzCut (S0 485)) (S0 480 8) rzW_if (S 480 9) = false) (e3 : S 486 (base + 3) = S0 480 18) (e4 : S 486 (base + 4) = m) (e5 : S 486 (base + 5) = m) (em : m = S 480 18) : rkL6 S0 S base := by
  obtain ⟨q, r, h1, h2, h3, h4, h5, h6⟩ := h
  rw [h2] at hi
  refine ⟨q, r, none, h1, rzAlt_n hi rfl, h4, ?_, ?_, h6⟩
  · rw [e3, e4, em]
    exact h5
  · show S 480 18 = S 486 (base + 5)
    omega
theorem rkL6_ex {S0 S S_p : Nat → Int → Int} {base m : Int} (hW : rzWr S0 = rzLn_) (a : rzKr S0 S) (h : rkL5 S0 S base) (e3 : S 486 (base + 3) = S0 480 18) (e4 : S 486 (base + 4) = m) (e5 : S 486 (base + 5) = m) (em : m = S 480 18) (hm : S0 480 18 ≤ m) (y : rkEm S S_p 1) (z : S_p 480 14 = 0) (e : ∀ j : Int, j = base ∨ j = base + 3 ∨ j = base + 4 ∨ j = base + 5 → S_p 486 j = S 486 j) : rkL6 S0 S_p base := by
  obtain ⟨q, r, h1, hi, h2, h3, h4, h5, h6⟩ := h
  unfold rkEm at y
  rw [a.1, a.2.1, a.w, hW, h2, h3] at y
  obtain ⟨f, d, d1, d2, d3⟩ := y z
  refine ⟨q, r, some d, h1, rzAlt_y hi ⟨d, d1, rfl⟩, (e base (Or.inl rfl)).trans h4, ?_, ?_, h6.tr fun i x y => f i x (by omega)⟩
  · rw [e (base + 3) (by omega), e (base + 4) (by omega), e3, e4, em]
    exact rkGz_fr h5 f (Int.le_refl _)
  · rw [e (base + 5) (by omega), e5, em]
    exact rkGz_mo d3 (rkEx_pos d1) d2
/-- the clause stands -/
def rkL7 (S0 S : Nat → Int → Int) : Prop := ∃ (q : rkQ) (r : rzR) (t : Option rkC), rkHq S0 q r ∧ rkIf (rzCut (S0 485)) (S0 480 8) rzLn_ r.2.1 r.2.2 t ∧ rkCm S (S0 480 16) (q.1, q.2.1, q.2.2.1, q.2.2.2.1, q.2.2.2.2.1, t) ∧ rkFm S0 S (S0 480 18) ∧ ∀ j : Int, 0 ≤ j → j < 8 * S0 480 16 → S 486 j = S0 486 j
theorem rkL7_of {S0 S : Nat → Int → Int} {base : Int} (h : rkL6 S0 S base) (eb : base = 8 * S0 480 16) (hr : ∀ j : Int, 0 ≤ j → j < base → S 486 j = S0 486 j) : rkL7 S0 (bx_up S 486 (base + 6) (S 480 18)) := by
  obtain ⟨q, r, t, h1, h2, h3, h4, h5, h6⟩ := h
  have e : ∀ i : Int, bx_up S 486 (base + 6) (S 480 18) 487 i = S 487 i ∧ bx_up S 486 (base + 6) (S 480 18) 488 i = S 488 i := fun i => ⟨bx_up_ne (by omega), bx_up_ne (by omega)⟩
  have g : ∀ j : Int, j ≠ base + 6 → bx_up S 486 (base + 6) (S 480 18) 486 j = S 486 j := fun j hj => bx_up_ne (by omega)
  refine ⟨q, r, t, h1, h2, ⟨?_, ?_, ?_⟩, fun i x y => ⟨(e i).1.trans (h6 i x y).1, (e i).2.trans (h6 i x y).2⟩, fun j x y => (g j (by omega)).trans (hr j x (by omega))⟩
  · rw [← eb, g base (by omega)]
    exact h3
  · rw [← eb, g (base + 3) (by omega), g (base + 4) (by omega)]
    exact rkGz_ne h4 e
  · rw [← eb, g (base + 5) (by omega), bx_up_at]
    exact rkGz_ne h5 e
