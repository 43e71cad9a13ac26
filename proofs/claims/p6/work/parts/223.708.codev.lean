/-! WHAT CODE TELLS: its value, or that it is broken -/
def rkBi (op a b : Int) : Option Int := if op = 20 then some (a + b) else if op = 21 then some (a - b) else if op = 22 then some (a * b) else if op = 23 then (if b = 0 then none else some (a.tdiv b)) else if op = 24 then (if b = 0 then none else some (a.tmod b)) else if op = 25 then some (if a < b then 1 else 0) else if op = 26 then some (if b < a then 1 else 0) else some (if a = b then 1 else 0)
def rkLm : Option Int → Option Int
  | none => none
  | some x => if -1000000000 ≤ x ∧ x ≤ 1000000000 then some x else none
/-- from place i on, over what stands (the topmost first); none: not over yet; some none: broken -/
def rkVl (d : rkC) (vs : Int → Int) : Nat → Int → List Int → Option (Option (List Int))
  | 0, _, _ => none
  | k + 1, i, st =>
    if rkM d ≤ i then some (some st)
    else if rkFo d i ≤ 8 then rkVl d vs k (i + 1) ((if rkFo d i = 0 then rkFa d i else vs (rkFo d i)) :: st)
    else match st with
      | [] => some none
      | x :: st1 =>
        if rkFo d i = 28 then rkVl d vs k (i + 1) ((1 - x) :: st1)
        else if rkFo d i = 29 ∨ rkFo d i = 30 then (if x = (if rkFo d i = 30 then 1 else 0) then rkVl d vs k (rkFa d i) (x :: st1) else rkVl d vs k (i + 1) st1)
        else match st1 with
          | [] => some none
          | y :: st2 => match rkLm (rkBi (rkFo d i) y x) with
            | none => some none
            | some z => rkVl d vs k (i + 1) (z :: st2)
def rkEv (d : rkC) (vs : Int → Int) (i : Int) (st : List Int) (r : Option (List Int)) : Prop := ∃ k : Nat, rkVl d vs k i st = some r
theorem rkVl_s {d : rkC} {vs : Int → Int} {r : Option (List Int)} : ∀ (k : Nat) (i : Int) (st : List Int), rkVl d vs k i st = some r → rkVl d vs (k + 1) i st = some r
  | 0, i, st, h => by cases h
  | k + 1, i, st, h => by
    unfold rkVl at h ⊢
    by_cases h1 : rkM d ≤ i
    · rw [if_pos h1] at h ⊢
      exact h
    rw [if_neg h1] at h ⊢
    by_cases h2 : rkFo d i ≤ 8
    · rw [if_pos h2] at h ⊢
      exact rkVl_s k _ _ h
    rw [if_neg h2] at h ⊢
    cases st with
    | nil => exact h
    | cons x st1 =>
      simp only at h ⊢
      by_cases h3 : rkFo d i = 28
      · rw [if_pos h3] at h ⊢
        exact rkVl_s k _ _ h
      rw [if_neg h3] at h ⊢
      by_cases h4 : rkFo d i = 29 ∨ rkFo d i = 30
      · rw [if_pos h4] at h ⊢
        by_cases h5 : x = (if rkFo d i = 30 then 1 else 0)
        · rw [if_pos h5] at h ⊢
          exact rkVl_s k _ _ h
        · rw [if_neg h5] at h ⊢
          exact rkVl_s k _ _ h
      rw [if_neg h4] at h ⊢
      cases st1 with
      | nil => exact h
      | cons y st2 =>
        simp only at h ⊢
        cases h6 : rkLm (rkBi (rkFo d i) y x) with
        | none =>
          rw [h6] at h
          exact h
        | some z =>
          rw [h6] at h
          exact rkVl_s k _ _ h
theorem rkVl_m {d : rkC} {vs : Int → Int} {r : Option (List Int)} {k : Nat} {i : Int} {st : List Int} (h : rkVl d vs k i st = some r) : ∀ j : Nat, rkVl d vs (k + j) i st = some r
  | 0 => h
  | j + 1 => rkVl_s _ _ _ (rkVl_m h j)
theorem rkEv_det {d : rkC} {vs : Int → Int} {r r_p : Option (List Int)} {i : Int} {st : List Int} (h : rkEv d vs i st r) (h' : rkEv d vs i st r_p) : r = r_p := by
  obtain ⟨k, hk⟩ := h
  obtain ⟨j, hj⟩ := h'
  have a := rkVl_m hk j
  have b := rkVl_m hj k
  rw [Nat.add_comm j k] at b
  exact Option.some.inj (a.symm.trans b)
section RKEV
variable {d : rkC} {vs : Int → Int} {i x y z : Int} {st : List Int} {r : Option (List Int)}
theorem rkEv_end (h : rkM d ≤ i) : rkEv d vs i st (some st) := by
  refine ⟨1, ?_⟩
  unfold rkVl
  rw [if_pos h]
theorem rkEv_num (h : i < rkM d) (h2 : rkFo d i ≤ 8) (g : rkEv d vs (i + 1) ((if rkFo d i = 0 then rkFa d i else vs (rkFo d i)) :: st) r) : rkEv d vs i st r := by
  obtain ⟨k, hk⟩ := g
  refine ⟨k + 1, ?_⟩
  unfold rkVl
  rw [if_neg (by omega), if_pos h2]
  exact hk
theorem rkEv_not (h : i < rkM d) (h2 : rkFo d i = 28) (g : rkEv d vs (i + 1) ((1 - x) :: st) r) : rkEv d vs i (x :: st) r := by
  obtain ⟨k, hk⟩ := g
  refine ⟨k + 1, ?_⟩
  unfold rkVl
  rw [if_neg (by omega), if_neg (by omega)]
  simp only
  rw [if_pos h2]
  exact hk
theorem rkEv_leap (h : i < rkM d) (h2 : rkFo d i = 29 ∨ rkFo d i = 30) (hx : x = (if rkFo d i = 30 then 1 else 0)) (g : rkEv d vs (rkFa d i) (x :: st) r) : rkEv d vs i (x :: st) r := by
  obtain ⟨k, hk⟩ := g
  refine ⟨k + 1, ?_⟩
  unfold rkVl
  rw [if_neg (by omega), if_neg (by omega)]
  simp only
  rw [if_neg (by omega), if_pos h2, if_pos hx]
  exact hk
theorem rkEv_drop (h : i < rkM d) (h2 : rkFo d i = 29 ∨ rkFo d i = 30) (hx : ¬ x = (if rkFo d i = 30 then 1 else 0)) (g : rkEv d vs (i + 1) st r) : rkEv d vs i (x :: st) r := by
  obtain ⟨k, hk⟩ := g
  refine ⟨k + 1, ?_⟩
  unfold rkVl
  rw [if_neg (by omega), if_neg (by omega)]
  simp only
  rw [if_neg (by omega), if_pos h2, if_neg hx]
  exact hk
theorem rkEv_two (h : i < rkM d) (h2 : 9 ≤ rkFo d i ∧ rkFo d i ≤ 27) (hz : rkLm (rkBi (rkFo d i) y x) = some z) (g : rkEv d vs (i + 1) (z :: st) r) : rkEv d vs i (x :: y :: st) r := by
  obtain ⟨k, hk⟩ := g
  refine ⟨k + 1, ?_⟩
  unfold rkVl
  rw [if_neg (by omega), if_neg (by omega)]
  simp only
  rw [if_neg (by omega), if_neg (by omega), hz]
  exact hk
theorem rkEv_brk (h : i < rkM d) (h2 : 9 ≤ rkFo d i ∧ rkFo d i ≤ 27) (hz : rkLm (rkBi (rkFo d i) y x) = none) : rkEv d vs i (x :: y :: st) none := by
  refine ⟨1, ?_⟩
  unfold rkVl
  rw [if_neg (by omega), if_neg (by omega)]
  simp only
  rw [if_neg (by omega), if_neg (by omega), hz]
theorem rkEv_nil (h : i < rkM d) (h2 : 9 ≤ rkFo d i) : rkEv d vs i [] none := by
  refine ⟨1, ?_⟩
  unfold rkVl
  rw [if_neg (by omega), if_neg (by omega)]
theorem rkEv_one (h : i < rkM d) (h2 : 9 ≤ rkFo d i ∧ rkFo d i ≤ 27) : rkEv d vs i [x] none := by
  refine ⟨1, ?_⟩
  unfold rkVl
  rw [if_neg (by omega), if_neg (by omega)]
  simp only
  rw [if_neg (by omega), if_neg (by omega)]
end RKEV
/-- what stands, in a row: the topmost at n - 1; no one is too large for its long -/
def rkSk (R : Int → Int) : Int → List Int → Prop
  | n, [] => n = 0
  | n, x :: st => 0 < n ∧ R (n - 1) = x ∧ (-2147483648 ≤ x ∧ x ≤ 2147483649) ∧ rkSk R (n - 1) st
theorem rkSk_le {R : Int → Int} : ∀ {st : List Int} {n : Int}, rkSk R n st → n = (st.length : Int)
  | [], n, h => h
  | x :: st, n, h => by
    have := rkSk_le h.2.2.2
    simp only [List.length_cons]
    omega
theorem rkSk_cg {R R' : Int → Int} : ∀ {st : List Int} {n : Int}, (∀ j : Int, 0 ≤ j → j < n → R' j = R j) → rkSk R n st → rkSk R' n st
  | [], _, _, h => h
  | x :: st, n, e, h => ⟨h.1, (e _ (by have := h.1; omega) (by omega)).trans h.2.1, h.2.2.1, rkSk_cg (fun j a b => e j a (by omega)) h.2.2.2⟩
theorem rkSk_pu {R R' : Int → Int} {st : List Int} {n x : Int} (h : rkSk R n st) (n0 : 0 ≤ n) (e : ∀ j : Int, 0 ≤ j → j < n → R' j = R j) (ex : R' n = x) (b : -2147483648 ≤ x ∧ x ≤ 2147483649) : rkSk R' (n + 1) (x :: st) :=
  ⟨by omega, by rw [show n + 1 - 1 = n by omega]; exact ex, b, by rw [show n + 1 - 1 = n by omega]; exact rkSk_cg e h⟩
theorem rkSk_rp {R R' : Int → Int} {st : List Int} {n x z : Int} (h : rkSk R n (x :: st)) (e : ∀ j : Int, 0 ≤ j → j < n - 1 → R' j = R j) (ez : R' (n - 1) = z) (b : -2147483648 ≤ z ∧ z ≤ 2147483649) : rkSk R' n (z :: st) :=
  ⟨h.1, ez, b, rkSk_cg e h.2.2.2⟩
