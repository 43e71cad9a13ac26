/-! EVALUATION UNDER WAY: code d with values vs stands at place i over st; what it comes to is what all of it comes to -/
def rkVb (vs : Int → Int) : Prop := ∀ k : Int, 1 ≤ k → k ≤ 8 → -2147483648 ≤ vs k ∧ vs k ≤ 2147483647
/-- code as an expression makes it -/
def rkWm (d : rkC) (b : Bool) : Prop := rkWt d b ∧ rkW d ∧ rkNc d ≤ 50
def rkQt (d : rkC) (vs : Int → Int) (b : Bool) (i : Int) (st : List Int) : Prop := 0 ≤ i ∧ i ≤ rkM d ∧ st.length ≤ 50 ∧ (∃ τ : Int → List Bool, τ 0 = [] ∧ (∀ j : Int, 0 ≤ j → j < rkM d → rkRu τ (rkM d) j (rkFo d j) (rkFa d j) ∧ ((rkFo d j = 29 ∨ rkFo d j = 30) → rkFa d j ≠ 0)) ∧ τ (rkM d) = [b] ∧ rkTs (τ i) st) ∧ ∀ r : Option (List Int), rkEv d vs i st r → rkEv d vs 0 [] r
theorem rkTs_len : ∀ {t : List Bool} {st : List Int}, rkTs t st → st.length = t.length
  | [], [], _ => rfl
  | [], x :: st, h => h.elim
  | b :: t, [], h => h.elim
  | b :: t, x :: st, h => congrArg (· + 1) (rkTs_len h.2)
section RKQT
variable {d : rkC} {vs : Int → Int} {b : Bool} {i : Int} {st : List Int}
theorem rkQt_h (hm : rkWm d b) {τ : Int → List Bool} (h0 : τ 0 = []) (h : ∀ j : Int, 0 ≤ j → j < rkM d → rkRu τ (rkM d) j (rkFo d j) (rkFa d j) ∧ ((rkFo d j = 29 ∨ rkFo d j = 30) → rkFa d j ≠ 0)) {i : Int} (i0 : 0 ≤ i) (i1 : i ≤ rkM d) {st : List Int} (ht : rkTs (τ i) st) : st.length ≤ 50 := by
  have q := rkWt_h h0 (fun j a b => (h j a b).1) i.toNat (by omega)
  rw [Int.toNat_of_nonneg i0] at q
  have e := rkTs_len ht
  have n := hm.2.2
  have g : rkNu (rkFo d) i.toNat ≤ rkNc d := by
    have g := rkNu_mo (fo := rkFo d) (k := i.toNat) ((rkM d).toNat - i.toNat)
    rw [show i.toNat + ((rkM d).toNat - i.toNat) = (rkM d).toNat by omega] at g
    exact g
  omega
theorem rkQt_0 (hm : rkWm d b) : rkQt d vs b 0 [] := by
  obtain ⟨m0, τ, h1, h2, h3⟩ := hm.1
  exact ⟨Int.le_refl 0, m0, Nat.zero_le _, ⟨τ, h1, h2, h3, by rw [h1]; trivial⟩, fun r h => h⟩
theorem rkQt_num (hm : rkWm d b) (h : rkQt d vs b i st) (hi : i < rkM d) (ho : rkFo d i ≤ 8) : rkQt d vs b (i + 1) ((if rkFo d i = 0 then rkFa d i else vs (rkFo d i)) :: st) := by
  obtain ⟨i0, i1, -, ⟨τ, h1, h2, h3, h4⟩, h5⟩ := h
  have ht : rkTs (τ (i + 1)) ((if rkFo d i = 0 then rkFa d i else vs (rkFo d i)) :: st) := by
    rcases (h2 i i0 hi).1 with ⟨u1, u2, u3⟩ | u | u | u | u
    · rw [u3]
      exact ⟨fun g => (by cases g), h4⟩
    · exfalso
      have := u.1
      omega
    · exfalso
      have := u.1
      omega
    · exfalso
      have := u.1
      omega
    · exfalso
      rcases u.1 with v | v <;> omega
  exact ⟨by omega, by omega, rkQt_h hm h1 h2 (by omega) (by omega) ht, ⟨τ, h1, h2, h3, ht⟩, fun r g => h5 r (rkEv_num hi ho g)⟩
theorem rkQt_two (hm : rkWm d b) (h : rkQt d vs b i st) (hi : i < rkM d) (ho : 9 ≤ rkFo d i) (ho2 : rkFo d i ≤ 27) : ∃ (x y : Int) (st2 : List Int), st = x :: y :: st2 ∧ (∀ z : Int, rkLm (rkBi (rkFo d i) y x) = some z → rkQt d vs b (i + 1) (z :: st2)) ∧ (rkLm (rkBi (rkFo d i) y x) = none → rkEv d vs 0 [] none) := by
  obtain ⟨i0, i1, -, ⟨τ, h1, h2, h3, h4⟩, h5⟩ := h
  have key : ∃ (c : Bool) (t : List Bool), τ i = false :: false :: t ∧ τ (i + 1) = c :: t ∧ (c = true → 25 ≤ rkFo d i) := by
    rcases (h2 i i0 hi).1 with u | ⟨u1, u2, t, u3, u4⟩ | ⟨u1, u2, t, u3, u4⟩ | u | u
    · exfalso
      have := u.2.1
      omega
    · exact ⟨false, t, u3, u4, fun g => (by cases g)⟩
    · exact ⟨true, t, u3, u4, fun _ => u1⟩
    · exfalso
      have := u.1
      omega
    · exfalso
      rcases u.1 with v | v <;> omega
  obtain ⟨c, t, k1, k2, k3⟩ := key
  rw [k1] at h4
  obtain ⟨x, st1, e1, -, ht1⟩ := rkTs_c h4
  obtain ⟨y, st2, e2, -, ht2⟩ := rkTs_c ht1
  subst e1
  subst e2
  refine ⟨x, y, st2, rfl, fun z hz => ?_, fun hz => h5 none (rkEv_brk hi ⟨ho, ho2⟩ hz)⟩
  have ht : rkTs (τ (i + 1)) (z :: st2) := by
    rw [k2]
    exact ⟨fun g => rkBi_c (k3 g) (rkLm_s hz), ht2⟩
  exact ⟨by omega, by omega, rkQt_h hm h1 h2 (by omega) (by omega) ht, ⟨τ, h1, h2, h3, ht⟩, fun r g => h5 r (rkEv_two hi ⟨ho, ho2⟩ hz g)⟩
theorem rkQt_not (hm : rkWm d b) (h : rkQt d vs b i st) (hi : i < rkM d) (ho : rkFo d i = 28) : ∃ (x : Int) (st1 : List Int), st = x :: st1 ∧ (x = 0 ∨ x = 1) ∧ rkQt d vs b (i + 1) ((1 - x) :: st1) := by
  obtain ⟨i0, i1, -, ⟨τ, h1, h2, h3, h4⟩, h5⟩ := h
  have key : ∃ t : List Bool, τ i = true :: t ∧ τ (i + 1) = true :: t := by
    rcases (h2 i i0 hi).1 with u | u | u | u | u
    · exfalso
      have := u.2.1
      omega
    · exfalso
      have := u.2.1
      omega
    · exfalso
      have := u.2.1
      omega
    · exact u.2
    · exfalso
      rcases u.1 with v | v <;> omega
  obtain ⟨t, k1, k2⟩ := key
  rw [k1] at h4
  obtain ⟨x, st1, e1, hx, ht1⟩ := rkTs_c h4
  have hx := hx rfl
  subst e1
  have ht : rkTs (τ (i + 1)) ((1 - x) :: st1) := by
    rw [k2]
    exact ⟨fun _ => by omega, ht1⟩
  exact ⟨x, st1, rfl, hx, by omega, by omega, rkQt_h hm h1 h2 (by omega) (by omega) ht, ⟨τ, h1, h2, h3, ht⟩, fun r g => h5 r (rkEv_not hi ho g)⟩
theorem rkQt_jmp (hm : rkWm d b) (h : rkQt d vs b i st) (hi : i < rkM d) (ho : rkFo d i = 29 ∨ rkFo d i = 30) : ∃ (x : Int) (st1 : List Int), st = x :: st1 ∧ (x = 0 ∨ x = 1) ∧ i < rkFa d i ∧ rkFa d i ≤ rkM d ∧ (x = (if rkFo d i = 30 then 1 else 0) → rkQt d vs b (rkFa d i) (x :: st1)) ∧ (¬ x = (if rkFo d i = 30 then 1 else 0) → rkQt d vs b (i + 1) st1) := by
  obtain ⟨i0, i1, -, ⟨τ, h1, h2, h3, h4⟩, h5⟩ := h
  have key : ∃ t : List Bool, τ i = true :: t ∧ τ (i + 1) = t ∧ (rkFa d i = 0 ∨ (i < rkFa d i ∧ rkFa d i ≤ rkM d ∧ τ (rkFa d i) = true :: t)) := by
    rcases (h2 i i0 hi).1 with u | u | u | u | u
    · exfalso
      have := u.2.1
      omega
    · exfalso
      have := u.2.1
      omega
    · exfalso
      have := u.2.1
      omega
    · exfalso
      have := u.1
      omega
    · exact u.2
  obtain ⟨t, k1, k2, k3⟩ := key
  obtain ⟨a1, a2, a3⟩ := k3.resolve_left ((h2 i i0 hi).2 ho)
  rw [k1] at h4
  obtain ⟨x, st1, e1, hx, ht1⟩ := rkTs_c h4
  have hx := hx rfl
  subst e1
  refine ⟨x, st1, rfl, hx, a1, a2, fun g => ?_, fun g => ?_⟩
  · have ht : rkTs (τ (rkFa d i)) (x :: st1) := by
      rw [a3]
      exact ⟨fun _ => hx, ht1⟩
    exact ⟨by omega, a2, rkQt_h hm h1 h2 (by omega) a2 ht, ⟨τ, h1, h2, h3, ht⟩, fun r q => h5 r (rkEv_leap hi ho g q)⟩
  · have ht : rkTs (τ (i + 1)) st1 := by
      rw [k2]
      exact ht1
    exact ⟨by omega, by omega, rkQt_h hm h1 h2 (by omega) (by omega) ht, ⟨τ, h1, h2, h3, ht⟩, fun r q => h5 r (rkEv_drop hi ho g q)⟩
theorem rkQt_end (h : rkQt d vs b i st) (hi : rkM d ≤ i) : ∃ x : Int, st = [x] ∧ (b = true → x = 0 ∨ x = 1) ∧ rkEv d vs 0 [] (some [x]) := by
  obtain ⟨i0, i1, -, ⟨τ, h1, h2, h3, h4⟩, h5⟩ := h
  have e : i = rkM d := by omega
  subst e
  rw [h3] at h4
  obtain ⟨x, st1, e1, e2, e3⟩ := rkTs_c h4
  have e4 := rkTs_n e3
  subst e1
  subst e4
  exact ⟨x, rfl, e2, h5 _ (rkEv_end (Int.le_refl _))⟩
/-- what operations there are -/
theorem rkQt_op (hm : rkWm d b) (h0 : 0 ≤ i) (hi : i < rkM d) : (0 ≤ rkFo d i ∧ rkFo d i ≤ 8) ∨ (20 ≤ rkFo d i ∧ rkFo d i ≤ 30) := hm.2.1.2.2 i h0 hi
end RKQT
/-- how large what stands and what comes of it may be -/
def rkIn (x : Int) : Prop := -2147483648 ≤ x ∧ x ≤ 2147483649
theorem rkMul_b {a b : Int} (ha : rkIn a) (hb : rkIn b) : -9223372036854775808 ≤ a * b ∧ a * b ≤ 9223372036854775807 := by
  have h1 : a.natAbs ≤ 2147483649 := by
    obtain ⟨x, y⟩ := ha
    omega
  have h2 : b.natAbs ≤ 2147483649 := by
    obtain ⟨x, y⟩ := hb
    omega
  have h := Nat.mul_le_mul h1 h2
  rw [← Int.natAbs_mul] at h
  omega
theorem rkBi_20 {a b : Int} : rkBi 20 a b = some (a + b) := (if_pos rfl)
theorem rkBi_21 {a b : Int} : rkBi 21 a b = some (a - b) := (if_neg (by decide)).trans ((if_pos rfl))
theorem rkBi_22 {a b : Int} : rkBi 22 a b = some (a * b) := (if_neg (by decide)).trans ((if_neg (by decide)).trans ((if_pos rfl)))
theorem rkBi_23 {a b : Int} (h : b ≠ 0) : rkBi 23 a b = some (a.tdiv b) := ((if_neg (by decide)).trans ((if_neg (by decide)).trans ((if_neg (by decide)).trans ((if_pos rfl))))).trans (if_neg h)
theorem rkBi_23z {a b : Int} (h : b = 0) : rkBi 23 a b = none := ((if_neg (by decide)).trans ((if_neg (by decide)).trans ((if_neg (by decide)).trans ((if_pos rfl))))).trans (if_pos h)
theorem rkBi_24 {a b : Int} (h : b ≠ 0) : rkBi 24 a b = some (a.tmod b) := ((if_neg (by decide)).trans ((if_neg (by decide)).trans ((if_neg (by decide)).trans ((if_neg (by decide)).trans ((if_pos rfl)))))).trans (if_neg h)
theorem rkBi_24z {a b : Int} (h : b = 0) : rkBi 24 a b = none := ((if_neg (by decide)).trans ((if_neg (by decide)).trans ((if_neg (by decide)).trans ((if_neg (by decide)).trans ((if_pos rfl)))))).trans (if_pos h)
theorem rkBi_25 {a b : Int} : rkBi 25 a b = some (if a < b then 1 else 0) := (if_neg (by decide)).trans ((if_neg (by decide)).trans ((if_neg (by decide)).trans ((if_neg (by decide)).trans ((if_neg (by decide)).trans ((if_pos rfl))))))
theorem rkBi_26 {a b : Int} : rkBi 26 a b = some (if b < a then 1 else 0) := (if_neg (by decide)).trans ((if_neg (by decide)).trans ((if_neg (by decide)).trans ((if_neg (by decide)).trans ((if_neg (by decide)).trans ((if_neg (by decide)).trans ((if_pos rfl)))))))
theorem rkBi_27 {a b : Int} : rkBi 27 a b = some (if a = b then 1 else 0) := (if_neg (by decide)).trans ((if_neg (by decide)).trans ((if_neg (by decide)).trans ((if_neg (by decide)).trans ((if_neg (by decide)).trans ((if_neg (by decide)).trans (if_neg (by decide)))))))
theorem rkLm_y {x : Int} (h : -1000000000 ≤ x ∧ x ≤ 1000000000) : rkLm (some x) = some x := if_pos h
theorem rkLm_n {x : Int} (h : ¬ (-1000000000 ≤ x ∧ x ≤ 1000000000)) : rkLm (some x) = none := if_neg h
/-- the topmost of a row -/
theorem rkSk_top {R : Int → Int} {n x : Int} {st : List Int} (h : rkSk R n (x :: st)) : 0 < n ∧ R (n - 1) = x ∧ rkIn x ∧ rkSk R (n - 1) st := ⟨h.1, h.2.1, h.2.2.1, h.2.2.2⟩
