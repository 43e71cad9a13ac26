section
noncomputable def rkVb (vs : Int → Int) : Prop := ∀ k : Int, 1 ≤ k → k ≤ 8 → -2147483648 ≤ vs k ∧ vs k ≤ 2147483647
noncomputable def rkWm (d : rkC) (b : Bool) : Prop := rkWt d b ∧ rkW d ∧ rkNc d ≤ 50
noncomputable def rkQt (d : rkC) (vs : Int → Int) (b : Bool) (i : Int) (st : List Int) : Prop := 0 ≤ i ∧ i ≤ rkM d ∧ st.length ≤ 50 ∧ (∃ τ : Int → List Bool, τ 0 = [] ∧ (∀ j : Int, 0 ≤ j → j < rkM d → rkRu τ (rkM d) j (rkFo d j) (rkFa d j) ∧ ((rkFo d j = 29 ∨ rkFo d j = 30) → rkFa d j ≠ 0)) ∧ τ (rkM d) = [b] ∧ rkTs (τ i) st) ∧ ∀ r : Option (List Int), rkEv d vs i st r → rkEv d vs 0 [] r
theorem rkTs_len : ∀ {t : List Bool} {st : List Int}, rkTs t st → st.length = t.length
  | [], [], _ => rfl
  | [], x :: st, h => h.elim
  | b :: t, [], h => h.elim
  | b :: t, x :: st, h => congrArg (· + 1) (rkTs_len h.2)
section RKQT
variable {d : rkC} {vs : Int → Int} {b : Bool} {i : Int} {st : List Int}
theorem rkQt_h (hm : rkWm d b) {τ : Int → List Bool} (h0 : τ 0 = []) (h : ∀ j : Int, 0 ≤ j → j < rkM d → rkRu τ (rkM d) j (rkFo d j) (rkFa d j) ∧ ((rkFo d j = 29 ∨ rkFo d j = 30) → rkFa d j ≠ 0)) {i : Int} (i0 : 0 ≤ i) (i1 : i ≤ rkM d) {st : List Int} (ht : rkTs (τ i) st) : st.length ≤ 50 := by
  have q := rkWt_h h0 (fun j a b => (h j a b).1) i.toNat (by omega)
  rw [Int.toNat_of_nonneg i0] at q
  have e := rkTs_len ht
  have n := hm.2.2
  have g : rkNu (rkFo d) i.toNat ≤ rkNc d := by
    have g := rkNu_mo (fo := rkFo d) (k := i.toNat) ((rkM d).toNat - i.toNat)
    rw [show i.toNat + ((rkM d).toNat - i.toNat) = (rkM d).toNat by omega] at g
    exact g
  omega
theorem rkQt_0 (hm : rkWm d b) : rkQt d vs b 0 [] := by
  obtain ⟨m0, τ, h1, h2, h3⟩ := hm.1
  exact ⟨Int.le_refl 0, m0, Nat.zero_le _, ⟨τ, h1, h2, h3, by rw [h1]; trivial⟩, fun r h => h⟩
theorem rkQt_num (hm : rkWm d b) (h : rkQt d vs b i st) (hi : i < rkM d) (ho : rkFo d i ≤ 8) : rkQt d vs b (i + 1) ((if rkFo d i = 0 then rkFa d i else vs (rkFo d i)) :: st) := by
  obtain ⟨i0, i1, -, ⟨τ, h1, h2, h3, h4⟩, h5⟩ := h
  have ht : rkTs (τ (i + 1)) ((if rkFo d i = 0 then rkFa d i else vs (rkFo d i)) :: st) := by
    rcases (h2 i i0 hi).1 with ⟨u1, u2, u3⟩ | u | u | u | u
    · rw [u3]
      exact ⟨fun g => (by cases g), h4⟩
    · exfalso
      have := u.1
      omega
    · exfalso
      have := u.1
      omega
    · exfalso
      have := u.1
      omega
    · exfalso
      rcases u.1 with v | v <;> omega
  exact ⟨by omega, by omega, rkQt_h hm h1 h2 (by omega) (by omega) ht, ⟨τ, h1, h2, h3, ht⟩, fun r g => h5 r (rkEv_num hi ho g)⟩
theorem rkQt_two (hm : rkWm d b) (h : rkQt d vs b i st) (hi : i < rkM d) (ho : 9 ≤ rkFo d i) (ho2 : rkFo d i ≤ 27) : ∃ (x y : Int) (st2 : List Int), st = x :: y :: st2 ∧ (∀ z : Int, rkLm (rkBi (rkFo d i) y x) = some z → rkQt d vs b (i + 1) (z :: st2)) ∧ (rkLm (rkBi (rkFo d i) y x) = none → rkEv d vs 0 [] none) := by
  obtain ⟨i0, i1, -, ⟨τ, h1, h2, h3, h4⟩, h5⟩ := h
  have key : ∃ (c : Bool) (t : List Bool), τ i = false :: false :: t ∧ τ (i + 1) = c :: t ∧ (c = true → 25 ≤ rkFo d i) := by
    rcases (h2 i i0 hi).1 with u | ⟨u1, u2, t, u3, u4⟩ | ⟨u1, u2, t, u3, u4⟩ | u | u
    · exfalso
      have := u.2.1
      omega
    · exact ⟨false, t, u3, u4, fun g => (by cases g)⟩
    · exact ⟨true, t, u3, u4, fun _ => u1⟩
    · exfalso
      have := u.1
      omega
    · exfalso
      rcases u.1 with v | v <;> omega
  obtain ⟨c, t, k1, k2, k3⟩ := key
  rw [k1] at h4
  obtain ⟨x, st1, e1, -, ht1⟩ := rkTs_c h4
  obtain ⟨y, st2, e2, -, ht2⟩ := rkTs_c ht1
  subst e1
  subst e2
  refine ⟨x, y, st2, rfl, fun z hz => ?_, fun hz => h5 none (rkEv_brk hi ⟨ho, ho2⟩ hz)⟩
  have ht : rkTs (τ (i + 1)) (z :: st2) := by
    rw [k2]
    exact ⟨fun g => rkBi_c (k3 g) (rkLm_s hz), ht2⟩
  exact ⟨by omega, by omega, rkQt_h hm h1 h2 (by omega) (by omega) ht, ⟨τ, h1, h2, h3, ht⟩, fun r g => h5 r (rkEv_two hi ⟨ho, ho2⟩ hz g)⟩
theorem rkQt_not (hm : rkWm d b) (h : rkQt d vs b i st) (hi : i < rkM d) (ho : rkFo d i = 28) : ∃ (x : Int) (st1 : List Int), st = x :: st1 ∧ (x = 0 ∨ x = 1) ∧ rkQt d vs b (i + 1) ((1 - x) :: st1) := by
  obtain ⟨i0, i1, -, ⟨τ, h1, h2, h3, h4⟩, h5⟩ := h
  have key : ∃ t : List Bool, τ i = true :: t ∧ τ (i + 1) = true :: t := by
    rcases (h2 i i0 hi).1 with u | u | u | u | u
    · exfalso
      have := u.2.1
      omega
    · exfalso
      have := u.2.1
      omega
    · exfalso
      have := u.2.1
      omega
    · exact u.2
    · exfalso
      rcases u.1 with v | v <;> omega
  obtain ⟨t, k1, k2⟩ := key
  rw [k1] at h4
  obtain ⟨x, st1, e1, hx, ht1⟩ := rkTs_c h4
  have hx := hx rfl
  subst e1
  have ht : rkTs (τ (i + 1)) ((1 - x) :: st1) := by
    rw [k2]
    exact ⟨fun _ => by omega, ht1⟩
  exact ⟨x, st1, rfl, hx, by omega, by omega, rkQt_h hm h1 h2 (by omega) (by omega) ht, ⟨τ, h1, h2, h3, ht⟩, fun r g => h5 r (rkEv_not hi ho g)⟩
theorem rkQt_jmp (hm : rkWm d b) (h : rkQt d vs b i st) (hi : i < rkM d) (ho : rkFo d i = 29 ∨ rkFo d i = 30) : ∃ (x : Int) (st1 : List Int), st = x :: st1 ∧ (x = 0 ∨ x = 1) ∧ i < rkFa d i ∧ rkFa d i ≤ rkM d ∧ (x = (if rkFo d i = 30 then 1 else 0) → rkQt d vs b (rkFa d i) (x :: st1)) ∧ (¬ x = (if rkFo d i = 30 then 1 else 0) → rkQt d vs b (i + 1) st1) := by
  obtain ⟨i0, i1, -, ⟨τ, h1, h2, h3, h4⟩, h5⟩ := h
  have key : ∃ t : List Bool, τ i = true :: t ∧ τ (i + 1) = t ∧ (rkFa d i = 0 ∨ (i < rkFa d i ∧ rkFa d i ≤ rkM d ∧ τ (rkFa d i) = true :: t)) := by
    rcases (h2 i i0 hi).1 with u | u | u | u | u
    · exfalso
      have := u.2.1
      omega
    · exfalso
      have := u.2.1
      omega
    · exfalso
      have := u.2.1
      omega
    · exfalso
      have := u.1
      omega
    · exact u.2
  obtain ⟨t, k1, k2, k3⟩ := key
  obtain ⟨a1, a2, a3⟩ := k3.resolve_left ((h2 i i0 hi).2 ho)
  rw [k1] at h4
  obtain ⟨x, st1, e1, hx, ht1⟩ := rkTs_c h4
  have hx := hx rfl
  subst e1
  refine ⟨x, st1, rfl, hx, a1, a2, fun g => ?_, fun g => ?_⟩
  · have ht : rkTs (τ (rkFa d i)) (x :: st1) := by
      rw [a3]
      exact ⟨fun _ => hx, ht1⟩
    exact ⟨by omega, a2, rkQt_h hm h1 h2 (by omega) a2 ht, ⟨τ, h1, h2, h3, ht⟩, fun r q => h5 r (rkEv_leap hi ho g q)⟩
  · have ht : rkTs (τ (i + 1)) st1 := by
      rw [k2]
      exact ht1
    exact ⟨by omega, by omega, rkQt_h hm h1 h2 (by omega) (by omega) ht, ⟨τ, h1, h2, h3, ht⟩, fun r q => h5 r (rkEv_drop hi ho g q)⟩
theorem rkQt_end (h : rkQt d vs b i st) (hi : rkM d ≤ i) : ∃ x : Int, st = [x] ∧ (b = true → x = 0 ∨ x = 1) ∧ rkEv d vs 0 [] (some [x]) := by
  obtain ⟨i0, i1, -, ⟨τ, h1, h2, h3, h4⟩, h5⟩ := h
  have e : i = rkM d := by omega
  subst e
  rw [h3] at h4
  obtain ⟨x, st1, e1, e2, e3⟩ := rkTs_c h4
  have e4 := rkTs_n e3
  subst e1
  subst e4
  exact ⟨x, rfl, e2, h5 _ (rkEv_end (Int.le_refl _))⟩
theorem rkQt_op (hm : rkWm d b) (h0 : 0 ≤ i) (hi : i < rkM d) : (0 ≤ rkFo d i ∧ rkFo d i ≤ 8) ∨ (20 ≤ rkFo d i ∧ rkFo d i ≤ 30) := hm.2.1.2.2 i h0 hi
end RKQT
noncomputable def rkIn (x : Int) : Prop := -2147483648 ≤ x ∧ x ≤ 2147483649
theorem rkMul_b {a b : Int} (ha : rkIn a) (hb : rkIn b) : -9223372036854775808 ≤ a * b ∧ a * b ≤ 9223372036854775807 := by
  have h1 : a.natAbs ≤ 2147483649 := by
    obtain ⟨x, y⟩ := ha
    omega
  have h2 : b.natAbs ≤ 2147483649 := by
    obtain ⟨x, y⟩ := hb
    omega
  have h := Nat.mul_le_mul h1 h2
  rw [← Int.natAbs_mul] at h
  omega
theorem rkBi_20 {a b : Int} : rkBi 20 a b = some (a + b) := (if_pos rfl)
theorem rkBi_21 {a b : Int} : rkBi 21 a b = some (a - b) := (if_neg (by decide)).trans ((if_pos rfl))
theorem rkBi_22 {a b : Int} : rkBi 22 a b = some (a * b) := (if_neg (by decide)).trans ((if_neg (by decide)).trans ((if_pos rfl)))
theorem rkBi_23 {a b : Int} (h : b ≠ 0) : rkBi 23 a b = some (a.tdiv b) := ((if_neg (by decide)).trans ((if_neg (by decide)).trans ((if_neg (by decide)).trans ((if_pos rfl))))).trans (if_neg h)
theorem rkBi_23z {a b : Int} (h : b = 0) : rkBi 23 a b = none := ((if_neg (by decide)).trans ((if_neg (by decide)).trans ((if_neg (by decide)).trans ((if_pos rfl))))).trans (if_pos h)
theorem rkBi_24 {a b : Int} (h : b ≠ 0) : rkBi 24 a b = some (a.tmod b) := ((if_neg (by decide)).trans ((if_neg (by decide)).trans ((if_neg (by decide)).trans ((if_neg (by decide)).trans ((if_pos rfl)))))).trans (if_neg h)
theorem rkBi_24z {a b : Int} (h : b = 0) : rkBi 24 a b = none := ((if_neg (by decide)).trans ((if_neg (by decide)).trans ((if_neg (by decide)).trans ((if_neg (by decide)).trans ((if_pos rfl)))))).trans (if_pos h)
theorem rkBi_25 {a b : Int} : rkBi 25 a b = some (if a < b then 1 else 0) := (if_neg (by decide)).trans ((if_neg (by decide)).trans ((if_neg (by decide)).trans ((if_neg (by decide)).trans ((if_neg (by decide)).trans ((if_pos rfl))))))
theorem rkBi_26 {a b : Int} : rkBi 26 a b = some (if b < a then 1 else 0) := (if_neg (by decide)).trans ((if_neg (by decide)).trans ((if_neg (by decide)).trans ((if_neg (by decide)).trans ((if_neg (by decide)).trans ((if_neg (by decide)).trans ((if_pos rfl)))))))
theorem rkBi_27 {a b : Int} : rkBi 27 a b = some (if a = b then 1 else 0) := (if_neg (by decide)).trans ((if_neg (by decide)).trans ((if_neg (by decide)).trans ((if_neg (by decide)).trans ((if_neg (by decide)).trans ((if_neg (by decide)).trans (if_neg (by decide)))))))
theorem rkLm_y {x : Int} (h : -1000000000 ≤ x ∧ x ≤ 1000000000) : rkLm (some x) = some x := if_pos h
theorem rkLm_n {x : Int} (h : ¬ (-1000000000 ≤ x ∧ x ≤ 1000000000)) : rkLm (some x) = none := if_neg h
theorem rkSk_top {R : Int → Int} {n x : Int} {st : List Int} (h : rkSk R n (x :: st)) : 0 < n ∧ R (n - 1) = x ∧ rkIn x ∧ rkSk R (n - 1) st := ⟨h.1, h.2.1, h.2.2.1, h.2.2.2⟩
end
section
noncomputable def rqVs (S : Nat → Int → Int) (k : Int) : Int := if S 480 15 = 0 then S 493 k else S 494 k
noncomputable def rqCd (S : Nat → Int → Int) (first last : Int) (d : rkC) : Prop := 0 ≤ first ∧ last = first + rkM d ∧ last ≤ 400 ∧ ∀ i : Int, 0 ≤ i → i < rkM d → rxOpA S (first + i) = rkFo d i ∧ rxArA S (first + i) = rkAi first (rkFo d i) (rkFa d i)
noncomputable def rqHy (S : Nat → Int → Int) (vs : Int → Int) (first last : Int) (d : rkC) (b : Bool) : Prop := rqCd S first last d ∧ rkWm d b ∧ rkVb vs ∧ ∀ k : Int, 1 ≤ k → k ≤ 8 → rqVs S k = vs k
noncomputable def rqSo (vs : Int → Int) (S : Nat → Int → Int) (first n at_ : Int) (d : rkC) (b : Bool) : Prop := ∃ st : List Int, rkSk (S 495) n st ∧ rkQt d vs b (at_ - first) st
noncomputable def rqHd (vs : Int → Int) (S : Nat → Int → Int) (first n at_ : Int) (d : rkC) (b : Bool) : Prop := (S 480 32 = 1 ∧ rkEv d vs 0 [] none) ∨ (S 480 32 = 0 ∧ rqSo vs S first n at_ d b)
noncomputable def rqTw (vs : Int → Int) (S : Nat → Int → Int) (first n at_ x y : Int) (d : rkC) (b : Bool) : Prop := ∃ st : List Int, rkSk (S 495) n (y :: x :: st) ∧ rkQt d vs b (at_ - first) (y :: x :: st)
noncomputable def rqOu (vs : Int → Int) (S : Nat → Int → Int) (d : rkC) (b : Bool) : Prop := (S 480 32 = 1 ∧ rkEv d vs 0 [] none) ∨ (S 480 32 = 0 ∧ ∃ x : Int, rkEv d vs 0 [] (some [x]) ∧ S 480 33 = x ∧ rkIn x ∧ (b = true → x = 0 ∨ x = 1))
section RQ1
variable {S0 S S_p : Nat → Int → Int} {vs : Int → Int} {first last n at_ x y op : Int} {d : rkC} {b : Bool}
theorem rqSo_n (h : rqSo vs S first n at_ d b) : 0 ≤ n ∧ n ≤ 50 := by
  obtain ⟨st, h1, h2⟩ := h
  have := rkSk_le h1
  have := h2.2.2.1
  omega
theorem rqSo_num (hy : rqHy S0 vs first last d b) (h : rqSo vs S first n at_ d b) (i1 : at_ < last) (ho : op = rxOpA S0 at_) (h8 : op ≤ 8) (hx : x = (if op = 0 then rxArA S0 at_ else rqVs S0 op))  (hb : rkIn x) (e : S_p 495 n = x) (r : ∀ j : Int, j ≠ n → S_p 495 j = S 495 j) : rqSo vs S_p first (n + 1) (at_ + 1) d b := by
  obtain ⟨st, h1, h2⟩ := h
  obtain ⟨⟨c0, c1, c2, c3⟩, hm, -, hvs⟩ := hy
  have i0 := h2.1
  obtain ⟨c4, c5⟩ := c3 (at_ - first) i0 (by omega)
  rw [show first + (at_ - first) = at_ by omega] at c4 c5
  have n0 := rkSk_le h1
  have q := rkQt_num hm h2 (by omega) (by omega)
  have ex : (if rkFo d (at_ - first) = 0 then rkFa d (at_ - first) else vs (rkFo d (at_ - first))) = x := by
    rw [hx, ho, c4]
    have ho8 := rkQt_op hm i0 (show at_ - first < rkM d by omega)
    by_cases g : rkFo d (at_ - first) = 0
    · rw [if_pos g, if_pos g, c5, g]
      exact (if_neg (by omega)).symm
    · rw [if_neg g, if_neg g]
      exact (hvs _ (by omega) (by omega)).symm
  rw [ex] at q
  refine ⟨x :: st, rkSk_pu h1 (by omega) (fun j _ a => r j (by omega)) e hb, ?_⟩
  rw [show at_ + 1 - first = at_ - first + 1 by omega]
  exact q
theorem rqSo_two (hy : rqHy S0 vs first last d b) (h : rqSo vs S first n at_ d b) (i1 : at_ < last) (ho : op = rxOpA S0 at_) (h20 : 20 ≤ op) (h27 : op ≤ 27) : 2 ≤ n ∧ rqTw vs S first n at_ (S 495 (n - 2)) (S 495 (n - 1)) d b ∧ rkIn (S 495 (n - 2)) ∧ rkIn (S 495 (n - 1)) := by
  obtain ⟨st, h1, h2⟩ := h
  obtain ⟨⟨c0, c1, c2, c3⟩, hm, -⟩ := hy
  have i0 := h2.1
  obtain ⟨c4, c5⟩ := c3 (at_ - first) i0 (by omega)
  rw [show first + (at_ - first) = at_ by omega] at c4 c5
  obtain ⟨y, x, st2, e, -, -⟩ := rkQt_two hm h2 (by omega) (by omega) (by omega)
  subst e
  obtain ⟨g1, g2, g3, g4⟩ := rkSk_top h1
  obtain ⟨k1, k2, k3, k4⟩ := rkSk_top g4
  rw [show n - 1 - 1 = n - 2 by omega] at k2
  refine ⟨by omega, ?_, by rw [k2]; exact k3, by rw [g2]; exact g3⟩
  rw [g2, k2]
  exact ⟨st2, h1, h2⟩
theorem rqTw_of (hy : rqHy S0 vs first last d b) (h : rqTw vs S first n at_ x y d b) (i1 : at_ < last) (ho : op = rxOpA S0 at_) (h20 : 20 ≤ op) (h27 : op ≤ 27) {z : Int} (hz : rkBi op x y = some z) (hz2 : -1000000000 ≤ z ∧ z ≤ 1000000000) (e : S_p 495 (n - 2) = z) (r : ∀ j : Int, j ≠ n - 2 → S_p 495 j = S 495 j) : rqSo vs S_p first (n - 1) (at_ + 1) d b := by
  obtain ⟨st, h1, h2⟩ := h
  obtain ⟨⟨c0, c1, c2, c3⟩, hm, -⟩ := hy
  have i0 := h2.1
  obtain ⟨c4, c5⟩ := c3 (at_ - first) i0 (by omega)
  rw [show first + (at_ - first) = at_ by omega] at c4 c5
  obtain ⟨y_p, x_p, st2, ee, k1, k2⟩ := rkQt_two hm h2 (by omega) (by omega) (by omega)
  cases ee
  obtain ⟨g1, g2, g3, g4⟩ := rkSk_top h1
  have k := k1 z (by rw [← c4, ← ho, hz]; exact rkLm_y hz2)
  refine ⟨z :: st, rkSk_rp g4 (fun j _ a => r j (by omega)) (by rw [show n - 1 - 1 = n - 2 by omega]; exact e) ⟨by omega, by omega⟩, ?_⟩
  rw [show at_ + 1 - first = at_ - first + 1 by omega]
  exact k
theorem rqTw_no (hy : rqHy S0 vs first last d b) (h : rqTw vs S first n at_ x y d b) (i1 : at_ < last) (ho : op = rxOpA S0 at_) (h20 : 20 ≤ op) (h27 : op ≤ 27) (hz : rkLm (rkBi op x y) = none) : rkEv d vs 0 [] none := by
  obtain ⟨st, h1, h2⟩ := h
  obtain ⟨⟨c0, c1, c2, c3⟩, hm, -⟩ := hy
  have i0 := h2.1
  obtain ⟨c4, c5⟩ := c3 (at_ - first) i0 (by omega)
  rw [show first + (at_ - first) = at_ by omega] at c4 c5
  obtain ⟨y_p, x_p, st2, ee, k1, k2⟩ := rkQt_two hm h2 (by omega) (by omega) (by omega)
  cases ee
  exact k2 (by rw [← c4, ← ho]; exact hz)
theorem rqSo_not (hy : rqHy S0 vs first last d b) (h : rqSo vs S first n at_ d b) (i1 : at_ < last) (ho : op = rxOpA S0 at_) (h28 : op = 28) : 1 ≤ n ∧ (S 495 (n - 1) = 0 ∨ S 495 (n - 1) = 1) ∧ (S_p 495 (n - 1) = 1 - S 495 (n - 1) → (∀ j : Int, j ≠ n - 1 → S_p 495 j = S 495 j) → rqSo vs S_p first n (at_ + 1) d b) := by
  obtain ⟨st, h1, h2⟩ := h
  obtain ⟨⟨c0, c1, c2, c3⟩, hm, -⟩ := hy
  have i0 := h2.1
  obtain ⟨c4, c5⟩ := c3 (at_ - first) i0 (by omega)
  rw [show first + (at_ - first) = at_ by omega] at c4 c5
  obtain ⟨x, st1, e, hx, k⟩ := rkQt_not hm h2 (by omega) (by omega)
  subst e
  obtain ⟨g1, g2, g3, g4⟩ := rkSk_top h1
  rw [g2]
  refine ⟨by omega, hx, fun e r => ⟨(1 - x) :: st1, rkSk_rp h1 (fun j _ a => r j (by omega)) e ⟨by omega, by omega⟩, ?_⟩⟩
  rw [show at_ + 1 - first = at_ - first + 1 by omega]
  exact k
theorem rqSo_jmp (hy : rqHy S0 vs first last d b) (h : rqSo vs S first n at_ d b) (i1 : at_ < last) (ho : op = rxOpA S0 at_) (hj : op = 29 ∨ op = 30) : 1 ≤ n ∧ (S 495 (n - 1) = (if op = 30 then 1 else 0) → at_ < rxArA S0 at_ ∧ rxArA S0 at_ ≤ last ∧ rqSo vs S first n (rxArA S0 at_) d b) ∧ (¬ S 495 (n - 1) = (if op = 30 then 1 else 0) → rqSo vs S first (n - 1) (at_ + 1) d b) := by
  obtain ⟨st, h1, h2⟩ := h
  obtain ⟨⟨c0, c1, c2, c3⟩, hm, -⟩ := hy
  have i0 := h2.1
  obtain ⟨c4, c5⟩ := c3 (at_ - first) i0 (by omega)
  rw [show first + (at_ - first) = at_ by omega] at c4 c5
  have hj_p : rkFo d (at_ - first) = 29 ∨ rkFo d (at_ - first) = 30 := by omega
  obtain ⟨x, st1, e, hx, a1, a2, k1, k2⟩ := rkQt_jmp hm h2 (by omega) hj_p
  subst e
  obtain ⟨g1, g2, g3, g4⟩ := rkSk_top h1
  have ea : rxArA S0 at_ = first + rkFa d (at_ - first) := c5.trans (rkAi_j hj_p (by omega))
  rw [g2, ho, c4, ea]
  refine ⟨by omega, fun e => ⟨by omega, by omega, x :: st1, h1, ?_⟩, fun e => ⟨st1, g4, ?_⟩⟩
  · rw [show first + rkFa d (at_ - first) - first = rkFa d (at_ - first) by omega]
    exact k1 e
  · rw [show at_ + 1 - first = at_ - first + 1 by omega]
    exact k2 e
theorem rqSo_end (hy : rqHy S0 vs first last d b) (h : rqSo vs S first n at_ d b) (i1 : last ≤ at_) : n = 1 ∧ rkEv d vs 0 [] (some [S 495 0]) ∧ rkIn (S 495 0) ∧ (b = true → S 495 0 = 0 ∨ S 495 0 = 1) := by
  obtain ⟨st, h1, h2⟩ := h
  obtain ⟨⟨c0, c1, c2, c3⟩, hm, -⟩ := hy
  obtain ⟨x, e, hx, k⟩ := rkQt_end h2 (by omega)
  subst e
  obtain ⟨g1, g2, g3, g4⟩ := rkSk_top h1
  have g4 : n - 1 = 0 := g4
  rw [g4] at g2
  rw [g2]
  exact ⟨by omega, k, g3, hx⟩
theorem rqTw_c (h : rqTw vs S first n at_ x y d b) (r : ∀ j : Int, S_p 495 j = S 495 j) : rqTw vs S_p first n at_ x y d b := by
  obtain ⟨st, h1, h2⟩ := h
  exact ⟨st, rkSk_cg (fun j _ _ => r j) h1, h2⟩
end RQ1
end
section
noncomputable def rkTru (vs : Int → Int) : Option rkC → Prop
  | none => True
  | some d => rkEv d vs 0 [] (some [1])
noncomputable def rkFal (vs : Int → Int) : Option rkC → Prop
  | none => False
  | some d => rkEv d vs 0 [] none ∨ rkEv d vs 0 [] (some [0])
noncomputable def rkSum (vs : Int → Int) (o : Option rkC) (r : Option Int) : Prop := ∃ d : rkC, o = some d ∧ ((r = none ∧ rkEv d vs 0 [] none) ∨ ∃ x : Int, r = some x ∧ rkEv d vs 0 [] (some [x]))
theorem rkTF {vs : Int → Int} {o : Option rkC} (h : rkTru vs o) (g : rkFal vs o) : False := by
  cases o with
  | none => exact g
  | some d =>
    have h : rkEv d vs 0 [] (some [1]) := h
    rcases g with g | g
    · cases rkEv_det h g
    · have e := rkEv_det h g
      have e := Option.some.inj e
      have e : (1 : Int) = 0 := List.head_eq_of_cons_eq e
      omega
theorem rkSum_det {vs : Int → Int} {o : Option rkC} {r r_p : Option Int} (h : rkSum vs o r) (h_p : rkSum vs o r_p) : r = r_p := by
  obtain ⟨d, e, h⟩ := h
  obtain ⟨d_p, e_p, h_p⟩ := h_p
  subst e
  cases e_p
  rcases h with ⟨a, b⟩ | ⟨x, a, b⟩ <;> rcases h_p with ⟨a_p, b_p⟩ | ⟨x_p, a_p, b_p⟩
  · rw [a, a_p]
  · cases rkEv_det b b_p
  · cases rkEv_det b b_p
  · have e := Option.some.inj (rkEv_det b b_p)
    rw [a, a_p, List.head_eq_of_cons_eq e]
noncomputable def rkQl (q : rkQ) : Prop := 0 ≤ q.1 ∧ q.1 ≤ 2 ∧ (q.1 ≠ 2 → ∃ d : rkC, q.2.2.2.1 = some d) ∧ (∀ d : rkC, q.2.2.2.1 = some d → rkWm d false) ∧ ∀ d : rkC, q.2.2.2.2.2 = some d → rkWm d true
noncomputable def rkLl (L : List rkQ) : Prop := ∀ q ∈ L, rkQl q
noncomputable def rkJ1 (hd : Int) (vs : Int → Int) (q : rkQ) (x z : Int) : Prop := (q.1 ≠ hd ∧ z = x) ∨ (q.1 = hd ∧ ((rkFal vs q.2.2.2.2.2 ∧ z = x) ∨ (rkTru vs q.2.2.2.2.2 ∧ ((hd = 2 ∧ z = 1) ∨ (hd ≠ 2 ∧ ((rkSum vs q.2.2.2.1 none ∧ z = x) ∨ rkSum vs q.2.2.2.1 (some z)))))))
noncomputable def rkJr (hd : Int) (vs : Int → Int) : List rkQ → Int → Int → Prop
  | [], x, y => y = x
  | q :: L, x, y => ∃ z : Int, rkJ1 hd vs q x z ∧ rkJr hd vs L z y
noncomputable def rkNear (v m : Int) : Int := if v < 0 then 0 else if m < v then m else v
noncomputable abbrev rkH3 := Int × Int × Int
noncomputable def rkH1 (vs : Int → Int) (q : rkQ) (x z : rkH3) : Prop := (rkFal vs q.2.2.2.2.2 ∧ z = x) ∨ (rkTru vs q.2.2.2.2.2 ∧ ((q.1 = 2 ∧ z = (x.1, x.2.1, 1)) ∨ (q.1 ≠ 2 ∧ ((rkSum vs q.2.2.2.1 none ∧ z = x) ∨ ∃ v : Int, rkSum vs q.2.2.2.1 (some v) ∧ z = (if q.1 = 0 then (rkNear v 100, x.2.1, x.2.2) else (x.1, rkNear v 99, x.2.2))))))
noncomputable def rkHr (vs : Int → Int) : List rkQ → rkH3 → rkH3 → Prop
  | [], x, y => y = x
  | q :: L, x, y => ∃ z : rkH3, rkH1 vs q x z ∧ rkHr vs L z y
theorem rkJr_go {hd : Int} {vs : Int → Int} {q : rkQ} {L : List rkQ} {x z : Int} {P : Int → Prop} (h : ∀ y : Int, rkJr hd vs (q :: L) x y → P y) (g : rkJ1 hd vs q x z) : ∀ y : Int, rkJr hd vs L z y → P y := fun y k => h y ⟨z, g, k⟩
theorem rkHr_go {vs : Int → Int} {q : rkQ} {L : List rkQ} {x z : rkH3} {P : rkH3 → Prop} (h : ∀ y : rkH3, rkHr vs (q :: L) x y → P y) (g : rkH1 vs q x z) : ∀ y : rkH3, rkHr vs L z y → P y := fun y k => h y ⟨z, g, k⟩
noncomputable def rqSq (S : Nat → Int → Int) (vs : Int → Int) (start : Int) (q : rkQ) : Prop := (∃ k : Int, start = S 480 28 + 2 + 8 * k ∧ rkCt (S 482) (S 480 28) k q) ∧ rkQl q ∧ S 480 15 = 0 ∧ rkVb vs ∧ ∀ k : Int, 1 ≤ k → k ≤ 8 → S 493 k = vs k
theorem rqSq_cd {S : Nat → Int → Int} {vs : Int → Int} {a e : Int} {b : Bool} {o : Option rkC} (h : rkGt (S 482) (S 480 28) a e o) (h0 : S 480 15 = 0) (hv : rkVb vs) (hs : ∀ k : Int, 1 ≤ k → k ≤ 8 → S 493 k = vs k) (hm : ∀ d : rkC, o = some d → rkWm d b) : ∀ d : rkC, o = some d → a < e ∧ rqHy S vs a e d b := fun d ed => by
  subst ed
  obtain ⟨h1, h2, h3, h4, h5, h6⟩ := h
  refine ⟨by omega, ⟨h1, h3, h4, fun i i0 i1 => ?_⟩, hm d rfl, hv, fun k k0 k1 => ?_⟩
  · unfold rxOpA rxArA
    rw [if_pos h0, if_pos h0]
    exact h6 i i0 i1
  · unfold rqVs
    rw [if_pos h0]
    exact hs k k0 k1
theorem rqSq_c {S S_p : Nat → Int → Int} {vs : Int → Int} {start : Int} {q : rkQ} (h : rqSq S vs start q) (r : ∀ j : Int, 0 ≤ j → j < 6180 → S_p 482 j = S 482 j) (e28 : S_p 480 28 = S 480 28) (e15 : S_p 480 15 = S 480 15) (s : ∀ k : Int, 1 ≤ k → k ≤ 8 → S_p 493 k = S 493 k) (hr : ∃ n k : Int, 0 ≤ n ∧ n ≤ 5 ∧ 0 ≤ k ∧ k < 12 ∧ start = 780 + 900 * n + 2 + 8 * k ∧ S 480 28 = 780 + 900 * n) : rqSq S_p vs start q := by
  obtain ⟨⟨k, h1, h2⟩, h3, h4, h5, h6⟩ := h
  obtain ⟨n, k_p, n0, n5, k0, k1, hs, hl⟩ := hr
  have ek : k = k_p := by omega
  subst ek
  refine ⟨⟨k, by rw [e28]; exact h1, ?_⟩, h3, e15.trans h4, h5, fun i a b => (s i a b).trans (h6 i a b)⟩
  rw [e28]
  have hc := fun (j : Int) (a : S 480 28 ≤ j) (b : j < S 480 28 + 900) => r j (by omega) (by omega)
  obtain ⟨a1, a2, a3⟩ := h2
  exact ⟨(hc _ (by omega) (by omega)).trans a1, by rw [hc _ (by omega) (by omega), hc _ (by omega) (by omega)]; exact rkGt_cg a2 hc, by rw [hc _ (by omega) (by omega), hc _ (by omega) (by omega)]; exact rkGt_cg a3 hc⟩
theorem rqSq_x {S : Nat → Int → Int} {vs : Int → Int} {start : Int} {q : rkQ} (h : rqSq S vs start q) : S 482 start = q.1 ∧ (∀ d : rkC, q.2.2.2.1 = some d → S 482 (start + 3) < S 482 (start + 4) ∧ rqHy S vs (S 482 (start + 3)) (S 482 (start + 4)) d false) ∧ (∀ d : rkC, q.2.2.2.2.2 = some d → S 482 (start + 5) < S 482 (start + 6) ∧ rqHy S vs (S 482 (start + 5)) (S 482 (start + 6)) d true) ∧ (q.2.2.2.2.2 = none → S 482 (start + 6) = S 482 (start + 5)) := by
  obtain ⟨⟨k, h1, g1, g2, g3⟩, h3, h4, h5, h6⟩ := h
  rw [← h1] at g1 g2 g3
  refine ⟨g1, rqSq_cd g2 h4 h5 h6 h3.2.2.2.1, rqSq_cd g3 h4 h5 h6 h3.2.2.2.2, fun e => ?_⟩
  rw [e] at g3
  exact g3
noncomputable def rkVv (p m b d pa t y mo : Int) (k : Int) : Int := if k = 1 then p else if k = 2 then m else if k = 3 then b else if k = 4 then d else if k = 5 then pa else if k = 6 then t else if k = 7 then y else mo
theorem rkVv_k {p m b d pa t y mo : Int} {P : Int → Int → Prop} (h1 : P 1 p) (h2 : P 2 m) (h3 : P 3 b) (h4 : P 4 d) (h5 : P 5 pa) (h6 : P 6 t) (h7 : P 7 y) (h8 : P 8 mo) : ∀ k : Int, 1 ≤ k → k ≤ 8 → P k (rkVv p m b d pa t y mo k) := fun k k0 k1 => by
  have e : k = 1 ∨ k = 2 ∨ k = 3 ∨ k = 4 ∨ k = 5 ∨ k = 6 ∨ k = 7 ∨ k = 8 := by omega
  rcases e with rfl | rfl | rfl | rfl | rfl | rfl | rfl | rfl
  · exact h1
  · exact h2
  · exact h3
  · exact h4
  · exact h5
  · exact h6
  · exact h7
  · exact h8
noncomputable abbrev rqV (S : Nat → Int → Int) (p pa t y : Int) : Int → Int := rkVv p (S 482 (240 + 3 * p)) (S 482 (238 + 3 * p)) (S 482 (239 + 3 * p)) pa t y (S 482 8)
noncomputable def rqTe (S0 S : Nat → Int → Int) (ws : List Int) (kd i val : Int) : Prop := ∃ p pa t y base : Int, ws = [480, kd, p, pa, t, y, base] ∧ S 480 28 = 780 + 900 * S0 482 4 ∧ 0 ≤ S0 482 4 ∧ S0 482 4 ≤ 5 ∧ rkVb (rqV S0 p pa t y) ∧ (∀ k : Int, 1 ≤ k → k ≤ 8 → S 493 k = rqV S0 p pa t y k) ∧ ∀ L : List rkQ, rkTr (S0 482) (S0 482 4) L → rkLl L → ∃ L1 : List rkQ, 0 ≤ i ∧ rkPt (S0 482) (780 + 900 * S0 482 4) i L1 ∧ i + (L1.length : Int) = (L.length : Int) ∧ rkLl L1 ∧ ∀ z : Int, rkJr kd (rqV S0 p pa t y) L1 val z → rkJr kd (rqV S0 p pa t y) L base z
noncomputable def rqT4 (S0 S : Nat → Int → Int) (ws : List Int) (kd i val so : Int) : Prop := ∃ p pa t y base : Int, ws = [480, kd, p, pa, t, y, base] ∧ S 480 28 = 780 + 900 * S0 482 4 ∧ 0 ≤ S0 482 4 ∧ S0 482 4 ≤ 5 ∧ rkVb (rqV S0 p pa t y) ∧ (∀ k : Int, 1 ≤ k → k ≤ 8 → S 493 k = rqV S0 p pa t y k) ∧ ∀ L : List rkQ, rkTr (S0 482) (S0 482 4) L → rkLl L → ∃ (q : rkQ) (L1 : List rkQ), 0 ≤ i ∧ rkPt (S0 482) (780 + 900 * S0 482 4) (i + 1) L1 ∧ i + 1 + (L1.length : Int) = (L.length : Int) ∧ rkLl L1 ∧ ((so = 0 → rkJ1 kd (rqV S0 p pa t y) q val val) ∧ (so = 1 → kd = 2 → rkJ1 kd (rqV S0 p pa t y) q val 1) ∧ (so = 1 → kd ≠ 2 → rkJ1 kd (rqV S0 p pa t y) q val (S 480 34))) ∧ ∀ z : Int, rkJr kd (rqV S0 p pa t y) (q :: L1) val z → rkJr kd (rqV S0 p pa t y) L base z
theorem rqT4_of {S0 S : Nat → Int → Int} {ws : List Int} {kd i val so x : Int} (h : rqT4 S0 S ws kd i val so) (hx : (so = 0 ∧ x = val) ∨ (so = 1 ∧ kd = 2 ∧ x = 1) ∨ (so = 1 ∧ kd ≠ 2 ∧ x = S 480 34)) : rqTe S0 S ws kd (i + 1) x := by
  obtain ⟨p, pa, t, y, base, h1, h2, h3, h4, h5, h6, h7⟩ := h
  refine ⟨p, pa, t, y, base, h1, h2, h3, h4, h5, h6, fun L hL hl => ?_⟩
  obtain ⟨q, L1, g0, g1, g2, g3, ⟨a1, a2, a3⟩, g4⟩ := h7 L hL hl
  refine ⟨L1, by omega, g1, g2, g3, rkJr_go g4 ?_⟩
  rcases hx with ⟨e1, e2⟩ | ⟨e1, e2, e3⟩ | ⟨e1, e2, e3⟩
  · rw [e2]
    exact a1 e1
  · rw [e3]
    exact a2 e1 e2
  · rw [e3]
    exact a3 e1 e2
theorem rqTe_skip {S0 S : Nat → Int → Int} {ws : List Int} {kd i val : Int} (h : rqTe S0 S ws kd i val) (hi : i < S0 482 (780 + 900 * S0 482 4 + 1)) (hk : S0 482 (780 + 900 * S0 482 4 + 2 + 8 * i) ≠ kd) : rqTe S0 S ws kd (i + 1) val := by
  obtain ⟨p, pa, t, y, base, h1, h2, h3, h4, h5, h6, h7⟩ := h
  refine ⟨p, pa, t, y, base, h1, h2, h3, h4, h5, h6, fun L hL hl => ?_⟩
  obtain ⟨L1, g0, g1, g2, g3, g4⟩ := h7 L hL hl
  have hn := hL.1
  cases L1 with
  | nil =>
    exfalso
    simp only [List.length_nil] at g2
    omega
  | cons q L2 =>
    simp only [List.length_cons] at g2
    exact ⟨L2, by omega, g1.2, by omega, fun q_p m => g3 q_p (List.mem_cons_of_mem _ m), rkJr_go g4 (Or.inl ⟨fun e => hk (g1.1.1.trans e), rfl⟩)⟩
theorem rqTe_sq {S0 S : Nat → Int → Int} {ws : List Int} {kd i val start : Int} {L : List rkQ} (h : rqTe S0 S ws kd i val) (hi : i < S0 482 (780 + 900 * S0 482 4 + 1)) (hs : start = S 480 28 + 2 + 8 * i) (e15 : S 480 15 = 0) (r : ∀ j : Int, 0 ≤ j → j < 6180 → S 482 j = S0 482 j) (hL : rkTr (S0 482) (S0 482 4) L) (hl : rkLl L) : ∃ (p pa t y base : Int) (q : rkQ) (L2 : List rkQ), ws = [480, kd, p, pa, t, y, base] ∧ rqSq S (rqV S0 p pa t y) start q ∧ 0 ≤ i ∧ rkPt (S0 482) (780 + 900 * S0 482 4) (i + 1) L2 ∧ i + 1 + (L2.length : Int) = (L.length : Int) ∧ rkLl L2 ∧ ∀ z : Int, rkJr kd (rqV S0 p pa t y) (q :: L2) val z → rkJr kd (rqV S0 p pa t y) L base z := by
  obtain ⟨p, pa, t, y, base, h1, h2, h3, h4, h5, h6, h7⟩ := h
  obtain ⟨L1, g0, g1, g2, g3, g4⟩ := h7 L hL hl
  have hn := hL.1
  have hn2 := hL.2.1
  cases L1 with
  | nil =>
    exfalso
    simp only [List.length_nil] at g2
    omega
  | cons q L2 =>
    simp only [List.length_cons] at g2
    refine ⟨p, pa, t, y, base, q, L2, h1, ⟨⟨i, hs, ?_⟩, g3 q (List.mem_cons_self ..), e15, h5, h6⟩, g0, g1.2, by omega, fun q_p m => g3 q_p (List.mem_cons_of_mem _ m), g4⟩
    rw [h2]
    exact (rkPt_cg (L := q :: L2) (fun j a b => r j (by omega) (by omega)) g0 (by simp only [List.length_cons]; omega) g1).1
noncomputable def rqAs (R : Int → Int) (p pa t y hd base x : Int) : Prop := (R 4 = -1 ∧ x = base) ∨ (R 4 ≠ -1 ∧ ∀ L : List rkQ, rkTr R (R 4) L → rkLl L → rkJr hd (rkVv p (R (240 + 3 * p)) (R (238 + 3 * p)) (R (239 + 3 * p)) pa t y (R 8)) L base x)
noncomputable def rqLp (R : Int → Int) : Prop := R 4 = -1 ∨ ∃ L : List rkQ, rkTr R (R 4) L ∧ rkLl L
theorem rkNear_0 {x m : Int} (h : x < 0) : rkNear x m = 0 := if_pos h
theorem rkNear_m {x m : Int} (h0 : 0 ≤ x) (h : m < x) : rkNear x m = m := (if_neg (by omega)).trans (if_pos h)
theorem rkNear_i {x m : Int} (h0 : 0 ≤ x) (h : x ≤ m) : rkNear x m = x := (if_neg (by omega)).trans (if_neg (by omega))
end
section
noncomputable def rkPg : List Nat := (List.range 6).map (fun k => 77 + 10 * k) ++ ((List.range 6).map (fun k => 214 + 10 * k) ++ ((List.range 6).map (fun k => 350 + 10 * k) ++ [427]))
noncomputable def tqOp (S : Nat → Int → Int) (pg at_ : Int) : Int := if S (pg + 1).toNat at_ = 1 then 0 else if S (pg + 1).toNat at_ = 2 then (if 0 ≤ S (pg + 2).toNat at_ ∧ S (pg + 2).toNat at_ ≤ 7 then S (pg + 2).toNat at_ + 1 else -1) else if S (pg + 1).toNat at_ ≤ 5 then S (pg + 1).toNat at_ + 25 else S (pg + 1).toNat at_ + 14
noncomputable def tqCd (S : Nat → Int → Int) (pg first : Int) (d : rkC) : Prop := 0 ≤ first ∧ first + rkM d < S pg.toNat 0 ∧ S (pg + 1).toNat (first + rkM d) = 0 ∧ ∀ i : Int, 0 ≤ i → i < rkM d → tqOp S pg (first + i) = rkFo d i ∧ (rkFo d i = 0 ∨ rkFo d i = 29 ∨ rkFo d i = 30 → S (pg + 2).toNat (first + i) = rkAi first (rkFo d i) (rkFa d i)) ∧ S (pg + 1).toNat (first + i) ≠ 0
noncomputable def tqHy (S : Nat → Int → Int) (vs : Int → Int) (pg first : Int) (d : rkC) (b : Bool) : Prop := tqCd S pg first d ∧ rkWm d b ∧ rkVb vs ∧ (∀ k : Int, 1 ≤ k → k ≤ 8 → S 22 (k - 1) = vs k) ∧ 0 ≤ pg ∧ pg.toNat ∈ rkPg
noncomputable def tqSo (vs : Int → Int) (S : Nat → Int → Int) (pg first n at_ : Int) (d : rkC) (b : Bool) : Prop := ∃ st : List Int, rkSk (S (pg + 3).toNat) n st ∧ rkQt d vs b (at_ - first) st
noncomputable def tqTw (vs : Int → Int) (S : Nat → Int → Int) (pg first n at_ x y : Int) (d : rkC) (b : Bool) : Prop := ∃ st : List Int, rkSk (S (pg + 3).toNat) n (y :: x :: st) ∧ rkQt d vs b (at_ - first) (y :: x :: st)
theorem tq_lt {S : Nat → Int → Int} {pg first at_ : Int} {d : rkC} (hc : tqCd S pg first d) (i1 : S (pg + 1).toNat at_ ≠ 0) (a : 0 ≤ at_ - first) (b : at_ - first ≤ rkM d) : at_ - first < rkM d := by
  by_cases e : at_ - first = rkM d
  · exfalso
    have g := hc.2.2.1
    rw [show first + rkM d = at_ by omega] at g
    exact i1 g
  · omega
theorem rkEn_c {op : Int} (h : (0 ≤ op ∧ op ≤ 8) ∨ (20 ≤ op ∧ op ≤ 30)) : (op = 0 ∧ rkEn op = 1) ∨ (1 ≤ op ∧ op ≤ 8 ∧ rkEn op = 2) ∨ (20 ≤ op ∧ op ≤ 27 ∧ rkEn op = op - 14) ∨ (28 ≤ op ∧ op ≤ 30 ∧ rkEn op = op - 25) := by
  unfold rkEn
  by_cases h0 : op = 0
  · exact Or.inl ⟨h0, if_pos h0⟩
  · rw [if_neg h0]
    by_cases h8 : op ≤ 8
    · exact Or.inr (Or.inl ⟨by omega, h8, if_pos h8⟩)
    · rw [if_neg h8]
      by_cases h27 : op ≤ 27
      · exact Or.inr (Or.inr (Or.inl ⟨by omega, h27, if_pos h27⟩))
      · rw [if_neg h27]
        exact Or.inr (Or.inr (Or.inr ⟨by omega, by omega, if_pos (by omega)⟩))
theorem tqOp_of {S : Nat → Int → Int} {pg at_ op b a : Int} (h : (0 ≤ op ∧ op ≤ 8) ∨ (20 ≤ op ∧ op ≤ 30)) (e1 : S (pg + 1).toNat at_ = rkEn op) (e2 : S (pg + 2).toNat at_ = rkEi b op a) : tqOp S pg at_ = op ∧ (op = 0 ∨ op = 29 ∨ op = 30 → S (pg + 2).toNat at_ = rkAi b op a) ∧ S (pg + 1).toNat at_ ≠ 0 := by
  have c := rkEn_c h
  rw [← e1] at c
  refine ⟨?_, fun g => ?_, by omega⟩
  · unfold tqOp
    rcases c with ⟨c1, c2⟩ | ⟨c1, c2, c3⟩ | ⟨c1, c2, c3⟩ | ⟨c1, c2, c3⟩
    · rw [if_pos c2]
      exact c1.symm
    · have e3 : rkEi b op a + 1 = op := by
        unfold rkEi
        rw [if_neg (by omega), if_pos c2]
        omega
      rw [if_neg (by omega), if_pos c3, e2, if_pos (by omega)]
      exact e3
    · rw [if_neg (by omega), if_neg (by omega), if_neg (by omega)]
      omega
    · rw [if_neg (by omega), if_neg (by omega), if_pos (by omega)]
      omega
  · rw [e2]
    unfold rkEi rkAi
    rcases g with g | g
    · rw [if_pos g, if_neg (by omega)]
    · rw [if_neg (by omega), if_neg (by omega), if_pos g]
      exact (if_pos g).symm
section TQ1
variable {S0 S S_p : Nat → Int → Int} {vs : Int → Int} {pg first n at_ x y op : Int} {d : rkC} {b : Bool}
theorem tqSo_n (h : tqSo vs S pg first n at_ d b) : 0 ≤ n ∧ n ≤ 50 := by
  obtain ⟨st, h1, h2⟩ := h
  have := rkSk_le h1
  have := h2.2.2.1
  omega
theorem tqSo_num (hy : tqHy S0 vs pg first d b) (h : tqSo vs S pg first n at_ d b) (i1 : S0 (pg + 1).toNat at_ ≠ 0) (ho : op = tqOp S0 pg at_) (h8 : op ≤ 8) (hx : x = (if op = 0 then S0 (pg + 2).toNat at_ else S0 22 (op - 1)))  (hb : rkIn x) (e : S_p (pg + 3).toNat n = x) (r : ∀ j : Int, j ≠ n → S_p (pg + 3).toNat j = S (pg + 3).toNat j) : tqSo vs S_p pg first (n + 1) (at_ + 1) d b := by
  obtain ⟨st, h1, h2⟩ := h
  obtain ⟨⟨c0, c1, c2, c3⟩, hm, -, hvs, -⟩ := hy
  have i0 := h2.1
  have hi := tq_lt ⟨c0, c1, c2, c3⟩ i1 h2.1 h2.2.1
  obtain ⟨c4, c5, -⟩ := c3 (at_ - first) i0 hi
  rw [show first + (at_ - first) = at_ by omega] at c4 c5
  have n0 := rkSk_le h1
  have q := rkQt_num hm h2 (by omega) (by omega)
  have ex : (if rkFo d (at_ - first) = 0 then rkFa d (at_ - first) else vs (rkFo d (at_ - first))) = x := by
    rw [hx, ho, c4]
    have ho8 := rkQt_op hm i0 (show at_ - first < rkM d by omega)
    by_cases g : rkFo d (at_ - first) = 0
    · rw [if_pos g, if_pos g, c5 (Or.inl g), g]
      exact (if_neg (by omega)).symm
    · rw [if_neg g, if_neg g]
      exact (hvs _ (by omega) (by omega)).symm
  rw [ex] at q
  refine ⟨x :: st, rkSk_pu h1 (by omega) (fun j _ a => r j (by omega)) e hb, ?_⟩
  rw [show at_ + 1 - first = at_ - first + 1 by omega]
  exact q
theorem tqSo_two (hy : tqHy S0 vs pg first d b) (h : tqSo vs S pg first n at_ d b) (i1 : S0 (pg + 1).toNat at_ ≠ 0) (ho : op = tqOp S0 pg at_) (h20 : 20 ≤ op) (h27 : op ≤ 27) : 2 ≤ n ∧ tqTw vs S pg first n at_ (S (pg + 3).toNat (n - 2)) (S (pg + 3).toNat (n - 1)) d b ∧ rkIn (S (pg + 3).toNat (n - 2)) ∧ rkIn (S (pg + 3).toNat (n - 1)) := by
  obtain ⟨st, h1, h2⟩ := h
  obtain ⟨⟨c0, c1, c2, c3⟩, hm, -⟩ := hy
  have i0 := h2.1
  have hi := tq_lt ⟨c0, c1, c2, c3⟩ i1 h2.1 h2.2.1
  obtain ⟨c4, c5, -⟩ := c3 (at_ - first) i0 hi
  rw [show first + (at_ - first) = at_ by omega] at c4 c5
  obtain ⟨y, x, st2, e, -, -⟩ := rkQt_two hm h2 (by omega) (by omega) (by omega)
  subst e
  obtain ⟨g1, g2, g3, g4⟩ := rkSk_top h1
  obtain ⟨k1, k2, k3, k4⟩ := rkSk_top g4
  rw [show n - 1 - 1 = n - 2 by omega] at k2
  refine ⟨by omega, ?_, by rw [k2]; exact k3, by rw [g2]; exact g3⟩
  rw [g2, k2]
  exact ⟨st2, h1, h2⟩
theorem tqTw_of (hy : tqHy S0 vs pg first d b) (h : tqTw vs S pg first n at_ x y d b) (i1 : S0 (pg + 1).toNat at_ ≠ 0) (ho : op = tqOp S0 pg at_) (h20 : 20 ≤ op) (h27 : op ≤ 27) {z : Int} (hz : rkBi op x y = some z) (hz2 : -1000000000 ≤ z ∧ z ≤ 1000000000) (e : S_p (pg + 3).toNat (n - 2) = z) (r : ∀ j : Int, j ≠ n - 2 → S_p (pg + 3).toNat j = S (pg + 3).toNat j) : tqSo vs S_p pg first (n - 1) (at_ + 1) d b := by
  obtain ⟨st, h1, h2⟩ := h
  obtain ⟨⟨c0, c1, c2, c3⟩, hm, -⟩ := hy
  have i0 := h2.1
  have hi := tq_lt ⟨c0, c1, c2, c3⟩ i1 h2.1 h2.2.1
  obtain ⟨c4, c5, -⟩ := c3 (at_ - first) i0 hi
  rw [show first + (at_ - first) = at_ by omega] at c4 c5
  obtain ⟨y_p, x_p, st2, ee, k1, k2⟩ := rkQt_two hm h2 (by omega) (by omega) (by omega)
  cases ee
  obtain ⟨g1, g2, g3, g4⟩ := rkSk_top h1
  have k := k1 z (by rw [← c4, ← ho, hz]; exact rkLm_y hz2)
  refine ⟨z :: st, rkSk_rp g4 (fun j _ a => r j (by omega)) (by rw [show n - 1 - 1 = n - 2 by omega]; exact e) ⟨by omega, by omega⟩, ?_⟩
  rw [show at_ + 1 - first = at_ - first + 1 by omega]
  exact k
theorem tqTw_no (hy : tqHy S0 vs pg first d b) (h : tqTw vs S pg first n at_ x y d b) (i1 : S0 (pg + 1).toNat at_ ≠ 0) (ho : op = tqOp S0 pg at_) (h20 : 20 ≤ op) (h27 : op ≤ 27) (hz : rkLm (rkBi op x y) = none) : rkEv d vs 0 [] none := by
  obtain ⟨st, h1, h2⟩ := h
  obtain ⟨⟨c0, c1, c2, c3⟩, hm, -⟩ := hy
  have i0 := h2.1
  have hi := tq_lt ⟨c0, c1, c2, c3⟩ i1 h2.1 h2.2.1
  obtain ⟨c4, c5, -⟩ := c3 (at_ - first) i0 hi
  rw [show first + (at_ - first) = at_ by omega] at c4 c5
  obtain ⟨y_p, x_p, st2, ee, k1, k2⟩ := rkQt_two hm h2 (by omega) (by omega) (by omega)
  cases ee
  exact k2 (by rw [← c4, ← ho]; exact hz)
theorem tqSo_not (hy : tqHy S0 vs pg first d b) (h : tqSo vs S pg first n at_ d b) (i1 : S0 (pg + 1).toNat at_ ≠ 0) (ho : op = tqOp S0 pg at_) (h28 : op = 28) : 1 ≤ n ∧ (S (pg + 3).toNat (n - 1) = 0 ∨ S (pg + 3).toNat (n - 1) = 1) ∧ (S_p (pg + 3).toNat (n - 1) = 1 - S (pg + 3).toNat (n - 1) → (∀ j : Int, j ≠ n - 1 → S_p (pg + 3).toNat j = S (pg + 3).toNat j) → tqSo vs S_p pg first n (at_ + 1) d b) := by
  obtain ⟨st, h1, h2⟩ := h
  obtain ⟨⟨c0, c1, c2, c3⟩, hm, -⟩ := hy
  have i0 := h2.1
  have hi := tq_lt ⟨c0, c1, c2, c3⟩ i1 h2.1 h2.2.1
  obtain ⟨c4, c5, -⟩ := c3 (at_ - first) i0 hi
  rw [show first + (at_ - first) = at_ by omega] at c4 c5
  obtain ⟨x, st1, e, hx, k⟩ := rkQt_not hm h2 (by omega) (by omega)
  subst e
  obtain ⟨g1, g2, g3, g4⟩ := rkSk_top h1
  rw [g2]
  refine ⟨by omega, hx, fun e r => ⟨(1 - x) :: st1, rkSk_rp h1 (fun j _ a => r j (by omega)) e ⟨by omega, by omega⟩, ?_⟩⟩
  rw [show at_ + 1 - first = at_ - first + 1 by omega]
  exact k
theorem tqSo_jmp (hy : tqHy S0 vs pg first d b) (h : tqSo vs S pg first n at_ d b) (i1 : S0 (pg + 1).toNat at_ ≠ 0) (ho : op = tqOp S0 pg at_) (hj : op = 29 ∨ op = 30) : 1 ≤ n ∧ (S (pg + 3).toNat (n - 1) = (if op = 30 then 1 else 0) → at_ < S0 (pg + 2).toNat at_ ∧ True ∧ tqSo vs S pg first n (S0 (pg + 2).toNat at_) d b) ∧ (¬ S (pg + 3).toNat (n - 1) = (if op = 30 then 1 else 0) → tqSo vs S pg first (n - 1) (at_ + 1) d b) := by
  obtain ⟨st, h1, h2⟩ := h
  obtain ⟨⟨c0, c1, c2, c3⟩, hm, -⟩ := hy
  have i0 := h2.1
  have hi := tq_lt ⟨c0, c1, c2, c3⟩ i1 h2.1 h2.2.1
  obtain ⟨c4, c5, -⟩ := c3 (at_ - first) i0 hi
  rw [show first + (at_ - first) = at_ by omega] at c4 c5
  have hj_p : rkFo d (at_ - first) = 29 ∨ rkFo d (at_ - first) = 30 := by omega
  obtain ⟨x, st1, e, hx, a1, a2, k1, k2⟩ := rkQt_jmp hm h2 (by omega) hj_p
  subst e
  obtain ⟨g1, g2, g3, g4⟩ := rkSk_top h1
  have ea : S0 (pg + 2).toNat at_ = first + rkFa d (at_ - first) := (c5 (by omega)).trans (rkAi_j hj_p (by omega))
  rw [g2, ho, c4, ea]
  refine ⟨by omega, fun e => ⟨by omega, trivial, x :: st1, h1, ?_⟩, fun e => ⟨st1, g4, ?_⟩⟩
  · rw [show first + rkFa d (at_ - first) - first = rkFa d (at_ - first) by omega]
    exact k1 e
  · rw [show at_ + 1 - first = at_ - first + 1 by omega]
    exact k2 e
theorem tqSo_end (hy : tqHy S0 vs pg first d b) (h : tqSo vs S pg first n at_ d b) (i1 : S0 (pg + 1).toNat at_ = 0 ∨ S0 pg.toNat 0 ≤ at_) : n = 1 ∧ rkEv d vs 0 [] (some [S (pg + 3).toNat 0]) ∧ rkIn (S (pg + 3).toNat 0) ∧ (b = true → S (pg + 3).toNat 0 = 0 ∨ S (pg + 3).toNat 0 = 1) := by
  obtain ⟨st, h1, h2⟩ := h
  obtain ⟨⟨c0, c1, c2, c3⟩, hm, -⟩ := hy
  have hi : rkM d ≤ at_ - first := by
    rcases i1 with g | g
    · by_cases q : at_ - first < rkM d
      · exfalso
        have z := (c3 (at_ - first) h2.1 q).2.2
        rw [show first + (at_ - first) = at_ by omega] at z
        exact z g
      · omega
    · omega
  obtain ⟨x, e, hx, k⟩ := rkQt_end h2 hi
  subst e
  obtain ⟨g1, g2, g3, g4⟩ := rkSk_top h1
  have g4 : n - 1 = 0 := g4
  rw [g4] at g2
  rw [g2]
  exact ⟨by omega, k, g3, hx⟩
theorem tqSo_lt (h : tqSo vs S pg first n at_ d b) : first ≤ at_ := by
  obtain ⟨st, h1, h2⟩ := h
  have i0 := h2.1
  omega
end TQ1
theorem tqCd_of {S : Nat → Int → Int} {t : Nat} {pg first : Int} {d : rkC} (e : pg = (t : Int)) (h : rkSe (rkAt S t) first d) (hw : rkW d) : tqCd S pg first d := by
  obtain ⟨h0, h1, h2, h3, h4⟩ := h
  rw [rkAt_p (by omega)] at h2 h3
  have e0 : pg.toNat = t + (427 - 427) := by omega
  have e1 : (pg + 1).toNat = t + (428 - 427) := by omega
  have e2 : (pg + 2).toNat = t + (429 - 427) := by omega
  refine ⟨h0, by rw [e0]; exact h2, by rw [e1]; exact h3, fun i i0 i1 => ?_⟩
  obtain ⟨a, b⟩ := h4 i i0 i1
  rw [rkAt_p (by omega)] at a b
  rw [← e1] at a
  rw [← e2] at b
  exact tqOp_of (hw.2.2 i i0 i1) a b
theorem rkPg_k : rkPg.all (fun t => Nat.blt (t + 9) 522 && ((Nat.blt 4 (bx_wd (rxL.1 t)) && (Nat.beq (bx_mc (rxL.1 t) 0).1 6 && Nat.beq (bx_mc (rxL.1 t) 0).2 0 && (Nat.beq (bx_mc (rxL.1 t) 4).1 6 && Nat.beq (bx_mc (rxL.1 t) 4).2 4))) && ((List.range 400).all (fun i => Nat.blt i (bx_wd (rxL.1 (t + 1))) && (Nat.beq (bx_mc (rxL.1 (t + 1)) i).1 1021 && Nat.beq (bx_mc (rxL.1 (t + 1)) i).2 0)) && (List.range 400).all (fun i => Nat.blt i (bx_wd (rxL.1 (t + 2))) && (Nat.beq (bx_mc (rxL.1 (t + 2)) i).1 1022 && Nat.beq (bx_mc (rxL.1 (t + 2)) i).2 0))))) = true := by decide +kernel
theorem tq_fr {ms : List (Nat × Nat)} {S S_p : Nat → Int → Int} {pg : Int} (hs : bx_same rxL (bx_mdl ms) S S_p) (hk : [(6, 0), (1021, 0), (1022, 0)].all (fun q => !(bx_mdl ms q.1 q.2)) = true) (h0 : 0 ≤ pg) (ht : pg.toNat ∈ rkPg) : S_p pg.toNat 0 = S pg.toNat 0 ∧ ∀ i : Int, 0 ≤ i → i < 400 → S_p (pg + 1).toNat i = S (pg + 1).toNat i ∧ S_p (pg + 2).toNat i = S (pg + 2).toNat i := by
  have hq : ∀ a b : Nat, (a, b) ∈ [(6, 0), (1021, 0), (1022, 0)] → bx_mdl ms a b = false := fun a b hm => by
    have := List.all_eq_true.mp hk (a, b) hm
    rw [Bool.not_eq_true'] at this
    exact this
  have g := List.all_eq_true.mp rkPg_k _ ht
  simp only [Bool.and_eq_true, Nat.blt_eq, Nat.beq_eq_true_eq, List.all_eq_true, List.mem_range] at g
  obtain ⟨g1, ⟨g2, ⟨g3, g4⟩, -⟩, g5, g6⟩ := g
  have hw : rxL.2.1 = 522 := rfl
  have e1 : (pg + 1).toNat = pg.toNat + 1 := by omega
  have e2 : (pg + 2).toNat = pg.toNat + 2 := by omega
  refine ⟨hs pg.toNat 0 (by omega) (by omega) (by rw [Nat.eq_of_beq_eq_true g3, Nat.eq_of_beq_eq_true g4]; exact hq 6 0 (by decide)), fun i a b => ⟨?_, ?_⟩⟩
  · obtain ⟨k1, k2, k3⟩ := g5 i.toNat (by omega)
    have q := hs (pg.toNat + 1) i.toNat (by omega) k1 (by rw [Nat.eq_of_beq_eq_true k2, Nat.eq_of_beq_eq_true k3]; exact hq 1021 0 (by decide))
    rw [Int.toNat_of_nonneg a] at q
    rw [e1]
    exact q
  · obtain ⟨k1, k2, k3⟩ := g6 i.toNat (by omega)
    have q := hs (pg.toNat + 2) i.toNat (by omega) k1 (by rw [Nat.eq_of_beq_eq_true k2, Nat.eq_of_beq_eq_true k3]; exact hq 1022 0 (by decide))
    rw [Int.toNat_of_nonneg a] at q
    rw [e2]
    exact q
theorem tqSo_q {S : Nat → Int → Int} {vs : Int → Int} {pg first n at_ : Int} {d : rkC} {b : Bool} (h : tqSo vs S pg first n at_ d b) : 0 ≤ at_ - first ∧ at_ - first ≤ rkM d := by
  obtain ⟨st, h1, h2⟩ := h
  exact ⟨h2.1, h2.2.1⟩
theorem rkPg_b : rkPg.all (fun t => Nat.blt t 522 && (Nat.blt 0 (bx_wd (rxL.1 t)) && decide (rxL.2.2.1 t 0 = (0, 0, 400)))) = true := by decide +kernel
theorem rqSz {S : Nat → Int → Int} {pg : Int} (I0 : bx_Inv rxL S) (h0 : 0 ≤ pg) (ht : pg.toNat ∈ rkPg) : S pg.toNat 0 ≤ 400 := by
  have g := List.all_eq_true.mp rkPg_b _ ht
  simp only [Bool.and_eq_true, Nat.blt_eq, decide_eq_true_eq] at g
  obtain ⟨g1, g2, g3⟩ := g
  have q : 0 ≤ S pg.toNat 0 ∧ S pg.toNat 0 ≤ 400 := rx_inv I0 (p := pg.toNat) (j := 0) g1 rfl (Int.le_refl 0) (by omega) g3
  exact q.2
end
section
noncomputable def tqEq (S S_p : Nat → Int → Int) (t : Nat) : Prop := S_p t 0 = S t 0 ∧ S_p t 4 = S t 4 ∧ (S_p t 8 = S t 8 ∧ S_p t 9 = S t 9 ∧ S_p t 10 = S t 10) ∧ (∀ i : Int, 0 ≤ i → i < 400 → S_p (t + 1) i = S (t + 1) i ∧ S_p (t + 2) i = S (t + 2) i) ∧ ∀ p : Nat, 4 ≤ p → p ≤ 9 → ∀ i : Int, 0 ≤ i → i < 12 → S_p (t + p) i = S (t + p) i
noncomputable def tqKs : List (Nat × Nat) := [(6, 0), (6, 4), (6, 8), (6, 9), (6, 10), (1021, 0), (1022, 0), (1024, 0), (1025, 0), (1026, 0), (1027, 0)]
noncomputable def tqOk (t i : Nat) : Bool := Nat.blt t 522 && (Nat.blt i (bx_wd (rxL.1 t)) && tqKs.contains (bx_mc (rxL.1 t) i))
theorem rkPg_e : rkPg.all (fun t => [0, 4, 8, 9, 10].all (fun i => tqOk t i) && ((List.range 400).all (fun i => tqOk (t + 1) i && tqOk (t + 2) i) && [4, 5, 6, 7, 8, 9].all (fun p => (List.range 12).all (fun i => tqOk (t + p) i)))) = true := by decide +kernel
theorem tqEq_sm {ms : List (Nat × Nat)} {S S_p : Nat → Int → Int} {t : Nat} (hs : bx_same rxL (bx_mdl ms) S S_p) (hk : tqKs.all (fun q => !(bx_mdl ms q.1 q.2)) = true) (ht : t ∈ rkPg) : tqEq S S_p t := by
  have key : ∀ (p i : Nat), tqOk p i = true → S_p p (i : Int) = S p (i : Int) := fun p i h => by
    unfold tqOk at h
    rw [Bool.and_eq_true, Bool.and_eq_true, Nat.blt_eq, Nat.blt_eq] at h
    refine hs p i (by show p < 522; exact h.1) h.2.1 ?_
    have q := List.all_eq_true.mp hk (bx_mc (rxL.1 p) i) (List.contains_iff_mem.mp h.2.2)
    rw [Bool.not_eq_true'] at q
    exact q
  have g := List.all_eq_true.mp rkPg_e _ ht
  rw [Bool.and_eq_true, Bool.and_eq_true] at g
  obtain ⟨g1, g2, g3⟩ := g
  have k := List.all_eq_true.mp g1
  refine ⟨key t 0 (k 0 (by decide)), key t 4 (k 4 (by decide)), ⟨key t 8 (k 8 (by decide)), key t 9 (k 9 (by decide)), key t 10 (k 10 (by decide))⟩, fun i a b => ?_, fun p p4 p9 i a b => ?_⟩
  · have q := List.all_eq_true.mp g2 i.toNat (List.mem_range.mpr (by omega))
    rw [Bool.and_eq_true] at q
    have q1 := key _ _ q.1
    have q2 := key _ _ q.2
    rw [Int.toNat_of_nonneg a] at q1 q2
    exact ⟨q1, q2⟩
  · have pm : p ∈ [4, 5, 6, 7, 8, 9] := by
      have e : p = 4 ∨ p = 5 ∨ p = 6 ∨ p = 7 ∨ p = 8 ∨ p = 9 := by omega
      rcases e with rfl | rfl | rfl | rfl | rfl | rfl <;> decide
    have q := List.all_eq_true.mp (List.all_eq_true.mp g3 p pm) i.toNat (List.mem_range.mpr (by omega))
    have q1 := key _ _ q
    rw [Int.toNat_of_nonneg a] at q1
    exact q1
theorem rkHl_eq {S S_p : Nat → Int → Int} {t : Nat} {L : List rkQ} (h : rkHl S t L) (e : tqEq S S_p t) : rkHl S_p t L := by
  obtain ⟨h1, h2, h3, h4⟩ := h
  obtain ⟨e0, e4, -, e1, ep⟩ := e
  refine ⟨e4.trans h1, h2, by omega, rkPd_cg ?_ (fun j a b => ?_) (fun p p1 p2 j a b => ?_) (by omega) h4⟩
  · rw [rkAt_p (by omega), rkAt_p (by omega)]
    exact e0
  · rw [rkAt_p (by omega)] at b
    rw [rkAt_p (by omega), rkAt_p (by omega), rkAt_p (by omega), rkAt_p (by omega)]
    exact e1 j a (by
      have b : j < S (t + 0) 0 := b
      rw [Nat.add_zero] at b
      omega)
  · rw [rkAt_p (by omega), rkAt_p (by omega)]
    exact ep (p - 427) (by omega) (by omega) j a b
theorem rkPq_eq {S S_p : Nat → Int → Int} {t : Nat} (h : rkPq S t) (e : tqEq S S_p t) : rkPq S_p t := by
  obtain ⟨-, -, ⟨e8, e9, e10⟩, -⟩ := e
  exact ⟨e8.trans h.1, e9.trans h.2.1, e10.trans h.2.2⟩
theorem rkPd_at {S : Nat → Int → Int} {q : rkQ} {L2 : List rkQ} : ∀ {L1 : List rkQ} {i : Int}, rkPd S i (L1 ++ q :: L2) → rkCq S (i + (L1.length : Int)) q
  | [], i, h => by
    simp only [List.length_nil]
    rw [show i + ((0 : Nat) : Int) = i by omega]
    exact h.1
  | x :: L1, i, h => by
    simp only [List.length_cons]
    rw [show i + ((L1.length + 1 : Nat) : Int) = i + 1 + (L1.length : Int) by omega]
    exact rkPd_at h.2
noncomputable def rkQm (q : rkQ) : Prop := (∀ d : rkC, q.2.2.2.1 = some d → rkWm d false) ∧ (∀ d : rkC, q.2.2.2.2.1 = some d → rkWm d false) ∧ ∀ d : rkC, q.2.2.2.2.2 = some d → rkWm d true
noncomputable def tqQ (S : Nat → Int → Int) (vs : Int → Int) (pg cl : Int) (q : rkQ) : Prop := (0 ≤ pg ∧ pg.toNat ∈ rkPg) ∧ rkPq S pg.toNat ∧ rkCq (rkAt S pg.toNat) cl q ∧ rkQm q ∧ rkVb vs ∧ (∀ k : Int, 1 ≤ k → k ≤ 8 → S 22 (k - 1) = vs k) ∧ 0 ≤ cl ∧ cl ≤ 11
theorem tqQ_os {S : Nat → Int → Int} {vs : Int → Int} {pg a : Int} {b : Bool} {o : Option rkC} (h : rkOs (rkAt S pg.toNat) a o) (hp : 0 ≤ pg ∧ pg.toNat ∈ rkPg) (hv : rkVb vs) (hs : ∀ k : Int, 1 ≤ k → k ≤ 8 → S 22 (k - 1) = vs k) (hm : ∀ d : rkC, o = some d → rkWm d b) : (o = none ∧ a = -1) ∨ ∃ d : rkC, o = some d ∧ 0 ≤ a ∧ tqHy S vs pg a d b := by
  cases o with
  | none => exact Or.inl ⟨rfl, h⟩
  | some d =>
    obtain ⟨h1, h2⟩ := h
    exact Or.inr ⟨d, rfl, h1.1, tqCd_of (t := pg.toNat) (by omega) h1 h2, hm d rfl, hv, hs, hp⟩
theorem tqQ_x {S : Nat → Int → Int} {vs : Int → Int} {pg cl : Int} {q : rkQ} (h : tqQ S vs pg cl q) : S (pg + 4).toNat cl = q.1 ∧ S (pg + 5).toNat cl = q.2.1 ∧ S (pg + 6).toNat cl = q.2.2.1 ∧ (S pg.toNat 8 = pg + 7 ∧ S pg.toNat 9 = pg + 8 ∧ S pg.toNat 10 = pg + 9) ∧ ((q.2.2.2.1 = none ∧ S (pg + 7).toNat cl = -1) ∨ ∃ d : rkC, q.2.2.2.1 = some d ∧ 0 ≤ S (pg + 7).toNat cl ∧ tqHy S vs pg (S (pg + 7).toNat cl) d false) ∧ ((q.2.2.2.2.1 = none ∧ S (pg + 8).toNat cl = -1) ∨ ∃ d : rkC, q.2.2.2.2.1 = some d ∧ 0 ≤ S (pg + 8).toNat cl ∧ tqHy S vs pg (S (pg + 8).toNat cl) d false) ∧ ((q.2.2.2.2.2 = none ∧ S (pg + 9).toNat cl = -1) ∨ ∃ d : rkC, q.2.2.2.2.2 = some d ∧ 0 ≤ S (pg + 9).toNat cl ∧ tqHy S vs pg (S (pg + 9).toNat cl) d true) := by
  obtain ⟨h1, h2, ⟨c1, c2, c3, c4, c5, c6⟩, ⟨m1, m2, m3⟩, h5, h6, -⟩ := h
  have e : ∀ k : Nat, (pg + (k : Int)).toNat = pg.toNat + k := fun k => by omega
  have e4 : (pg + 4).toNat = pg.toNat + (431 - 427) := e 4
  have e5 : (pg + 5).toNat = pg.toNat + (432 - 427) := e 5
  have e6 : (pg + 6).toNat = pg.toNat + (433 - 427) := e 6
  have e7 : (pg + 7).toNat = pg.toNat + (434 - 427) := e 7
  have e8 : (pg + 8).toNat = pg.toNat + (435 - 427) := e 8
  have e9 : (pg + 9).toNat = pg.toNat + (436 - 427) := e 9
  rw [rkAt_p (by omega)] at c1 c2 c3 c4 c5 c6
  rw [← e4] at c1
  rw [← e5] at c2
  rw [← e6] at c3
  rw [← e7] at c4
  rw [← e8] at c5
  rw [← e9] at c6
  obtain ⟨p1, p2, p3⟩ := h2
  have hp := h1.1
  exact ⟨c1, c2, c3, ⟨by omega, by omega, by omega⟩, tqQ_os c4 h1 h5 h6 m1, tqQ_os c5 h1 h5 h6 m2, tqQ_os c6 h1 h5 h6 m3⟩
noncomputable def hd3 (S : Nat → Int → Int) : rkH3 := (S 21 0, S 21 1, S 21 2)
theorem rkQl_m {q : rkQ} (h : rkQl q) (h5 : q.2.2.2.2.1 = none) : rkQm q := ⟨h.2.2.2.1, fun d e => (by rw [h5] at e; cases e), h.2.2.2.2⟩
noncomputable def rkLn (L : List rkQ) : Prop := ∀ q ∈ L, rkQl q ∧ q.2.2.2.2.1 = none
noncomputable def rkDs (S0 : Nat → Int → Int) (p pa t y : Int) (z : rkH3) : Prop := (S0 1 15 = -1 ∧ z = (S0 19 2, 1, 0)) ∨ (S0 1 15 ≠ -1 ∧ ∀ L : List rkQ, rkHl S0 (77 + 10 * S0 1 15).toNat L → rkLn L → rkHr (rkVv p (S0 8 p) (S0 6 p) (S0 7 p) pa t y (S0 19 1)) L (S0 19 2, 1, 0) z)
noncomputable def rkDp (S0 : Nat → Int → Int) : Prop := rkPf S0 ∧ (S0 1 15 = -1 ∨ (S0 1 15 < S0 1 14 ∧ ∃ L : List rkQ, rkHl S0 (77 + 10 * S0 1 15).toNat L ∧ rkLn L))
end
section
theorem rzRun_lf {T : Int → Int} {n : Int} {ws : List (List Int)} : ∀ (k : Nat) (f : Int) (lv : List Int) (pr : Bool) (lf : Int) (r : rzR), rzRun T n ws k f lv pr lf = some r → 0 ≤ lf → lf ≤ 50 → 0 ≤ r.2.2 ∧ r.2.2 ≤ 50
  | 0, f, lv, pr, lf, r, h, _, _ => by cases h
  | k + 1, f, lv, pr, lf, r, h, h0, h50 => by
    have h : (match rzStep T n ws f lv pr lf with
      | (0, f_p, lv_p, pr_p, lf_p) => rzRun T n ws k f_p lv_p pr_p lf_p
      | (1, _, _, _, _) => some (true, f, lf)
      | _ => some (false, f, lf)) = some r := h
    match hs : rzStep T n ws f lv pr lf, h with
    | (0, f_p, lv_p, pr_p, lf_p), h =>
      have b : 0 ≤ lf_p ∧ lf_p ≤ 50 := by
        cases lv with
        | nil =>
          have hs : ((2, f, [], pr, lf) : rzA) = (0, f_p, lv_p, pr_p, lf_p) := hs
          cases hs
        | cons s rest =>
          cases pr with
          | true =>
            have := rzStep_l1 hs
            omega
          | false =>
            have q := rzStep_l0 hs
            have q2 := q.2 h50
            have q1 := q.1
            split at q1 <;> omega
      exact rzRun_lf k f_p lv_p pr_p lf_p r h b.1 b.2
    | (1, _, _, _, _), h =>
      have e := Option.some.inj h
      subst e
      exact ⟨h0, h50⟩
    | (q + 2, _, _, _, _), h =>
      have e := Option.some.inj h
      subst e
      exact ⟨h0, h50⟩
theorem rzEx_lf {T : Int → Int} {n test f lf : Int} {ws : List (List Int)} {r : rzR} (h : rzEx T n ws test f lf r) (h0 : 0 ≤ lf) (h50 : lf ≤ 50) : 0 ≤ r.2.2 ∧ r.2.2 ≤ 50 := by
  obtain ⟨k, hk⟩ := h
  exact rzRun_lf k _ _ _ _ _ hk h0 h50
theorem rzIf_lf {T : Int → Int} {n f lf : Int} {ws : List (List Int)} {r : rzR} (h : rzIf T n ws f lf r) (h0 : 0 ≤ lf) (h50 : lf ≤ 50) : 0 ≤ r.2.2 ∧ r.2.2 ≤ 50 := by
  rcases h with ⟨-, h⟩ | ⟨-, h⟩
  · exact rzEx_lf h h0 h50
  · subst h
    exact ⟨h0, h50⟩
theorem rzLH_lf {T : Int → Int} {n f lf : Int} {ws : List (List Int)} {r : rzR} (h : rzLH T n ws f lf r) (h0 : 0 ≤ lf) (h50 : lf ≤ 50) : 0 ≤ r.2.2 ∧ r.2.2 ≤ 50 := by
  rcases h with ⟨-, h⟩ | ⟨-, ⟨-, h⟩ | ⟨-, h⟩⟩
  · subst h
    exact ⟨h0, h50⟩
  · exact rzEx_lf h h0 h50
  · subst h
    exact ⟨h0, h50⟩
theorem rkEx_wm {T : Int → Int} {n test f lf : Int} {ws : List (List Int)} {d : rkC} (hw : ws.length ≤ 8) (ht : test = 0 ∨ test = 1) (h0 : 0 ≤ lf) (h50 : lf ≤ 50) (hk : rkW d) (h : rkEx T n ws test f lf d) : rkWm d (decide (test ≠ 0)) := ⟨rkEx_t hw ht h, hk, rkEx_n hw h0 h50 h⟩
theorem rkRun_w {T : Int → Int} {n : Int} {ws : List (List Int)} (hw : ws.length ≤ 8) {d : rkC} : ∀ (k : Nat) (f : Int) (lv : List Int) (pr : Bool) (lf : Int) (c : rkC), rkRun T n ws k f lv pr lf c = some d → rkW c → rkW d
  | 0, f, lv, pr, lf, c, h, _ => by cases h
  | k + 1, f, lv, pr, lf, c, h, hc => by
    have h : (match rzStep T n ws f lv pr lf with
      | (0, f_p, lv_p, pr_p, lf_p) => rkRun T n ws k f_p lv_p pr_p lf_p (rkSt T n ws f lv pr c)
      | (1, _, _, _, _) => some (rkRed 1 c)
      | _ => none) = some d := h
    match hs : rzStep T n ws f lv pr lf, h with
    | (0, f_p, lv_p, pr_p, lf_p), h =>
      refine rkRun_w hw k f_p lv_p pr_p lf_p _ h ?_
      cases lv with
      | nil => exact hc
      | cons s rest => exact (rkSt_w hw hc).1
    | (1, _, _, _, _), h =>
      have e := Option.some.inj h
      rw [← e]
      exact (rkRed_w (l := 1) (by omega) hc).1
    | (q + 2, _, _, _, _), h => cases h
theorem rkEx_w {T : Int → Int} {n test f lf : Int} {ws : List (List Int)} {d : rkC} (hw : ws.length ≤ 8) (h : rkEx T n ws test f lf d) : rkW d := by
  obtain ⟨k, hk⟩ := h
  exact rkRun_w hw k _ _ _ _ _ hk rkW_0
theorem rkTx_ln {T : Int → Int} {n : Int} : ∀ {c : Nat} {f lf : Int} {L : List rkQ}, 0 ≤ lf → lf ≤ 50 → rkTx false T n c f lf L → rkLn L
  | 0, _, _, _, _, _, h => h.elim
  | c + 1, f, lf, L, h0, h50, h => by
    obtain ⟨r, r2, q, t, L_p, a1, a2, a3, a4, a5, a6⟩ := h
    have a1 : rzLH T n rzLn_ f lf r := a1
    have a2 : rkLH T n rzLn_ f lf q := a2
    have a3 : rzIf T n rzLn_ r.2.1 r.2.2 r2 := a3
    have a4 : rkIf T n rzLn_ r.2.1 r.2.2 t := a4
    have b1 := rzLH_lf a1 h0 h50
    have b2 := rzIf_lf a3 b1.1 b1.2
    have hw : rzLn_.length ≤ 8 := by decide
    have ht : ∀ d : rkC, t = some d → rkWm d true := fun d e => by
      rcases a4 with ⟨-, d_p, x, y⟩ | ⟨-, y⟩
      · rw [y] at e
        cases e
        exact rkEx_wm hw (Or.inr rfl) b1.1 b1.2 (rkEx_w hw x) x
      · rw [y] at e
        cases e
    have hq : rkQl (q.1, q.2.1, q.2.2.1, q.2.2.2.1, q.2.2.2.2.1, t) ∧ q.2.2.2.2.1 = none := by
      rcases a2 with ⟨-, y⟩ | ⟨-, d, x, y⟩
      · subst y
        exact ⟨⟨show (0 : Int) ≤ 2 by decide, show (2 : Int) ≤ 2 by decide, fun e => absurd rfl e, fun d e => (by cases e), ht⟩, rfl⟩
      · subst y
        refine ⟨⟨?_, ?_, fun _ => ⟨d, rfl⟩, fun d_p e => ?_, ht⟩, rfl⟩
        · show 0 ≤ (if rzIs T n rzW_slips f = true then (0 : Int) else 1)
          split <;> omega
        · show (if rzIs T n rzW_slips f = true then (0 : Int) else 1) ≤ 2
          split <;> omega
        · cases e
          exact rkEx_wm hw (Or.inl rfl) h0 h50 (rkEx_w hw x) x
    subst a5
    intro q_p hm
    rcases List.mem_cons.mp hm with e | e
    · subst e
      exact hq
    · rcases a6 with ⟨-, y⟩ | ⟨-, y⟩
      · exact rkTx_ln b2.1 b2.2 y q_p e
      · rw [y] at e
        cases e
theorem rkText_ln {T : Int → Int} {n : Int} {L : List rkQ} (h : rkText false T n L) : rkLn L := rkTx_ln (Int.le_refl 0) (by decide) h
theorem rkLn_l {L : List rkQ} (h : rkLn L) : rkLl L := fun q m => (h q m).1
end
section
noncomputable def rk_dmo (ht : List rx_C) : Bool := ht.all (fun q => !(bx_isE q) && decide (1000000 ≤ q.1.2))
theorem rk_dmo_ne {ht : List rx_C} (h : rk_dmo ht = true) : bx_noE ht = true := List.all_eq_true.mpr fun q hq => by
  have g := List.all_eq_true.mp h q hq
  rw [Bool.and_eq_true] at g
  exact g.1
theorem rk_dmo_kn {L : bx_L} {ad xa : Nat → Nat} {S S_p : Nat → Int → Int} {r : Nat → Int} {ht : List rx_C} (h : rk_dmo ht = true) {q : rx_C} (hq : q ∈ ht) (g : bx_kn L ad xa S r q) : bx_kn L ad xa S_p r q := by
  have k := List.all_eq_true.mp h q hq
  rw [Bool.and_eq_true, decide_eq_true_eq] at k
  unfold bx_kn at g ⊢
  rw [if_pos k.2] at g ⊢
  exact g
noncomputable def rk_ck (ms : List (Nat × Nat)) (n P0 P1 : Nat) : Bool := match rxL.1 P0, rxL.1 P1, rxV.2.1 none (P0 : Int) 0 ((n : Int) - 1) 1, rxV.2.2 none (P1 : Int) 0 ((n : Int) - 1) 1 with
  | .inr (0, n0, _), .inr (0, n1, g1), some (0, l0, h0), some (0, l1, h1) => Nat.blt P0 522 && (Nat.blt P1 522 && (Nat.beq n0 n && (Nat.beq n1 n && (decide (l1 ≤ l0) && (decide (h0 ≤ h1) && bx_mdr (bx_mdl ms) g1 0 ((n : Int) - 1))))))
  | _, _, _, _ => false
theorem rk_ck_all {ms : List (Nat × Nat)} {n P0 P1 : Nat} (h : rk_ck ms n P0 P1 = true) : ∃ (g0 g1 : Nat) (l0 h0 l1 h1 : Int), P0 < 522 ∧ P1 < 522 ∧ rxL.1 P0 = .inr (0, n, g0) ∧ rxL.1 P1 = .inr (0, n, g1) ∧ rxV.2.1 none (P0 : Int) 0 ((n : Int) - 1) 1 = some (0, l0, h0) ∧ rxV.2.2 none (P1 : Int) 0 ((n : Int) - 1) 1 = some (0, l1, h1) ∧ l1 ≤ l0 ∧ h0 ≤ h1 ∧ bx_mdr (bx_mdl ms) g1 0 ((n : Int) - 1) = true := by
  unfold rk_ck at h
  split at h
  · rename_i n0 g0 n1 g1 l0 h0 l1 h1 e0 e1 e2 e3
    rw [Bool.and_eq_true, Bool.and_eq_true, Bool.and_eq_true, Bool.and_eq_true, Bool.and_eq_true, Bool.and_eq_true, Nat.blt_eq, Nat.blt_eq, decide_eq_true_eq, decide_eq_true_eq] at h
    obtain ⟨a1, a2, a3, a4, a5, a6, a7⟩ := h
    have a3 := Nat.eq_of_beq_eq_true a3
    have a4 := Nat.eq_of_beq_eq_true a4
    subst a3
    subst a4
    exact ⟨g0, g1, l0, h0, l1, h1, a1, a2, e0, e1, e2, e3, a5, a6, a7⟩
  · cases h
theorem rk_ck_ok {ms : List (Nat × Nat)} {n P0 P1 : Nat} (h : rk_ck ms n P0 P1 = true) : ∃ (g0 g1 : Nat) (l0 h0 l1 h1 : Int), P0 < 522 ∧ P1 < 522 ∧ rxL.1 P0 = .inr (0, n, g0) ∧ rxL.1 P1 = .inr (0, n, g1) ∧ rxV.2.1 none (P0 : Int) 0 ((n : Int) - 1) 1 = some (0, l0, h0) ∧ rxV.2.2 none (P1 : Int) 0 ((n : Int) - 1) 1 = some (0, l1, h1) ∧ l1 ≤ l0 ∧ h0 ≤ h1 := by
  obtain ⟨g0, g1, l0, h0, l1, h1, a1, a2, e0, e1, e2, e3, a5, a6, -⟩ := rk_ck_all h
  exact ⟨g0, g1, l0, h0, l1, h1, a1, a2, e0, e1, e2, e3, a5, a6⟩
theorem rk_ck_same {ms : List (Nat × Nat)} {n P0 P1 : Nat} {S0 S : Nat → Int → Int} (h : rk_ck ms n P0 P1 = true) (hs : bx_same rxL (bx_mdl ms) S0 S) : bx_same rxL (bx_mdl ms) S0 (bx_cpS S P0 P1 n) := by
  obtain ⟨g0, g1, l0, h0, l1, h1, -, -, -, e1, -, -, -, -, a7⟩ := rk_ck_all h
  exact rx_same_cp hs e1 a7
section RKZY
variable {G NW : List Jvm.Cond} {AO : List String} {cl : List vw_C} {nm : Nat → String} {A : Nat → Prop} {xa : Nat → Nat} {PX : State → Prop} {l : Launch} {Dg : va_G} {L : bx_L} {md : Nat → Nat → Bool} {S : Nat → Int → Int}
variable {p : Program} {e : Env} {R : Room} {s : State} {m : MethodId} {args : Array Value} {below : List Frame} {meth : Method} {c : Code} {Q : State → Prop} {H0 H : Heap} {locs : List Loc} {ls : Array Slot} {r : Nat → Int} {ad : Nat → Nat}
variable {M : rx_Mt} {z : rx_Z} {idx : Nat}
theorem rk_copyJ {P0 P1 n g0 g1 : Nat} {w0 w1 : rx_E} {t : List rx_V} (hlg : bx_lg md = true) (hht : rk_dmo z.2.2.1 = true) (hF : rx_Fr G NW AO PX p s m args meth c M) (hn : nm M.1 = M.2.2.2.2.1.cls) (hd : 1 ≤ R.frames) (hdl : 40 ≤ R.locals) (hw : Jvm.Cond.methodLink (nm M.1) idx arraycopyName ∈ G ∧ Jvm.Cond.native arraycopyName ∈ G ∧ Jvm.Cond.static arraycopyName ∈ G ∧ Jvm.Cond.initialized "java/lang/System" ∈ G)
    (hdg : decode M.2.1 (rx_zpc z) = .ok (.invokestatic idx, 3)) (hR : rx_R (Dg, L, S, md) cl A s xa M.2.2.1 H0 z r ad H locs ls) (hst : rx_zst z = .inr (0, (0, (n : Int))) :: .inr (0, (0, 0)) :: .inr (3, w1) :: .inr (0, (0, 0)) :: .inr (3, w0) :: t) (e0 : (r w0.1 + w0.2).toNat = P0) (e1 : (r w1.1 + w1.2).toNat = P1)
    (hp0 : P0 < L.2.1) (hp1 : P1 < L.2.1) (hk0 : L.1 P0 = .inr (0, n, g0)) (hk1 : L.1 P1 = .inr (0, n, g1)) (hcat : rx_cats t ≤ 8) (hn2 : n < 2000000000) (hfit : ∀ j : Nat, j < n → bx_okT L (L.2.2.1 P1 (j : Int)) (S P0 (j : Int)))
    (K : ∀ (H1 : Heap) (locs1 : List Loc), rx_R (Dg, L, bx_cpS S P0 P1 n, md) cl A s xa M.2.2.1 H0 (rx_nxh z.2.2.1 z 3 t) r ad H1 locs1 ls → W p l e R s m args below meth c H1 locs1 z.2.2.2.1 z.2.2.2.2.1 Q (F0 m (rx_zpc z + 3) ls (t.map (rx_iv r ad xa)))) :
    W p l e R s m args below meth c H locs z.2.2.2.1 z.2.2.2.2.1 Q (F0 m (rx_zpc z) ls ((rx_zst z).map (rx_iv r ad xa))) := by
  obtain ⟨S1, ⟨ws, tys, hInv, hK, hP, hD, hl, hcell⟩, hS, ⟨-, hch⟩, hkn⟩ := id hR.2.2.2.1
  have eS : S1 = S := bx_noE_eq (rk_dmo_ne hht) (hch hlg)
  subst eS
  have hInv : bx_Inv L S1 := hInv
  have hl : ws.length = L.2.1 := hl
  have h0 : r 0 = 0 := hR.1.1
  obtain ⟨x0, hw0, hce0⟩ := hcell P0 hp0
  obtain ⟨x1, hw1, hce1⟩ := hcell P1 hp1
  have hce0 : bx_cell cl tys ad (L.1 P0) (S1 P0) x0 := hce0
  have hce1 : bx_cell cl tys ad (L.1 P1) (S1 P1) x1 := hce1
  rw [hk0] at hce0
  rw [hk1] at hce1
  obtain ⟨cA0, q0, c0, hx0, hty0, hsh0, hel0⟩ := hce0
  obtain ⟨cA1, q1, c1, hx1, hty1, hsh1, hel1⟩ := hce1
  obtain ⟨f, hf⟩ := hsh0
  obtain ⟨g, hg⟩ := hsh1
  subst hx0; subst hx1; subst hf; subst hg
  obtain ⟨a1, a2⟩ := bx_nN hn2
  have hz0 : (0 : Int) = ((0 : Nat) : Int) := rfl
  obtain ⟨b1, b2⟩ := bx_nN (n := 0) (by decide)
  have hsc := rx_stsc hR
  obtain ⟨hx, hb, hr, hml, hown, hlk, hts, -⟩ := id hF
  rw [hn] at hw
  have hwlen : P1 < ws.length := by rw [hl]; exact hp1
  rw [hst] at hsc ⊢
  have en : r 0 + (n : Int) = (n : Int) := by rw [h0]; omega
  have ez : r 0 + (0 : Int) = ((0 : Nat) : Int) := by rw [h0]; rfl
  show W p l e R s m args below meth c H locs z.2.2.2.1 z.2.2.2.2.1 Q (F0 m (rx_zpc z) ls (.int (Int32.ofInt (r 0 + (n : Int))) :: .int (Int32.ofInt (r 0 + (0 : Int))) :: .ref (ad (r w1.1 + w1.2).toNat) :: .int (Int32.ofInt (r 0 + (0 : Int))) :: .ref (ad (r w0.1 + w0.2).toNat) :: t.map (rx_iv r ad xa)))
  rw [e0, e1, en, ez]
  refine va_copyi hx hb (by rw [hml]; exact (rx_lvh hR).1.symm) hown (hts _ hw.1) (hts _ hw.2.1) (hts _ hw.2.2.1) (hts _ hw.2.2.2) hK hP hD hS _ _ q0 q1 hw0 hw1 hty0 hty1 rfl b1 b1 a1 (by rw [b2, a2]; omega) (by rw [b2, a2]; omega) (fun _ _ => rfl) hd ?_ hdg (fun H1 locs1 hP1 hD1 hS1 => ?_)
  · rw [rx_cats_sum]
    show rx_cats t + (7 + 11) ≤ R.locals
    omega
  · rw [b2, a2] at hP1 hD1
    refine K H1 locs1 ⟨hR.1, hR.2.1, hR.2.2.1, ⟨bx_cpS S1 P0 P1 n, ⟨_, tys, ?_, hK, hP1, hD1, by rw [List.length_set]; exact hl, ?_⟩, hS1, ⟨fun _ _ _ _ _ => rfl, fun _ => bx_noE_chain (rk_dmo_ne hht)⟩, fun q hq => ⟨(hkn q hq).1, (hkn q hq).2.1, rk_dmo_kn hht hq (hkn q hq).2.2⟩⟩, hR.2.2.2.2.1, fun q hq => rx_sc.any (hR.2.2.2.2.2.1 q hq), fun w hw => rx_sc.any (hsc w (List.mem_cons_of_mem _ (List.mem_cons_of_mem _ (List.mem_cons_of_mem _ (List.mem_cons_of_mem _ (List.mem_cons_of_mem _ hw))))))⟩
    · intro p_p j_p hp_p hj_p
      by_cases hpe : p_p = P1
      · subst hpe
        have hj_p : j_p < bx_wd (L.1 p_p) := hj_p
        rw [hk1] at hj_p
        have hj_p : j_p < n := hj_p
        show bx_okT L (L.2.2.1 p_p (j_p : Int)) (bx_cpS S1 P0 p_p n p_p (j_p : Int))
        rw [bx_cpS_in (by omega) (by omega)]
        exact hfit j_p hj_p
      · show bx_okT L (L.2.2.1 p_p (j_p : Int)) (bx_cpS S1 P0 P1 n p_p (j_p : Int))
        rw [bx_cpS_ne hpe]
        exact hInv p_p j_p hp_p hj_p
    · intro p_p hp_p
      by_cases hpe : p_p = P1
      · subst hpe
        refine ⟨_, List.getElem?_set_self hwlen, ?_⟩
        show bx_cell cl tys ad (L.1 p_p) (bx_cpS S1 P0 p_p n p_p) _
        rw [hk1]
        refine ⟨cA1, q1, _, rfl, hty1, ⟨_, rfl⟩, fun j hj => ?_⟩
        show Value.int (va_cpy f g 0 0 n j) = bx_fv ad 0 (bx_cpS S1 P0 p_p n p_p (j : Int))
        rw [bx_cpS_in (by omega) (by omega), pk_cpy_in (Nat.zero_le _) (by omega), Nat.zero_add, Nat.sub_zero]
        exact hel0 j hj
      · obtain ⟨e1_p, h1_p, h2_p⟩ := hcell p_p hp_p
        refine ⟨e1_p, by rw [List.getElem?_set_ne (Ne.symm hpe)]; exact h1_p, ?_⟩
        have hrow : bx_cpS S1 P0 P1 n p_p = S1 p_p := funext fun j => bx_cpS_ne hpe
        show bx_cell cl tys ad (L.1 p_p) (bx_cpS S1 P0 P1 n p_p) e1_p
        rw [hrow]
        exact h2_p
end RKZY
section RKZZ
variable {PX : State → Prop} {Dg : va_G} {A : Nat → Prop} {ad xa : Nat → Nat} {l : Launch} {X : (Nat → Int → Int) → Prop}
variable {p : Program} {e : Env} {R : Room} {s : State} {m : MethodId} {args : Array Value} {below : List Frame} {meth : Method} {c : Code} {Q : State → Prop} {H0 : Heap}
noncomputable def rk_obZ (X : (Nat → Int → Int) → Prop) (Sin : Nat → Int → Int) (ms : List (Nat × Nat)) (inv : Nat → bx_SP) (mea : Nat → (Nat → Int → Int) → (Nat → Int) → Nat) (i i_p : Nat) (z : rx_Z) (w0 w1 : rx_E) (n : Nat) : Prop :=
  ∀ (S : Nat → Int → Int) (r : Nat → Int), inv i S r → X S → bx_Inv rxL S → bx_same rxL (bx_mdl ms) Sin S → rx_sat z.1 r → rx_facts z.2.1 r →
    ∃ P0 P1 : Nat, ((r w0.1 + w0.2).toNat = P0 ∧ (r w1.1 + w1.2).toNat = P1) ∧ rk_ck ms n P0 P1 = true ∧ inv i_p (bx_cpS S P0 P1 n) r ∧ mea i_p (bx_cpS S P0 P1 n) r < mea i S r ∧ X (bx_cpS S P0 P1 n) ∧ bx_same rxL (bx_mdl ms) Sin (bx_cpS S P0 P1 n)
theorem rk_stepZ {M : rx_Mt} {tab : List bx_HE} {inv : Nat → bx_SP} {mea : Nat → (Nat → Int → Int) → (Nat → Int) → Nat} {Sin : Nat → Int → Int} {ms : List (Nat × Nat)} {i i_p idx : Nat} {z : rx_Z} {os : List bx_HO} {es : List (rx_End × List (Nat × Int × Int))} {q_p : bx_HE} {n : Nat} {w0 w1 : rx_E} {t : List rx_V}
    (hF : rx_Fr rxG rxNW rxAO PX p s m args meth c M) (hn : rxNm M.1 = M.2.2.2.2.1.cls) (hd : 1 ≤ R.frames) (hdl : 40 ≤ R.locals) (hcp : rxCp M.1 idx = some 0) (hdg : decode M.2.1 (rx_zpc z) = .ok (.invokestatic idx, 3)) (hht : rk_dmo z.2.2.1 = true) (hst : rx_zst z = .inr (0, (0, (n : Int))) :: .inr (0, (0, 0)) :: .inr (3, w1) :: .inr (0, (0, 0)) :: .inr (3, w0) :: t)
    (hcat : rx_cats t ≤ 8) (hn2 : n < 2000000000)
    (htab : tab[i_p]? = some q_p) (hq_p : rx_nxh z.2.2.1 z 3 t = q_p.1) (hob : rk_obZ X Sin ms inv mea i i_p z w0 w1 n) :
    bx_Step p l e R s m args below meth c Q Dg rxL X vwCl A xa H0 ad M tab inv mea Sin ms i (z, os, es) := by
  intro S r H locs ls hinv hXS hsin hR K
  obtain ⟨Sq, ⟨ws0, tys0, hInv0, hrest0⟩, -, ⟨-, hch0⟩, -⟩ := id hR.2.2.2.1
  have eSq : Sq = S := bx_noE_eq (rk_dmo_ne (show rk_dmo (z, os, es).1.2.2.1 = true from hht)) (hch0 rfl)
  rw [eSq] at hInv0
  have hInv0 : bx_Inv rxL S := hInv0
  obtain ⟨P0, P1, ⟨k0, k1⟩, oc, o2, o3, o4, o5⟩ := hob S r hinv hXS hInv0 hsin hR.1 hR.2.1
  obtain ⟨g0, g1, l0, h0, l1, h1, hp0, hp1, hk0, hk1, hb0, hb1, hlo, hhi⟩ := rk_ck_ok oc
  have hw : Jvm.Cond.methodLink (rxNm M.1) idx arraycopyName ∈ rxG := (rxCp_ok _ _ _ hcp).1 rfl
  refine rk_copyJ (nm := rxNm) (P0 := P0) (P1 := P1) (n := n) (g0 := g0) (g1 := g1) (w0 := w0) (w1 := w1) (t := t) (idx := idx) rfl hht hF hn hd hdl ⟨hw, rxCw_ok⟩ hdg hR hst k0 k1 hp0 hp1 hk0 hk1 hcat hn2 (fun j hj => ?_) fun H1 locs1 hR1 => ?_
  · have hj0 : j < bx_wd (rxL.1 P0) := by rw [hk0]; exact hj
    have hv := rxVok.2.1 none (P0 : Int) 0 ((n : Int) - 1) 1 _ hb0 0 rfl (j : Int) (S P0 (j : Int)) (by omega) (by omega) (Int.emod_one _) (by
      rw [show (0 + (P0 : Int)).toNat = P0 by omega]
      exact hInv0 P0 j hp0 hj0)
    have hv : l0 ≤ S P0 (j : Int) ∧ S P0 (j : Int) ≤ h0 := hv
    have hg := rxVok.2.2.1 none (P1 : Int) 0 ((n : Int) - 1) 1 _ hb1 0 rfl (j : Int) (S P0 (j : Int)) (by omega) (by omega) (Int.emod_one _) (show l1 ≤ S P0 (j : Int) ∧ S P0 (j : Int) ≤ h1 from ⟨by omega, by omega⟩)
    rw [show (0 + (P1 : Int)).toNat = P1 by omega] at hg
    exact hg
  · rw [hq_p] at hR1
    have := K i_p q_p (bx_cpS S P0 P1 n) r H1 locs1 ls htab o2 o3 o4 o5 hR1
    rw [← hq_p] at this
    obtain ⟨zI, zF, zh, zc, zs, zp, zl, zt⟩ := z
    exact this
end RKZZ
noncomputable def rk_c1 (n g : Nat) (l h : Int) (P : Nat) : Bool := match rxL.1 P, rxV.2.1 none (P : Int) 0 ((n : Int) - 1) 1, rxV.2.2 none (P : Int) 0 ((n : Int) - 1) 1 with
  | .inr (0, n0, g0), some (0, l0, h0), some (0, l1, h1) => Nat.blt P 522 && (Nat.beq n0 n && (Nat.beq g0 g && (decide (l0 = l) && (decide (h0 = h) && (decide (l1 = l) && decide (h1 = h))))))
  | _, _, _ => false
theorem rk_c1_ok {n g : Nat} {l h : Int} {P : Nat} (c : rk_c1 n g l h P = true) : P < 522 ∧ rxL.1 P = .inr (0, n, g) ∧ rxV.2.1 none (P : Int) 0 ((n : Int) - 1) 1 = some (0, l, h) ∧ rxV.2.2 none (P : Int) 0 ((n : Int) - 1) 1 = some (0, l, h) := by
  unfold rk_c1 at c
  split at c
  · rename_i n0 g0 l0 h0 l1 h1 e0 e1 e2
    rw [Bool.and_eq_true, Bool.and_eq_true, Bool.and_eq_true, Bool.and_eq_true, Bool.and_eq_true, Bool.and_eq_true, Nat.blt_eq, decide_eq_true_eq, decide_eq_true_eq, decide_eq_true_eq, decide_eq_true_eq] at c
    obtain ⟨a1, a2, a3, a4, a5, a6, a7⟩ := c
    have a2 := Nat.eq_of_beq_eq_true a2
    have a3 := Nat.eq_of_beq_eq_true a3
    subst a2 a3 a4 a5 a6 a7
    exact ⟨a1, e0, e1, e2⟩
  · cases c
theorem rk_ck_of {ms : List (Nat × Nat)} {n g : Nat} {l h : Int} {P0 P1 : Nat} (c0 : rk_c1 n g l h P0 = true) (c1 : rk_c1 n g l h P1 = true) (hm : bx_mdr (bx_mdl ms) g 0 ((n : Int) - 1) = true) : rk_ck ms n P0 P1 = true := by
  obtain ⟨a1, a2, a3, -⟩ := rk_c1_ok c0
  obtain ⟨b1, b2, -, b4⟩ := rk_c1_ok c1
  unfold rk_ck
  rw [a2, b2, a3, b4]
  simp only [Bool.and_eq_true, Nat.blt_eq, decide_eq_true_eq, Nat.beq_eq_true_eq, Int.le_refl, true_and]
  exact ⟨a1, b1, Nat.beq_refl n, Nat.beq_refl n, hm⟩
theorem rkPg_c1 : rkPg.all (fun t => rk_c1 400 21 0 13 (t + 1)) = true := by decide +kernel
theorem rkPg_c2 : rkPg.all (fun t => rk_c1 400 22 (-1) 1000 (t + 2)) = true := by decide +kernel
theorem rkPg_c4 : rkPg.all (fun t => rk_c1 12 24 0 4 (t + 4)) = true := by decide +kernel
theorem rkPg_c5 : rkPg.all (fun t => rk_c1 12 25 (-1) 6 (t + 5)) = true := by decide +kernel
theorem rkPg_c6 : rkPg.all (fun t => rk_c1 12 26 (-1) 6 (t + 6)) = true := by decide +kernel
theorem rkPg_c7 : rkPg.all (fun t => rk_c1 12 27 (-1) 400 (t + 7)) = true := by decide +kernel
theorem rkPg_c8 : rkPg.all (fun t => rk_c1 12 27 (-1) 400 (t + 8)) = true := by decide +kernel
theorem rkPg_c9 : rkPg.all (fun t => rk_c1 12 27 (-1) 400 (t + 9)) = true := by decide +kernel
noncomputable def rkSg : List Nat := [23, 26, 29, 32, 35, 38, 41, 44, 47, 50, 53, 56, 59, 62, 65, 68, 71, 74, 160, 163, 166, 169, 172, 175, 178, 181, 184, 187, 190, 193, 196, 199, 202, 205, 208, 211, 296, 299, 302, 305, 308, 311, 314, 317, 320, 323, 326, 329, 332, 335, 338, 341, 344, 347, 444, 447, 476]
noncomputable def rkSp (S : Nat → Int → Int) (t : Nat) : Prop := S t 0 = ((t + 1 : Nat) : Int) ∧ S t 1 = ((t + 2 : Nat) : Int)
noncomputable def rkSc (S0 S : Nat → Int → Int) (t s : Nat) : Prop := (∀ j : Int, 0 ≤ j → j < 36 → S (t + 1) j = S0 (s + 1) j) ∧ (∀ j : Int, 0 ≤ j → j < 36 → S (t + 2) j = S0 (s + 2) j) ∧ ∀ (p : Nat) (j : Int), p ≠ t + 1 → p ≠ t + 2 → S p j = S0 p j
theorem rkSg_c1 : rkSg.all (fun t => rk_c1 36 19 (-1) 9 (t + 1)) = true := by decide +kernel
theorem rkSg_c2 : rkSg.all (fun t => rk_c1 36 20 (-1) 5 (t + 2)) = true := by decide +kernel
end
