/-! A PLAY THAT IS RUN: rule by rule, clause by clause (rules as the reference numbers them) -/
def rjWo (r : Int) : Int := if r = -1 then -1 else r / 6
def rjNx (r : Int) : Int := if r = -1 then -1 else r % 6
def rjVp (st cu r pa mo : Int) (k : Int) : Int := if k = 1 then st else if k = 2 then cu else if k = 3 then rjWo r else if k = 4 then rjNx r else if k = 5 then pa else if k = 6 then mo else 0
theorem rjVp_k {st cu r pa mo : Int} {P : Int → Int → Prop} (h1 : P 1 st) (h2 : P 2 cu) (h3 : P 3 (rjWo r)) (h4 : P 4 (rjNx r)) (h5 : P 5 pa) (h6 : P 6 mo) (h7 : P 7 0) (h8 : P 8 0) : ∀ k : Int, 1 ≤ k → k ≤ 8 → P k (rjVp st cu r pa mo k) := fun k k0 k1 => by
  have e : k = 1 ∨ k = 2 ∨ k = 3 ∨ k = 4 ∨ k = 5 ∨ k = 6 ∨ k = 7 ∨ k = 8 := by omega
  rcases e with rfl | rfl | rfl | rfl | rfl | rfl | rfl | rfl
  · exact h1
  · exact h2
  · exact h3
  · exact h4
  · exact h5
  · exact h6
  · exact h7
  · exact h8
/-- a clause at a rule: what the rule is then, whether it was said, hushed -/
def rjS1 (vs : Int → Int) (st : Int) (q : rkQ) (r r_p b : Int) : Prop :=
  (rkFal vs q.2.2.2.2.2 ∧ r_p = r ∧ b = 0) ∨ (rkTru vs q.2.2.2.2.2 ∧ ((q.1 = 4 ∧ r_p = -1 ∧ b = 1) ∨ (q.1 ≠ 4 ∧ ((rkSum vs q.2.2.2.1 none ∧ r_p = r ∧ b = 0) ∨ ∃ x : Int, rkSum vs q.2.2.2.1 (some x) ∧ ((q.2.2.2.2.1 = none ∧ r_p = 6 * rkNear x 9 + st ∧ b = 1) ∨ (rkSum vs q.2.2.2.2.1 none ∧ r_p = r ∧ b = 0) ∨ ∃ y : Int, rkSum vs q.2.2.2.2.1 (some y) ∧ r_p = 6 * rkNear x 9 + rkNear y 5 ∧ b = 1)))))
theorem rkSum_n {vs : Int → Int} {o : Option rkC} {r : Option Int} (h : rkSum vs o r) (e : o = none) : False := by
  obtain ⟨d, h1, -⟩ := h
  rw [e] at h1
  cases h1
theorem rjS1_det {vs : Int → Int} {st r a b a' b_p : Int} {q : rkQ} (h : rjS1 vs st q r a b) (g : rjS1 vs st q r a' b_p) : a = a' ∧ b = b_p := by
  rcases h with ⟨h1, h2, h3⟩ | ⟨h1, h⟩
  · rcases g with ⟨g1, g2, g3⟩ | ⟨g1, -⟩
    · exact ⟨h2.trans g2.symm, h3.trans g3.symm⟩
    · exact (rkTF g1 h1).elim
  rcases g with ⟨g1, -⟩ | ⟨g1, g⟩
  · exact (rkTF h1 g1).elim
  rcases h with ⟨k, h2, h3⟩ | ⟨k, h⟩
  · rcases g with ⟨-, g2, g3⟩ | ⟨k', -⟩
    · exact ⟨h2.trans g2.symm, h3.trans g3.symm⟩
    · exact absurd k k'
  rcases g with ⟨k', -⟩ | ⟨-, g⟩
  · exact absurd k' k
  rcases h with ⟨u, h2, h3⟩ | ⟨x, u, h⟩
  · rcases g with ⟨u', g2, g3⟩ | ⟨x', u', -⟩
    · exact ⟨h2.trans g2.symm, h3.trans g3.symm⟩
    · cases rkSum_det u u'
  rcases g with ⟨u', -⟩ | ⟨x', u', g⟩
  · cases rkSum_det u u'
  have ex : x = x' := Option.some.inj (rkSum_det u u')
  subst ex
  rcases h with ⟨n, h2, h3⟩ | ⟨n, h2, h3⟩ | ⟨y, n, h2, h3⟩
  · rcases g with ⟨-, g2, g3⟩ | ⟨n', -⟩ | ⟨y', n', -⟩
    · exact ⟨h2.trans g2.symm, h3.trans g3.symm⟩
    · exact (rkSum_n n' n).elim
    · exact (rkSum_n n' n).elim
  · rcases g with ⟨n', -⟩ | ⟨n', g2, g3⟩ | ⟨y', n', -⟩
    · exact (rkSum_n n n').elim
    · exact ⟨h2.trans g2.symm, h3.trans g3.symm⟩
    · cases rkSum_det n n'
  · rcases g with ⟨n', -⟩ | ⟨n', -⟩ | ⟨y', n', g2, g3⟩
    · exact (rkSum_n n n').elim
    · cases rkSum_det n n'
    · have ey : y = y' := Option.some.inj (rkSum_det n n')
      subst ey
      exact ⟨h2.trans g2.symm, h3.trans g3.symm⟩
def rjAt (q : rkQ) (st cu : Int) : Prop := (q.2.1 = 6 ∨ q.2.1 = st) ∧ (q.2.2.1 = 6 ∨ q.2.2.1 = cu)
/-- a clause at the rule with number t of a part -/
def rjS (pa mo : Int) (q : rkQ) (t r r_p b : Int) : Prop := (rjAt q (t / 6) (t % 6) ∧ rjS1 (rjVp (t / 6) (t % 6) r pa mo) (t / 6) q r r_p b) ∨ (¬ rjAt q (t / 6) (t % 6) ∧ r_p = r ∧ b = 0)
theorem rjS_det {pa mo t r a b a' b_p : Int} {q : rkQ} (h : rjS pa mo q t r a b) (g : rjS pa mo q t r a' b_p) : a = a' ∧ b = b_p := by
  rcases h with ⟨h1, h2⟩ | ⟨h1, h2, h3⟩
  · rcases g with ⟨-, g2⟩ | ⟨g1, -⟩
    · exact rjS1_det h2 g2
    · exact absurd h1 g1
  · rcases g with ⟨g1, -⟩ | ⟨-, g2, g3⟩
    · exact absurd g1 h1
    · exact ⟨h2.trans g2.symm, h3.trans g3.symm⟩
/-- a clause from rule 36 - j on -/
def rjP (pa mo : Int) (q : rkQ) : Nat → (Int → Int) → Int → (Int → Int) → Int → Prop
  | 0, s, n, s', n' => s' = s ∧ n' = n
  | j + 1, s, n, s', n' => ∃ r b : Int, rjS pa mo q (35 - (j : Int)) (s (35 - (j : Int))) r b ∧ rjP pa mo q j (rkUp s (35 - (j : Int)) r) (n + b) s' n'
def rjL (pa mo : Int) : List rkQ → (Int → Int) → Int → (Int → Int) → Int → Prop
  | [], s, n, s', n' => s' = s ∧ n' = n
  | q :: L, s, n, s', n' => ∃ (s1 : Int → Int) (n1 : Int), rjP pa mo q 36 s n s1 n1 ∧ rjL pa mo L s1 n1 s' n'
theorem rjP_det {pa mo : Int} {q : rkQ} : ∀ (j : Nat) {s s1 s2 : Int → Int} {n n1 n2 : Int}, rjP pa mo q j s n s1 n1 → rjP pa mo q j s n s2 n2 → s1 = s2 ∧ n1 = n2
  | 0, _, _, _, _, _, _, h, g => ⟨h.1.trans g.1.symm, h.2.trans g.2.symm⟩
  | j + 1, _, _, _, _, _, _, h, g => by
    obtain ⟨r, b, h1, h2⟩ := h
    obtain ⟨r_p, b_p, g1, g2⟩ := g
    obtain ⟨e1, e2⟩ := rjS_det h1 g1
    subst e1
    subst e2
    exact rjP_det j h2 g2
theorem rjL_det {pa mo : Int} : ∀ {L : List rkQ} {s s1 s2 : Int → Int} {n n1 n2 : Int}, rjL pa mo L s n s1 n1 → rjL pa mo L s n s2 n2 → s1 = s2 ∧ n1 = n2
  | [], _, _, _, _, _, _, h, g => ⟨h.1.trans g.1.symm, h.2.trans g.2.symm⟩
  | q :: L, _, _, _, _, _, _, h, g => by
    obtain ⟨u, m, h1, h2⟩ := h
    obtain ⟨u', m', g1, g2⟩ := g
    obtain ⟨e1, e2⟩ := rjP_det 36 h1 g1
    subst e1
    subst e2
    exact rjL_det h2 g2
/-- a part's rules in a row, from b on -/
def rjSc (R : Int → Int) (b : Int) (t : Int) : Int := if 0 ≤ t ∧ t < 36 then R (b + t) else 0
theorem rjSc_in {R : Int → Int} {b t : Int} (h0 : 0 ≤ t) (h1 : t < 36) : rjSc R b t = R (b + t) := if_pos ⟨h0, h1⟩
theorem rjSc_cg {R R' : Int → Int} {b : Int} (h : ∀ t : Int, 0 ≤ t → t < 36 → R' (b + t) = R (b + t)) : rjSc R' b = rjSc R b := funext fun t => by
  unfold rjSc
  by_cases c : 0 ≤ t ∧ t < 36
  · rw [if_pos c, if_pos c]
    exact h t c.1 c.2
  · rw [if_neg c, if_neg c]
theorem rjSc_up {R R' : Int → Int} {b k r : Int} (k0 : 0 ≤ k) (k1 : k < 36) (h : ∀ t : Int, 0 ≤ t → t < 36 → R' (b + t) = if t = k then r else R (b + t)) : rjSc R' b = rkUp (rjSc R b) k r := funext fun t => by
  have e : rkUp (rjSc R b) k r t = if t = k then r else rjSc R b t := rfl
  rw [e]
  by_cases c : 0 ≤ t ∧ t < 36
  · rw [rjSc_in c.1 c.2, rjSc_in c.1 c.2]
    exact h t c.1 c.2
  · have e0 : ∀ Q : Int → Int, rjSc Q b t = 0 := fun Q => if_neg c
    rw [e0, e0, if_neg (by omega)]
/-- what is to come, where a run stands: all that comes of here comes of all -/
def rjGo (pa mo : Int) (L0 : List rkQ) (s0 : Int → Int) (L : List rkQ) (s : Int → Int) (n : Int) : Prop := ∀ (s' : Int → Int) (n' : Int), rjL pa mo L s n s' n' → rjL pa mo L0 s0 0 s' n'
def rjGp (pa mo : Int) (L0 : List rkQ) (s0 : Int → Int) (q : rkQ) (j : Nat) (L : List rkQ) (s : Int → Int) (n : Int) : Prop := ∀ (s1 s' : Int → Int) (n1 n' : Int), rjP pa mo q j s n s1 n1 → rjL pa mo L s1 n1 s' n' → rjL pa mo L0 s0 0 s' n'
theorem rjGo_0 {pa mo : Int} {L : List rkQ} {s : Int → Int} : rjGo pa mo L s L s 0 := fun _ _ h => h
theorem rjGo_q {pa mo n : Int} {L0 L : List rkQ} {s0 s : Int → Int} {q : rkQ} (h : rjGo pa mo L0 s0 (q :: L) s n) : rjGp pa mo L0 s0 q 36 L s n := fun s1 s' n1 n' a b => h s' n' ⟨s1, n1, a, b⟩
theorem rjGp_s {pa mo n r b : Int} {L0 L : List rkQ} {s0 s : Int → Int} {q : rkQ} {j : Nat} (h : rjGp pa mo L0 s0 q (j + 1) L s n) (g : rjS pa mo q (35 - (j : Int)) (s (35 - (j : Int))) r b) : rjGp pa mo L0 s0 q j L (rkUp s (35 - (j : Int)) r) (n + b) := fun s1 s' n1 n' a c => h s1 s' n1 n' ⟨r, b, g, a⟩ c
theorem rjGp_e {pa mo n : Int} {L0 L : List rkQ} {s0 s : Int → Int} {q : rkQ} (h : rjGp pa mo L0 s0 q 0 L s n) : rjGo pa mo L0 s0 L s n := fun s' n' a => h s s' n n' ⟨rfl, rfl⟩ a
theorem rjGo_e {pa mo n : Int} {L0 : List rkQ} {s0 s : Int → Int} (h : rjGo pa mo L0 s0 [] s n) : rjL pa mo L0 s0 0 s n := h s n ⟨rfl, rfl⟩
theorem rjGp_k {pa mo n : Int} {L0 L : List rkQ} {s0 s : Int → Int} {q : rkQ} {j : Nat} (h : rjGp pa mo L0 s0 q (j + 1) L s n) (g : ¬ rjAt q ((35 - (j : Int)) / 6) ((35 - (j : Int)) % 6)) : rjGp pa mo L0 s0 q j L s n := by
  have a := rjGp_s h (r := s (35 - (j : Int))) (b := 0) (Or.inr ⟨g, rfl, rfl⟩)
  have e : rkUp s (35 - (j : Int)) (s (35 - (j : Int))) = s := funext fun t => by
    unfold rkUp
    by_cases c : t = 35 - (j : Int)
    · rw [if_pos c, c]
    · rw [if_neg c]
  rw [e, Int.add_zero] at a
  exact a
/-- a play's clause is well made -/
def rjQl (q : rkQ) : Prop := (q.1 = 3 ∨ q.1 = 4) ∧ (q.1 ≠ 4 → ∃ d : rkC, q.2.2.2.1 = some d) ∧ (∀ d : rkC, q.2.2.2.1 = some d → rkWm d false ∧ rjN 6 d) ∧ (∀ d : rkC, q.2.2.2.2.1 = some d → rkWm d false ∧ rjN 6 d) ∧ ∀ d : rkC, q.2.2.2.2.2 = some d → rkWm d true ∧ rjN 6 d
theorem rkSum_v {vs vs' : Int → Int} {o : Option rkC} {r : Option Int} (hn : ∀ d : rkC, o = some d → rjN 6 d) (hv : ∀ k : Int, 1 ≤ k → k ≤ 6 → vs k = vs' k) (h : rkSum vs o r) : rkSum vs' o r := by
  obtain ⟨d, e, h⟩ := h
  have n := hn d e
  rcases h with ⟨h1, h2⟩ | ⟨x, h1, h2⟩
  · exact ⟨d, e, Or.inl ⟨h1, rkEv_v (by decide) n hv h2⟩⟩
  · exact ⟨d, e, Or.inr ⟨x, h1, rkEv_v (by decide) n hv h2⟩⟩
theorem rkTru_v {vs vs' : Int → Int} {o : Option rkC} (hn : ∀ d : rkC, o = some d → rjN 6 d) (hv : ∀ k : Int, 1 ≤ k → k ≤ 6 → vs k = vs' k) (h : rkTru vs o) : rkTru vs' o := by
  cases o with
  | none => trivial
  | some d => exact rkEv_v (by decide) (hn d rfl) hv h
theorem rkFal_v {vs vs' : Int → Int} {o : Option rkC} (hn : ∀ d : rkC, o = some d → rjN 6 d) (hv : ∀ k : Int, 1 ≤ k → k ≤ 6 → vs k = vs' k) (h : rkFal vs o) : rkFal vs' o := by
  cases o with
  | none => exact h
  | some d => exact h.imp (fun g => rkEv_v (by decide) (hn d rfl) hv g) (fun g => rkEv_v (by decide) (hn d rfl) hv g)
theorem rjS1_v {vs vs' : Int → Int} {st r r_p b : Int} {q : rkQ} (hq : rjQl q) (hv : ∀ k : Int, 1 ≤ k → k ≤ 6 → vs k = vs' k) (h : rjS1 vs st q r r_p b) : rjS1 vs' st q r r_p b := by
  have a1 := fun d e => (hq.2.2.1 d e).2
  have a2 := fun d e => (hq.2.2.2.1 d e).2
  have a3 := fun d e => (hq.2.2.2.2 d e).2
  rcases h with ⟨h1, h2⟩ | ⟨h1, h⟩
  · exact Or.inl ⟨rkFal_v a3 hv h1, h2⟩
  refine Or.inr ⟨rkTru_v a3 hv h1, ?_⟩
  rcases h with h | ⟨k, h⟩
  · exact Or.inl h
  refine Or.inr ⟨k, ?_⟩
  rcases h with ⟨u, h⟩ | ⟨x, u, h⟩
  · exact Or.inl ⟨rkSum_v a1 hv u, h⟩
  refine Or.inr ⟨x, rkSum_v a1 hv u, ?_⟩
  rcases h with h | ⟨n, h⟩ | ⟨y, n, h⟩
  · exact Or.inl h
  · exact Or.inr (Or.inl ⟨rkSum_v a2 hv n, h⟩)
  · exact Or.inr (Or.inr ⟨y, rkSum_v a2 hv n, h⟩)
