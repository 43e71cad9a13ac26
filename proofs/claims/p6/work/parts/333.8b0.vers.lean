/-! SCRIPTS of new versions, of both -/
theorem rjSc_mv {R R' : Int → Int} {b b_p : Int} (h : ∀ t : Int, 0 ≤ t → t < 36 → R (b + t) = R' (b_p + t)) : rjSc R b = rjSc R' b_p := funext fun t => by
  unfold rjSc
  by_cases c : 0 ≤ t ∧ t < 36
  · rw [if_pos c, if_pos c]
    exact h t c.1 c.2
  · rw [if_neg c, if_neg c]
theorem rjdRw_nw {S0 S : Nat → Int → Int} {pa n : Int} {f : Int → Int} (h : rjdRw S0 pa f) (g : ∀ t : Int, 0 ≤ t → t < 36 → S (42 + 3 * n).toNat t = S0 (24 + 3 * pa).toNat t ∧ S (43 + 3 * n).toNat t = S0 (25 + 3 * pa).toNat t) : rjdRw S (6 + n) f := fun t a b => by
  obtain ⟨h0, h1, h2⟩ := h t a b
  obtain ⟨g1, g2⟩ := g t a b
  refine ⟨h0, ?_, ?_⟩
  · rw [show 24 + 3 * (6 + n) = 42 + 3 * n by omega]
    exact g1.trans h1
  · rw [show 25 + 3 * (6 + n) = 43 + 3 * n by omega]
    exact g2.trans h2
section RJKG
variable {x : Bool} {S S_p : Nat → Int → Int} {ms : List (Nat × Nat)}
/-- a version less -/
theorem rjdK_un (hs : bx_same rxL (bx_mdl ms) S S_p) (hk : rjdKr.all (fun q => !(bx_mdl ms q.1 q.2)) = true) (h : rjdK x S) (e0 : S_p 482 0 = S 482 0) (e2 : S_p 482 2 ≤ S 482 2) (ho : ∀ j : Int, 22 ≤ j → j < 238 → S_p 482 j = S 482 j) (hv : ∀ j : Int, 298 ≤ j → j < 730 → S_p 482 j = S 482 j) : rjdK x S_p := by
  have l : ∀ l' : List (Nat × Nat), l'.all (fun q => rjdKr.contains q) = true → l'.all (fun q => !(bx_mdl ms q.1 q.2)) = true := fun l' hl => rjdKl hk hl
  have es : rjdSm S S_p := rjdSm_sm hs (l _ (by decide))
  refine rjdK_u (rkPl_sm hs (l _ (by decide)) h.1.1) (rkDu_sm hs (l _ (by decide)) h.1.2) h ?_ (fun p t a _ c d => es p t a c d) (fun j a b => rx_same64 (rjdKf hk (a := 1064) (b := 0) (by decide)) (rjdKf hk (a := 1064) (b := 1) (by decide)) hs a b) (rjdK_kp hs (rjdKf hk (a := 1031) (b := 0) (by decide)) 0 (by decide)) (rjdK_kp hs (rjdKf hk (a := 1031) (b := 0) (by decide)) 1 (by decide))
  have hm := rjdKb_m (Or.inl rfl) h.2.1 es
  refine ⟨fun k c c6 => ?_, fun hx k c c12 => ?_⟩
  · rw [e0] at c
    rw [rjSc_cg (R := S 482) fun t t0 t1 => ho _ (by omega) (by omega)]
    exact hm.1 k c c6
  · rw [rjSc_cg (R := S 482) fun t t0 t1 => hv _ (by omega) (by omega)]
    exact hm.2 hx k (by omega) c12
end RJKG
/-! COUNTED -/
def rjCn (b : Int → Bool) : Nat → Int
  | 0 => 0
  | n + 1 => rjCn b n + (if b (n : Int) = true then 1 else 0)
theorem rjCn_t {b : Int → Bool} {n : Nat} {k : Int} (hk : k = (n : Int)) (h : b k = true) : rjCn b (n + 1) = rjCn b n + 1 := by
  subst hk
  show rjCn b n + (if b (n : Int) = true then 1 else 0) = _
  rw [if_pos h]
theorem rjCn_f {b : Int → Bool} {n : Nat} {k : Int} (hk : k = (n : Int)) (h : b k = false) : rjCn b (n + 1) = rjCn b n := by
  subst hk
  show rjCn b n + (if b (n : Int) = true then 1 else 0) = _
  rw [h]
  show rjCn b n + 0 = _
  omega
theorem rjCn_cg {b c : Int → Bool} : ∀ {n : Nat}, (∀ k : Int, 0 ≤ k → k < (n : Int) → b k = c k) → rjCn b n = rjCn c n
  | 0, _ => rfl
  | n + 1, h => by
    show rjCn b n + (if b (n : Int) = true then 1 else 0) = rjCn c n + (if c (n : Int) = true then 1 else 0)
    rw [rjCn_cg (n := n) fun k a d => h k a (by omega), h (n : Int) (by omega) (by omega)]
theorem rjCn_b {b : Int → Bool} : ∀ n : Nat, 0 ≤ rjCn b n ∧ rjCn b n ≤ (n : Int)
  | 0 => ⟨Int.le_refl _, Int.le_refl _⟩
  | n + 1 => by
    have h := rjCn_b (b := b) n
    show 0 ≤ rjCn b n + (if b (n : Int) = true then 1 else 0) ∧ rjCn b n + (if b (n : Int) = true then 1 else 0) ≤ ((n + 1 : Nat) : Int)
    by_cases c : b (n : Int) = true
    · rw [if_pos c]
      omega
    · rw [if_neg c]
      omega
/-- a rule, by its word and state -/
theorem rjdWo_e {r q : Int} (r0 : -1 ≤ r) (r1 : r ≤ 59) (q0 : -1 ≤ q) (q1 : q ≤ 59) : (rjWo r = rjWo q ∧ rjNx r = rjNx q) ↔ r = q := by
  have a := rjdWo_x r0
  have b := rjdWo_x q0
  omega
theorem rjdWo_0 {r : Int} (r0 : -1 ≤ r) : 0 ≤ rjWo r ↔ r ≠ -1 := by
  have a := rjdWo_x r0
  omega
/-! PLAYED at a row of cues -/
def rjPs (P C : Int → Int) : Nat → Int
  | 0 => 0
  | k + 1 => if rjPs P C k = -1 then -1 else if P (6 * rjPs P C k + C (k : Int)) = -1 then -1 else P (6 * rjPs P C k + C (k : Int)) % 6
/-- the word at a cue; 100: it stopped by then -/
def rjPw (P C : Int → Int) (k : Nat) : Int := if rjPs P C k = -1 then 100 else if P (6 * rjPs P C k + C (k : Int)) = -1 then 100 else P (6 * rjPs P C k + C (k : Int)) / 6
section RJPS
variable {P Q C D : Int → Int} {k n : Nat} {s i : Int}
theorem rjPs_e (h : rjPs P C k = -1) : rjPs P C (k + 1) = -1 := if_pos h
theorem rjPs_h (hs : rjPs P C k = s) (hi : i = 6 * s + C (k : Int)) (h : s ≠ -1) (g : P i = -1) : rjPs P C (k + 1) = -1 ∧ rjPw P C k = 100 := by
  subst hs
  subst hi
  refine ⟨?_, ?_⟩
  · show (if rjPs P C k = -1 then -1 else _) = _
    rw [if_neg h, if_pos g]
  · unfold rjPw
    rw [if_neg h, if_pos g]
theorem rjPs_g (hs : rjPs P C k = s) (hi : i = 6 * s + C (k : Int)) (h : s ≠ -1) (g : P i ≠ -1) : rjPs P C (k + 1) = P i % 6 ∧ rjPw P C k = P i / 6 := by
  subst hs
  subst hi
  refine ⟨?_, ?_⟩
  · show (if rjPs P C k = -1 then -1 else _) = _
    rw [if_neg h, if_neg g]
  · unfold rjPw
    rw [if_neg h, if_neg g]
theorem rjPs_m (h : rjPs P C k = -1) : ∀ j : Nat, rjPs P C (k + j) = -1
  | 0 => h
  | j + 1 => rjPs_e (rjPs_m h j)
theorem rjPs_le (h : rjPs P C k = -1) (g : k ≤ n) : rjPs P C n = -1 := by
  have := rjPs_m h (n - k)
  rw [show k + (n - k) = n by omega] at this
  exact this
theorem rjPw_st (h : rjPs P C k = -1) : rjPw P C k = 100 := by
  unfold rjPw
  rw [if_pos h]
theorem rjPs_b (hP : ∀ t : Int, 0 ≤ t → t < 36 → -1 ≤ P t ∧ P t ≤ 59) (hC : ∀ k : Nat, 0 ≤ C (k : Int) ∧ C (k : Int) ≤ 5) : ∀ k : Nat, -1 ≤ rjPs P C k ∧ rjPs P C k ≤ 5
  | 0 => by
    show (-1 : Int) ≤ 0 ∧ (0 : Int) ≤ 5
    omega
  | k + 1 => by
    have h := rjPs_b hP hC k
    have c := hC k
    by_cases e : rjPs P C k = -1
    · rw [rjPs_e e]
      omega
    · by_cases g : P (6 * rjPs P C k + C (k : Int)) = -1
      · rw [(rjPs_h rfl rfl e g).1]
        omega
      · rw [(rjPs_g rfl rfl e g).1]
        omega
/-- of two scripts and rows that are alike -/
theorem rjPs_cg (hP : ∀ t : Int, 0 ≤ t → t < 36 → P t = Q t ∧ -1 ≤ P t ∧ P t ≤ 59) : ∀ {n : Nat}, (∀ k : Nat, k < n → C (k : Int) = D (k : Int) ∧ 0 ≤ C (k : Int) ∧ C (k : Int) ≤ 5) → rjPs P C n = rjPs Q D n ∧ -1 ≤ rjPs P C n ∧ rjPs P C n ≤ 5
  | 0, _ => by
    refine ⟨rfl, ?_⟩
    show (-1 : Int) ≤ 0 ∧ (0 : Int) ≤ 5
    omega
  | n + 1, hC => by
    obtain ⟨h, b0, b1⟩ := rjPs_cg hP (n := n) fun k hk => hC k (by omega)
    obtain ⟨c, c0, c1⟩ := hC n (by omega)
    by_cases e : rjPs P C n = -1
    · rw [rjPs_e e, rjPs_e (h.symm.trans e)]
      omega
    · obtain ⟨p, p0, p1⟩ := hP (6 * rjPs P C n + C (n : Int)) (by omega) (by omega)
      have p_p : Q (6 * rjPs Q D n + D (n : Int)) = P (6 * rjPs P C n + C (n : Int)) := by
        rw [← h, ← c]
        exact p.symm
      by_cases g : P (6 * rjPs P C n + C (n : Int)) = -1
      · rw [(rjPs_h rfl rfl e g).1, (rjPs_h (P := Q) (C := D) rfl rfl (fun z => e (h.trans z)) (p_p.trans g)).1]
        omega
      · rw [(rjPs_g rfl rfl e g).1, (rjPs_g (P := Q) (C := D) rfl rfl (fun z => e (h.trans z)) (fun z => g (p_p.symm.trans z))).1, p_p]
        omega
theorem rjPw_cg (hP : ∀ t : Int, 0 ≤ t → t < 36 → P t = Q t ∧ -1 ≤ P t ∧ P t ≤ 59) {k : Nat} (hC : ∀ j : Nat, j < k + 1 → C (j : Int) = D (j : Int) ∧ 0 ≤ C (j : Int) ∧ C (j : Int) ≤ 5) : rjPw P C k = rjPw Q D k := by
  obtain ⟨h, b0, b1⟩ := rjPs_cg hP (n := k) fun j hj => hC j (by omega)
  obtain ⟨c, c0, c1⟩ := hC k (by omega)
  by_cases e : rjPs P C k = -1
  · rw [rjPw_st e, rjPw_st (h.symm.trans e)]
  · obtain ⟨p, p0, p1⟩ := hP (6 * rjPs P C k + C (k : Int)) (by omega) (by omega)
    have p_p : Q (6 * rjPs Q D k + D (k : Int)) = P (6 * rjPs P C k + C (k : Int)) := by
      rw [← h, ← c]
      exact p.symm
    by_cases g : P (6 * rjPs P C k + C (k : Int)) = -1
    · rw [(rjPs_h rfl rfl e g).2, (rjPs_h (P := Q) (C := D) rfl rfl (fun z => e (h.trans z)) (p_p.trans g)).2]
    · rw [(rjPs_g rfl rfl e g).2, (rjPs_g (P := Q) (C := D) rfl rfl (fun z => e (h.trans z)) (fun z => g (p_p.symm.trans z))).2, p_p]
end RJPS
theorem rjPw_le {P C : Int → Int} {k n : Nat} (h : rjPs P C (k + 1) = -1) (g : rjPw P C k = 100) (l : k ≤ n) : rjPw P C n = 100 := by
  by_cases e : n = k
  · rw [e]
    exact g
  · exact rjPw_st (rjPs_le h (by omega))
/-- a word is no more than 9 where it is said -/
theorem rjPw_9 {P C : Int → Int} {k : Nat} (hP : ∀ t : Int, 0 ≤ t → t < 36 → -1 ≤ P t ∧ P t ≤ 59) (hs : -1 ≤ rjPs P C k ∧ rjPs P C k ≤ 5) (hC : 0 ≤ C (k : Int) ∧ C (k : Int) ≤ 5) : (rjPw P C k = 100 ∧ rjPs P C (k + 1) = -1) ∨ (0 ≤ rjPw P C k ∧ rjPw P C k ≤ 9 ∧ rjPs P C (k + 1) ≠ -1) := by
  by_cases e : rjPs P C k = -1
  · exact Or.inl ⟨rjPw_st e, rjPs_e e⟩
  · have p := hP (6 * rjPs P C k + C (k : Int)) (by omega) (by omega)
    by_cases g : P (6 * rjPs P C k + C (k : Int)) = -1
    · obtain ⟨a, b⟩ := rjPs_h rfl rfl e g
      exact Or.inl ⟨b, a⟩
    · obtain ⟨a, b⟩ := rjPs_g rfl rfl e g
      rw [a, b]
      omega
/-! BALLOTS: how many say what, the most, and which say so -/
def rjVb (T : Int → Bool) (W : Int → Int) (n : Nat) (w : Int) : Int := rjCn (fun i => T i && decide (W i = w)) n
def rjMo (V : Int → Int) : Nat → Int × Int
  | 0 => (-1, 0)
  | k + 1 => if (rjMo V k).2 < V (k : Int) then ((k : Int), V (k : Int)) else rjMo V k
def rjMb (V : Int → Int) (m : Int) : Nat → Nat
  | 0 => 0
  | k + 1 => rjMb V m k ||| (if V (k : Int) = m then 2 ^ k else 0)
section RJVB
variable {T U : Int → Bool} {W X V Y : Int → Int} {n : Nat} {k w b m : Int}
theorem rjVb_n (hk : k = (n : Int)) (h : T k = false) (w : Int) : rjVb T W (n + 1) w = rjVb T W n w := rjCn_f hk (by
  show (T k && decide (W k = w)) = false
  rw [h]
  rfl)
theorem rjVb_t (hk : k = (n : Int)) (h : T k = true) (g : W k = b) : rjVb T W (n + 1) b = rjVb T W n b + 1 := rjCn_t hk (by
  show (T k && decide (W k = b)) = true
  rw [h, decide_eq_true g]
  rfl)
theorem rjVb_o (hk : k = (n : Int)) (g : W k ≠ w) : rjVb T W (n + 1) w = rjVb T W n w := rjCn_f hk (by
  show (T k && decide (W k = w)) = false
  rw [decide_eq_false g]
  exact Bool.and_false _)
theorem rjVb_b (n : Nat) : 0 ≤ rjVb T W n w ∧ rjVb T W n w ≤ (n : Int) := rjCn_b n
theorem rjVb_cg (h : ∀ k : Int, 0 ≤ k → k < (n : Int) → T k = U k ∧ (T k = true → W k = X k)) (w : Int) : rjVb T W n w = rjVb U X n w := rjCn_cg fun k a d => by
  obtain ⟨e, f⟩ := h k a d
  show (T k && decide (W k = w)) = (U k && decide (X k = w))
  rw [← e]
  cases c : T k
  · rfl
  · rw [f c]
theorem rjMo_p (V : Int → Int) : ∀ n : Nat, (∀ j : Int, 0 ≤ j → j < (n : Int) → V j ≤ (rjMo V n).2) ∧ (((rjMo V n).1 = -1 ∧ (rjMo V n).2 = 0) ∨ (0 ≤ (rjMo V n).1 ∧ (rjMo V n).1 < (n : Int) ∧ 0 < (rjMo V n).2 ∧ V (rjMo V n).1 = (rjMo V n).2 ∧ ∀ j : Int, 0 ≤ j → j < (rjMo V n).1 → V j ≠ (rjMo V n).2))
  | 0 => ⟨fun j a b => absurd b (by omega), Or.inl ⟨rfl, rfl⟩⟩
  | n + 1 => by
    obtain ⟨h1, h2⟩ := rjMo_p V n
    by_cases c : (rjMo V n).2 < V (n : Int)
    · have e : rjMo V (n + 1) = ((n : Int), V (n : Int)) := if_pos c
      rw [e]
      refine ⟨fun j a b => ?_, Or.inr ⟨by show (0 : Int) ≤ (n : Int); omega, by show (n : Int) < ((n + 1 : Nat) : Int); omega, ?_, rfl, fun j a b => ?_⟩⟩
      · show V j ≤ V (n : Int)
        by_cases d : j = (n : Int)
        · rw [d]
          exact Int.le_refl _
        · have := h1 j a (by omega)
          omega
      · show 0 < V (n : Int)
        rcases h2 with h2 | h2 <;> omega
      · have b_p : j < (n : Int) := b
        have := h1 j a b_p
        show V j ≠ V (n : Int)
        omega
    · have e : rjMo V (n + 1) = rjMo V n := if_neg c
      rw [e]
      refine ⟨fun j a b => ?_, h2.imp id fun g => ⟨g.1, by have := g.2.1; omega, g.2.2⟩⟩
      by_cases d : j = (n : Int)
      · rw [d]
        omega
      · exact h1 j a (by omega)
theorem rjMo_s {a c : Int} (h : rjMo V n = (a, c)) (hk : k = (n : Int)) : rjMo V (n + 1) = if c < V k then (k, V k) else (a, c) := by
  subst hk
  show (if (rjMo V n).2 < V (n : Int) then ((n : Int), V (n : Int)) else rjMo V n) = _
  rw [h]
theorem rjMo_cg (h : ∀ k : Int, 0 ≤ k → k < (n : Int) → V k = Y k) : rjMo V n = rjMo Y n := by
  induction n with
  | zero => rfl
  | succ n ih =>
    have e := ih fun k a b => h k a (by omega)
    show (if (rjMo V n).2 < V (n : Int) then ((n : Int), V (n : Int)) else rjMo V n) = (if (rjMo Y n).2 < Y (n : Int) then ((n : Int), Y (n : Int)) else rjMo Y n)
    rw [e, h (n : Int) (by omega) (by omega)]
theorem rjMb_cg (h : ∀ k : Int, 0 ≤ k → k < (n : Int) → V k = Y k) : rjMb V m n = rjMb Y m n := by
  induction n with
  | zero => rfl
  | succ n ih =>
    have e := ih fun k a b => h k a (by omega)
    show (rjMb V m n ||| (if V (n : Int) = m then 2 ^ n else 0)) = (rjMb Y m n ||| (if Y (n : Int) = m then 2 ^ n else 0))
    rw [e, h (n : Int) (by omega) (by omega)]
theorem rjMb_t (hk : k = (n : Int)) (h : V k = m) : rjMb V m (n + 1) = rjMb V m n ||| 2 ^ n := by
  subst hk
  show (rjMb V m n ||| (if V (n : Int) = m then 2 ^ n else 0)) = _
  rw [if_pos h]
theorem rjMb_f (hk : k = (n : Int)) (h : V k ≠ m) : rjMb V m (n + 1) = rjMb V m n := by
  subst hk
  show (rjMb V m n ||| (if V (n : Int) = m then 2 ^ n else 0)) = _
  rw [if_neg h, Nat.or_zero]
theorem rjMb_b (V : Int → Int) (m : Int) : ∀ n : Nat, rjMb V m n < 2 ^ n
  | 0 => show (0 : Nat) < 2 ^ 0 by decide
  | n + 1 => by
    have h := rjMb_b V m n
    show (rjMb V m n ||| (if V (n : Int) = m then 2 ^ n else 0)) < 2 ^ (n + 1)
    refine Nat.or_lt_two_pow (Nat.lt_of_lt_of_le h (Nat.pow_le_pow_right (by decide) (Nat.le_succ n))) ?_
    by_cases c : V (n : Int) = m
    · rw [if_pos c]
      exact Nat.pow_lt_pow_right (by decide) (Nat.lt_succ_self n)
    · rw [if_neg c]
      exact Nat.two_pow_pos _
end RJVB
/-- what a vote tells -/
def rjVt (V : Int → Int) (st what : Int) : Int := if what = 0 then (rjMo V 10).1 else if what = 1 then (if (rjMo V 10).1 = -1 then -1 else (rjMo V 10).2) else if what = 2 then st else -1
/-- what an origin tells -/
def rjOr (V : Int → Int) : Int := if (rjMo V 10).1 = -1 then 0 else ((rjMb V (rjMo V 10).2 10 : Nat) : Int)
theorem rjVt_cg {V Y : Int → Int} {st sw what : Int} (h : ∀ k : Int, 0 ≤ k → k < 10 → V k = Y k) (hs : st = sw) : rjVt V st what = rjVt Y sw what := by
  unfold rjVt
  rw [rjMo_cg (n := 10) (fun k a b => h k a (by omega)), hs]
theorem rjOr_cg {V Y : Int → Int} (h : ∀ k : Int, 0 ≤ k → k < 10 → V k = Y k) : rjOr V = rjOr Y := by
  unfold rjOr
  rw [rjMo_cg (n := 10) (fun k a b => h k a (by omega)), rjMb_cg (n := 10) (fun k a b => h k a (by omega))]
/-- the developers look for the most first -/
theorem rjMo_0 {V : Int → Int} {n : Nat} : (rjMo V n).1 = -1 ↔ (rjMo V n).2 = 0 := by
  rcases (rjMo_p V n).2 with h | h
  · exact ⟨fun _ => h.2, fun _ => h.1⟩
  · exact ⟨fun z => by omega, fun z => by omega⟩
theorem rjMo_i {V : Int → Int} {n : Nat} {i : Int} (h : (rjMo V n).2 ≠ 0) (a : 0 ≤ i) (b : i < (n : Int)) (e : V i = (rjMo V n).2) (f : ∀ j : Int, 0 ≤ j → j < i → V j ≠ (rjMo V n).2) : (rjMo V n).1 = i := by
  rcases (rjMo_p V n).2 with g | ⟨g0, g1, g2, g3, g4⟩
  · exact absurd g.2 h
  · by_cases c : i < (rjMo V n).1
    · exact absurd e (g4 i a c)
    · by_cases d : (rjMo V n).1 < i
      · exact absurd g3 (f _ g0 d)
      · omega
theorem rjMo_n {V : Int → Int} {n : Nat} (f : ∀ j : Int, 0 ≤ j → j < (n : Int) → V j ≠ (rjMo V n).2) : (rjMo V n).1 = -1 := by
  rcases (rjMo_p V n).2 with g | ⟨g0, g1, g2, g3, g4⟩
  · exact g.1
  · exact absurd g3 (f _ g0 g1)
/-- the box of a word -/
def rjBx (w : Int) : Int := if w = 100 then 10 else w
theorem rjPw_w {P C : Int → Int} {k : Nat} (hP : ∀ t : Int, 0 ≤ t → t < 36 → -1 ≤ P t ∧ P t ≤ 59) (hC : ∀ j : Nat, j < k + 1 → 0 ≤ C (j : Int) ∧ C (j : Int) ≤ 5) : rjPw P C k = 100 ∨ (0 ≤ rjPw P C k ∧ rjPw P C k ≤ 9) := by
  obtain ⟨-, b⟩ := rjPs_cg (P := P) (Q := P) (C := C) (D := C) (n := k) (fun t a c => ⟨rfl, hP t a c⟩) (fun j hj => ⟨rfl, hC j (by omega)⟩)
  rcases rjPw_9 hP b (hC k (by omega)) with h | h
  · exact Or.inl h.1
  · exact Or.inr ⟨h.1, h.2.1⟩
theorem rjdSm_475 {S0 S : Nat → Int → Int} (h : ∀ (p : Nat) (j : Int), p ≠ 475 → S p j = S0 p j) : rjdSm S0 S := fun p t a _ _ => h p t (fun e => by
  subst e
  unfold rjdRg at a
  omega)
/-- the versions' scripts, as a family -/
def rjdQs (S : Nat → Int → Int) (Q : Int → Int → Int) : Prop := ∀ vs : Int, 0 ≤ vs → vs < S 1 5 → rjdRw S (6 + vs) (Q vs)
theorem rjIn_r {S : Nat → Int → Int} (h : bx_Inv rxL S) {p n : Nat} {lo hi : Int} (hk : ∀ i : Fin n, rxL.2.2.1 p (i.1 : Int) = (0, lo, hi)) (hp : p < 522) (hw : bx_wd (rxL.1 p) = n) {j : Int} (h0 : 0 ≤ j) (h1 : j < (n : Int)) : lo ≤ S p j ∧ S p j ≤ hi := by
  have q : rxL.2.2.1 p ((j.toNat : Nat) : Int) = (0, lo, hi) := hk ⟨j.toNat, by omega⟩
  rw [show ((j.toNat : Nat) : Int) = j by omega] at q
  exact rx_inv h hp hw h0 h1 q
/-- when it stops -/
def rjSt (P C : Int → Int) (n x : Int) : Prop := (∃ j : Nat, (j : Int) < n ∧ x = (j : Int) ∧ rjPw P C j = 100 ∧ ∀ m : Nat, m < j → rjPw P C m ≠ 100) ∨ (x = -1 ∧ ∀ m : Nat, (m : Int) < n → rjPw P C m ≠ 100)
theorem rjSt_det {P C : Int → Int} {n x y : Int} (h : rjSt P C n x) (g : rjSt P C n y) : x = y := by
  rcases h with ⟨j, j1, j2, j3, j4⟩ | ⟨h1, h2⟩
  · rcases g with ⟨k, k1, k2, k3, k4⟩ | ⟨g1, g2⟩
    · by_cases c : j < k
      · exact absurd j3 (k4 j c)
      · by_cases d : k < j
        · exact absurd k3 (j4 k d)
        · omega
    · exact absurd j3 (g2 j j1)
  · rcases g with ⟨k, k1, k2, k3, k4⟩ | ⟨g1, g2⟩
    · exact absurd k3 (h2 k k1)
    · omega
theorem rjSt_cg {P C Q D : Int → Int} {n x : Int} (h : rjSt P C n x) (e : ∀ k : Nat, (k : Int) < n → rjPw P C k = rjPw Q D k) : rjSt Q D n x := by
  rcases h with ⟨j, j1, j2, j3, j4⟩ | ⟨h1, h2⟩
  · exact Or.inl ⟨j, j1, j2, (e j j1).symm.trans j3, fun m hm z => j4 m hm ((e m (by omega)).trans z)⟩
  · exact Or.inr ⟨h1, fun m hm z => h2 m hm ((e m hm).trans z)⟩
theorem rjSt_of {P C : Int → Int} {n : Int} {w : Option Int} (h : (∃ j : Nat, (j : Int) < n ∧ w = some (j : Int) ∧ rjPw P C j = 100 ∧ ∀ m : Nat, m < j → rjPw P C m ≠ 100) ∨ (w = some (-1) ∧ ∀ m : Nat, (m : Int) < n → rjPw P C m ≠ 100)) : ∃ x : Int, w = some x ∧ rjSt P C n x := by
  rcases h with ⟨j, j1, j2, j3, j4⟩ | ⟨h1, h2⟩
  · exact ⟨(j : Int), j2, Or.inl ⟨j, j1, rfl, j3, j4⟩⟩
  · exact ⟨-1, h1, Or.inr ⟨rfl, h2⟩⟩
/-! ORIGINS: bits counted, slips and ways of all rules -/
def rjPc (B : Nat) : Nat → Nat
  | 0 => 0
  | k + 1 => rjPc B k + B / 2 ^ k % 2
def bc3 (n : Nat) : Nat := n - (n / 2 &&& 1431655765)
def bc7 (n : Nat) : Nat := (bc3 n &&& 858993459) + (bc3 n / 4 &&& 858993459)
def bcA (n : Nat) : Nat := (bc7 n + bc7 n / 16) &&& 252645135
def bcC (n : Nat) : Nat := bcA n + bcA n / 256
def bcE (n : Nat) : Nat := bcC n + bcC n / 65536
def bcF (n : Nat) : Nat := bcE n &&& 63
theorem bcF_ok : ∀ n : Fin 1024, bcF n.1 = rjPc n.1 10 := by decide +kernel
/-- how many said something -/
def rjSv (V : Int → Int) : Nat → Int
  | 0 => 0
  | k + 1 => rjSv V k + V (k : Int)
theorem rjSv_s {V : Int → Int} {n : Nat} {k : Int} (hk : k = (n : Int)) : rjSv V (n + 1) = rjSv V n + V k := by
  subst hk
  rfl
theorem rjSv_b {V : Int → Int} {m : Int} (h : ∀ k : Int, 0 ≤ k → k < 10 → 0 ≤ V k ∧ V k ≤ m) : ∀ n : Nat, n ≤ 10 → 0 ≤ rjSv V n ∧ rjSv V n ≤ (n : Int) * m
  | 0, _ => by
    show (0 : Int) ≤ 0 ∧ (0 : Int) ≤ ((0 : Nat) : Int) * m
    rw [Int.natCast_zero, Int.zero_mul]
    exact ⟨Int.le_refl _, Int.le_refl _⟩
  | n + 1, hn => by
    have b := rjSv_b h n (by omega)
    have v := h (n : Int) (by omega) (by omega)
    have e : ((n + 1 : Nat) : Int) * m = (n : Int) * m + m := by
      rw [Int.natCast_add, Int.add_mul]
      show (n : Int) * m + 1 * m = _
      rw [Int.one_mul]
    show 0 ≤ rjSv V n + V (n : Int) ∧ rjSv V n + V (n : Int) ≤ ((n + 1 : Nat) : Int) * m
    rw [e]
    omega
theorem rjSv_cg {V Y : Int → Int} : ∀ {n : Nat}, (∀ k : Int, 0 ≤ k → k < (n : Int) → V k = Y k) → rjSv V n = rjSv Y n
  | 0, _ => rfl
  | n + 1, h => by
    have e := rjSv_cg (V := V) (Y := Y) (n := n) fun k a b => h k a (by omega)
    show rjSv V n + V (n : Int) = rjSv Y n + Y (n : Int)
    rw [e, h (n : Int) (by omega) (by omega)]
/-- so many ways more, but no more than 10 to the 18th -/
def rjTm (w m : Int) : Int := if 1000000000000000000 / m < w then 1000000000000000000 else w * m
theorem rjTm_b {w m : Int} (w0 : 1 ≤ w) (m0 : 1 ≤ m) : (1000000000000000000 / m < w → rjTm w m = 1000000000000000000) ∧ (w ≤ 1000000000000000000 / m → rjTm w m = w * m ∧ 1 ≤ w * m ∧ w * m ≤ 1000000000000000000) := by
  refine ⟨fun h => if_pos h, fun h => ⟨if_neg (by omega), ?_, (Int.le_ediv_iff_mul_le (by omega)).mp h⟩⟩
  have g := Int.mul_le_mul w0 m0 (by omega) (by omega)
  rw [Int.one_mul] at g
  exact g
theorem rjTm_r {w m : Int} (w0 : 1 ≤ w) (m0 : 1 ≤ m) : 1 ≤ rjTm w m ∧ rjTm w m ≤ 1000000000000000000 := by
  obtain ⟨a, b⟩ := rjTm_b w0 m0
  by_cases c : 1000000000000000000 / m < w
  · rw [a c]
    omega
  · obtain ⟨e, f, g⟩ := b (by omega)
    rw [e]
    exact ⟨f, g⟩
/-- the slips and the ways of all rules, V: how often each word is said at each rule -/
def rjOs (V : Int → Int → Int) : Nat → Int × Int
  | 0 => (0, 1)
  | k + 1 => if (rjMo (V (k : Int)) 10).2 = 0 then rjOs V k else ((rjOs V k).1 + (rjSv (V (k : Int)) 10 - (rjMo (V (k : Int)) 10).2), rjTm (rjOs V k).2 ((rjPc (rjMb (V (k : Int)) (rjMo (V (k : Int)) 10).2 10) 10 : Nat) : Int))
section RJOS
variable {V Y : Int → Int → Int} {n : Nat} {r s w : Int}
theorem rjOs_n (h : rjOs V n = (s, w)) (hr : r = (n : Int)) (z : (rjMo (V r) 10).2 = 0) : rjOs V (n + 1) = (s, w) := by
  subst hr
  exact (if_pos z).trans h
theorem rjOs_y (h : rjOs V n = (s, w)) (hr : r = (n : Int)) (z : (rjMo (V r) 10).2 ≠ 0) : rjOs V (n + 1) = (s + (rjSv (V r) 10 - (rjMo (V r) 10).2), rjTm w ((rjPc (rjMb (V r) (rjMo (V r) 10).2 10) 10 : Nat) : Int)) := by
  subst hr
  show (if (rjMo (V (n : Int)) 10).2 = 0 then rjOs V n else ((rjOs V n).1 + (rjSv (V (n : Int)) 10 - (rjMo (V (n : Int)) 10).2), rjTm (rjOs V n).2 ((rjPc (rjMb (V (n : Int)) (rjMo (V (n : Int)) 10).2 10) 10 : Nat) : Int))) = _
  rw [if_neg z, h]
theorem rjOs_cg : ∀ {n : Nat}, (∀ r : Int, 0 ≤ r → r < (n : Int) → ∀ b : Int, 0 ≤ b → b < 10 → V r b = Y r b) → rjOs V n = rjOs Y n
  | 0, _ => rfl
  | n + 1, h => by
    have e := rjOs_cg (n := n) fun r a b => h r a (by omega)
    have g := h (n : Int) (by omega) (by omega)
    have e1 := rjMo_cg (V := V (n : Int)) (Y := Y (n : Int)) (n := 10) fun k a b => g k a (by omega)
    have e2 := rjSv_cg (V := V (n : Int)) (Y := Y (n : Int)) (n := 10) fun k a b => g k a (by omega)
    have e3 := rjMb_cg (V := V (n : Int)) (Y := Y (n : Int)) (m := (rjMo (Y (n : Int)) 10).2) (n := 10) fun k a b => g k a (by omega)
    show (if (rjMo (V (n : Int)) 10).2 = 0 then rjOs V n else ((rjOs V n).1 + (rjSv (V (n : Int)) 10 - (rjMo (V (n : Int)) 10).2), rjTm (rjOs V n).2 ((rjPc (rjMb (V (n : Int)) (rjMo (V (n : Int)) 10).2 10) 10 : Nat) : Int))) = (if (rjMo (Y (n : Int)) 10).2 = 0 then rjOs Y n else ((rjOs Y n).1 + (rjSv (Y (n : Int)) 10 - (rjMo (Y (n : Int)) 10).2), rjTm (rjOs Y n).2 ((rjPc (rjMb (Y (n : Int)) (rjMo (Y (n : Int)) 10).2 10) 10 : Nat) : Int)))
    rw [e, e1, e2, e3]
end RJOS
theorem rjPc_le (B : Nat) : ∀ n : Nat, rjPc B n ≤ n
  | 0 => Nat.le_refl 0
  | n + 1 => by
    have h := rjPc_le B n
    show rjPc B n + B / 2 ^ n % 2 ≤ n + 1
    omega
theorem rjPc_1 {B i : Nat} (hb : B / 2 ^ i % 2 = 1) : ∀ n : Nat, i < n → 1 ≤ rjPc B n
  | 0, h => absurd h (Nat.not_lt_zero i)
  | n + 1, h => by
    show 1 ≤ rjPc B n + B / 2 ^ n % 2
    by_cases c : i < n
    · have := rjPc_1 hb n c
      omega
    · have e : i = n := by omega
      rw [← e]
      omega
theorem rjMb_x {V : Int → Int} {m : Int} {i : Nat} (hv : V (i : Int) = m) : ∀ n : Nat, i < n → (rjMb V m n).testBit i = true
  | 0, h => absurd h (Nat.not_lt_zero i)
  | n + 1, h => by
    show (rjMb V m n ||| (if V (n : Int) = m then 2 ^ n else 0)).testBit i = true
    rw [Nat.testBit_or]
    by_cases c : i < n
    · rw [rjMb_x hv n c]
      rfl
    · have e : i = n := by omega
      subst e
      rw [if_pos hv, Nat.testBit_two_pow_self, Bool.or_true]
/-- someone says the word that most say -/
theorem rjPc_m {V : Int → Int} (h : (rjMo V 10).2 ≠ 0) : 1 ≤ rjPc (rjMb V (rjMo V 10).2 10) 10 ∧ rjPc (rjMb V (rjMo V 10).2 10) 10 ≤ 10 := by
  refine ⟨?_, rjPc_le _ 10⟩
  rcases (rjMo_p V 10).2 with g | ⟨g0, g1, g2, g3, g4⟩
  · exact absurd g.2 h
  · have e : (((rjMo V 10).1.toNat : Nat) : Int) = (rjMo V 10).1 := Int.toNat_of_nonneg g0
    have b := rjMb_x (V := V) (m := (rjMo V 10).2) (i := (rjMo V 10).1.toNat) (by rw [e]; exact g3) 10 (by omega)
    rw [Nat.testBit_eq_decide_div_mod_eq] at b
    exact rjPc_1 (of_decide_eq_true b) 10 (by omega)
theorem rjSv_z {V : Int → Int} (h : ∀ k : Int, V k = 0) : ∀ n : Nat, rjSv V n = 0
  | 0 => rfl
  | n + 1 => by
    show rjSv V n + V (n : Int) = 0
    rw [rjSv_z h n, h]
    rfl
theorem rjSv_up {V Y : Int → Int} {b : Int} (b0 : 0 ≤ b) (h : Y b = V b + 1) (g : ∀ c : Int, c ≠ b → Y c = V c) : ∀ n : Nat, rjSv Y n = rjSv V n + (if b < (n : Int) then 1 else 0)
  | 0 => by
    rw [if_neg (by omega)]
    rfl
  | n + 1 => by
    have e := rjSv_up b0 h g n
    show rjSv Y n + Y (n : Int) = rjSv V n + V (n : Int) + _
    by_cases c : b = (n : Int)
    · subst c
      rw [if_neg (by omega)] at e
      rw [if_pos (by omega), h, e]
      omega
    · rw [g (n : Int) (fun z => c z.symm)]
      by_cases d : b < (n : Int)
      · rw [if_pos d] at e
        rw [if_pos (by omega)]
        omega
      · rw [if_neg d] at e
        rw [if_neg (by omega)]
        omega
/-- what the votes of a rule come to -/
theorem rjMo_12 {V : Int → Int} (h : ∀ k : Int, 0 ≤ k → k < 10 → 0 ≤ V k ∧ V k ≤ 12) : 0 ≤ (rjMo V 10).2 ∧ (rjMo V 10).2 ≤ 12 := by
  rcases (rjMo_p V 10).2 with g | ⟨g0, g1, g2, g3, g4⟩
  · omega
  · have a := h (rjMo V 10).1 g0 (by omega)
    omega
theorem rjOs_b {V : Int → Int → Int} (h : ∀ r b : Int, 0 ≤ b → b < 10 → 0 ≤ V r b ∧ V r b ≤ 12) : ∀ n : Nat, (-(12 * (n : Int)) ≤ (rjOs V n).1 ∧ (rjOs V n).1 ≤ 120 * (n : Int)) ∧ 1 ≤ (rjOs V n).2 ∧ (rjOs V n).2 ≤ 1000000000000000000
  | 0 => by
    show (-(12 * ((0 : Nat) : Int)) ≤ (0 : Int) ∧ (0 : Int) ≤ 120 * ((0 : Nat) : Int)) ∧ (1 : Int) ≤ 1 ∧ (1 : Int) ≤ 1000000000000000000
    omega
  | n + 1 => by
    obtain ⟨⟨a, b⟩, c, d⟩ := rjOs_b h n
    by_cases z : (rjMo (V (n : Int)) 10).2 = 0
    · rw [rjOs_n (s := (rjOs V n).1) (w := (rjOs V n).2) rfl rfl z]
      omega
    · rw [rjOs_y (s := (rjOs V n).1) (w := (rjOs V n).2) rfl rfl z]
      have m := rjMo_12 (V := V (n : Int)) fun k k0 k1 => h _ k k0 k1
      have q := rjSv_b (V := V (n : Int)) (m := 12) (fun k k0 k1 => h _ k k0 k1) 10 (by omega)
      have p := rjPc_m z
      have t := rjTm_r (w := (rjOs V n).2) (m := ((rjPc (rjMb (V (n : Int)) (rjMo (V (n : Int)) 10).2 10) 10 : Nat) : Int)) c (by omega)
      refine ⟨?_, t⟩
      show -(12 * ((n + 1 : Nat) : Int)) ≤ (rjOs V n).1 + (rjSv (V (n : Int)) 10 - (rjMo (V (n : Int)) 10).2) ∧ (rjOs V n).1 + (rjSv (V (n : Int)) 10 - (rjMo (V (n : Int)) 10).2) ≤ 120 * ((n + 1 : Nat) : Int)
      omega
theorem rjOs_sn {V : Int → Int → Int} {W : Int → Int} {n : Nat} {r s w : Int} (h : rjOs V n = (s, w)) (hr : r = (n : Int)) (g : ∀ b : Int, 0 ≤ b → b < 10 → W b = V r b) (z : (rjMo W 10).2 = 0) : rjOs V (n + 1) = (s, w) :=
  rjOs_n h hr (by rw [← rjMo_cg (V := W) (Y := V r) (n := 10) fun k a b => g k a (by omega)]; exact z)
theorem rjOs_sy {V : Int → Int → Int} {W : Int → Int} {n : Nat} {r s w : Int} (h : rjOs V n = (s, w)) (hr : r = (n : Int)) (g : ∀ b : Int, 0 ≤ b → b < 10 → W b = V r b) (z : (rjMo W 10).2 ≠ 0) : rjOs V (n + 1) = (s + (rjSv W 10 - (rjMo W 10).2), rjTm w ((rjPc (rjMb W (rjMo W 10).2 10) 10 : Nat) : Int)) := by
  have e1 := rjMo_cg (V := W) (Y := V r) (n := 10) fun k a b => g k a (by omega)
  have e2 := rjSv_cg (V := W) (Y := V r) (n := 10) fun k a b => g k a (by omega)
  have e3 := rjMb_cg (V := W) (Y := V r) (m := (rjMo (V r) 10).2) (n := 10) fun k a b => g k a (by omega)
  rw [e1] at z
  rw [e1, e2, e3]
  exact rjOs_y h hr z
theorem rjSv_p {V : Int → Int} : ∀ n : Nat, 0 < rjSv V n → ∃ j : Int, 0 ≤ j ∧ j < (n : Int) ∧ 0 < V j
  | 0, h => absurd h (Int.lt_irrefl 0)
  | n + 1, h => by
    have h : 0 < rjSv V n + V (n : Int) := h
    by_cases c : 0 < rjSv V n
    · obtain ⟨j, a, b, d⟩ := rjSv_p n c
      exact ⟨j, a, by omega, d⟩
    · exact ⟨(n : Int), by omega, by omega, by omega⟩
theorem rjMo_v {V : Int → Int} (h : (rjMo V 10).1 ≠ -1) : V (rjMo V 10).1 = (rjMo V 10).2 ∧ (rjMo V 10).2 ≠ 0 := by
  rcases (rjMo_p V 10).2 with g | ⟨g0, g1, g2, g3, g4⟩
  · exact absurd g.1 h
  · exact ⟨g3, by omega⟩
theorem rjOr_y {V : Int → Int} (h : (rjMo V 10).1 ≠ -1) : rjOr V = ((rjMb V (rjMo V 10).2 10 : Nat) : Int) := by
  unfold rjOr
  rw [if_neg h]
theorem rjMo_s0 {V : Int → Int} (h : ∀ j : Int, 0 ≤ j → j < 10 → 0 ≤ V j) (g : rjSv V 10 ≤ 0) : (rjMo V 10).2 = 0 := by
  rcases (rjMo_p V 10).2 with z | ⟨g0, g1, g2, g3, g4⟩
  · exact z.2
  · exfalso
    have a : ∀ n : Nat, n ≤ 10 → 0 ≤ rjSv V n ∧ ((rjMo V 10).1 < (n : Int) → 0 < rjSv V n) := fun n => by
      induction n with
      | zero => exact fun _ => ⟨Int.le_refl 0, fun q => by omega⟩
      | succ n ih =>
        intro hn
        obtain ⟨b, c⟩ := ih (by omega)
        have v := h (n : Int) (by omega) (by omega)
        show 0 ≤ rjSv V n + V (n : Int) ∧ ((rjMo V 10).1 < ((n + 1 : Nat) : Int) → 0 < rjSv V n + V (n : Int))
        refine ⟨by omega, fun q => ?_⟩
        by_cases e : (rjMo V 10).1 = (n : Int)
        · rw [e] at g3
          omega
        · have := c (by omega)
          omega
    have := (a 10 (by omega)).2 g1
    omega
