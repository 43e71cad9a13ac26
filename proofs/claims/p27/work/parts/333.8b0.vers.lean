theorem rjSc_mv {R R_p : Int → Int} {b b_p : Int} (h : ∀ t : Int, 0 ≤ t → t < 36 → R (b + t) = R_p (b_p + t)) : rjSc R b = rjSc R_p b_p := funext fun t => by
  unfold rjSc
  by_cases c : 0 ≤ t ∧ t < 36
  · rw [if_pos c, if_pos c]
    exact h t c.1 c.2
  · rw [if_neg c, if_neg c]
theorem rjdRw_nw {S0 S : Nat → Int → Int} {pa n : Int} {f : Int → Int} (h : rjdRw S0 pa f) (g : ∀ t : Int, 0 ≤ t → t < 36 → S (42 + 3 * n).toNat t = S0 (24 + 3 * pa).toNat t ∧ S (43 + 3 * n).toNat t = S0 (25 + 3 * pa).toNat t) : rjdRw S (6 + n) f := fun t a b => by
  obtain ⟨h0, h1, h2⟩ := h t a b
  obtain ⟨g1, g2⟩ := g t a b
  refine ⟨h0, ?_, ?_⟩
  · rw [show 24 + 3 * (6 + n) = 42 + 3 * n by omega]
    exact g1.trans h1
  · rw [show 25 + 3 * (6 + n) = 43 + 3 * n by omega]
    exact g2.trans h2
section RJKG
variable {x : Bool} {S S_p : Nat → Int → Int} {ms : List (Nat × Nat)}
theorem rjdK_un (hs : bx_same rxL (bx_mdl ms) S S_p) (hk : rjdKr.all (fun q => !(bx_mdl ms q.1 q.2)) = true) (h : rjdK x S) (e0 : S_p 482 0 = S 482 0) (e2 : S_p 482 2 ≤ S 482 2) (ho : ∀ j : Int, 22 ≤ j → j < 238 → S_p 482 j = S 482 j) (hv : ∀ j : Int, 298 ≤ j → j < 730 → S_p 482 j = S 482 j) : rjdK x S_p := by
  have l : ∀ l_p : List (Nat × Nat), l_p.all (fun q => rjdKr.contains q) = true → l_p.all (fun q => !(bx_mdl ms q.1 q.2)) = true := fun l_p hl => rjdKl hk hl
  have es : rjdSm S S_p := rjdSm_sm hs (l _ (by decide))
  refine rjdK_u (rkPl_sm hs (l _ (by decide)) h.1.1) (rkDu_sm hs (l _ (by decide)) h.1.2) h ?_ (fun p t a _ c d => es p t a c d) (fun j a b => rx_same64 (rjdKf hk (a := 1064) (b := 0) (by decide)) (rjdKf hk (a := 1064) (b := 1) (by decide)) hs a b) (rjdK_kp hs (rjdKf hk (a := 1031) (b := 0) (by decide)) 0 (by decide)) (rjdK_kp hs (rjdKf hk (a := 1031) (b := 0) (by decide)) 1 (by decide))
  have hm := rjdKb_m (Or.inl rfl) h.2.1 es
  refine ⟨fun k c c6 => ?_, fun hx k c c12 => ?_⟩
  · rw [e0] at c
    rw [rjSc_cg (R := S 482) fun t t0 t1 => ho _ (by omega) (by omega)]
    exact hm.1 k c c6
  · rw [rjSc_cg (R := S 482) fun t t0 t1 => hv _ (by omega) (by omega)]
    exact hm.2 hx k (by omega) c12
end RJKG
noncomputable def rjPs (P C : Int → Int) : Nat → Int
  | 0 => 0
  | k + 1 => if rjPs P C k = -1 then -1 else if P (6 * rjPs P C k + C (k : Int)) = -1 then -1 else P (6 * rjPs P C k + C (k : Int)) % 6
noncomputable def rjPw (P C : Int → Int) (k : Nat) : Int := if rjPs P C k = -1 then 100 else if P (6 * rjPs P C k + C (k : Int)) = -1 then 100 else P (6 * rjPs P C k + C (k : Int)) / 6
section RJPS
variable {P Q C D : Int → Int} {k n : Nat} {s i : Int}
theorem rjPs_e (h : rjPs P C k = -1) : rjPs P C (k + 1) = -1 := if_pos h
theorem rjPs_h (hs : rjPs P C k = s) (hi : i = 6 * s + C (k : Int)) (h : s ≠ -1) (g : P i = -1) : rjPs P C (k + 1) = -1 ∧ rjPw P C k = 100 := by
  subst hs
  subst hi
  refine ⟨?_, ?_⟩
  · show (if rjPs P C k = -1 then -1 else _) = _
    rw [if_neg h, if_pos g]
  · unfold rjPw
    rw [if_neg h, if_pos g]
theorem rjPs_g (hs : rjPs P C k = s) (hi : i = 6 * s + C (k : Int)) (h : s ≠ -1) (g : P i ≠ -1) : rjPs P C (k + 1) = P i % 6 ∧ rjPw P C k = P i / 6 := by
  subst hs
  subst hi
  refine ⟨?_, ?_⟩
  · show (if rjPs P C k = -1 then -1 else _) = _
    rw [if_neg h, if_neg g]
  · unfold rjPw
    rw [if_neg h, if_neg g]
theorem rjPs_m (h : rjPs P C k = -1) : ∀ j : Nat, rjPs P C (k + j) = -1
  | 0 => h
  | j + 1 => rjPs_e (rjPs_m h j)
theorem rjPs_le (h : rjPs P C k = -1) (g : k ≤ n) : rjPs P C n = -1 := by
  have := rjPs_m h (n - k)
  rw [show k + (n - k) = n by omega] at this
  exact this
theorem rjPw_st (h : rjPs P C k = -1) : rjPw P C k = 100 := by
  unfold rjPw
  rw [if_pos h]
theorem rjPs_cg (hP : ∀ t : Int, 0 ≤ t → t < 36 → P t = Q t ∧ -1 ≤ P t ∧ P t ≤ 59) : ∀ {n : Nat}, (∀ k : Nat, k < n → C (k : Int) = D (k : Int) ∧ 0 ≤ C (k : Int) ∧ C (k : Int) ≤ 5) → rjPs P C n = rjPs Q D n ∧ -1 ≤ rjPs P C n ∧ rjPs P C n ≤ 5
  | 0, _ => by
    refine ⟨rfl, ?_⟩
    show (-1 : Int) ≤ 0 ∧ (0 : Int) ≤ 5
    omega
  | n + 1, hC => by
    obtain ⟨h, b0, b1⟩ := rjPs_cg hP (n := n) fun k hk => hC k (by omega)
    obtain ⟨c, c0, c1⟩ := hC n (by omega)
    by_cases e : rjPs P C n = -1
    · rw [rjPs_e e, rjPs_e (h.symm.trans e)]
      omega
    · obtain ⟨p, p0, p1⟩ := hP (6 * rjPs P C n + C (n : Int)) (by omega) (by omega)
      have p_p : Q (6 * rjPs Q D n + D (n : Int)) = P (6 * rjPs P C n + C (n : Int)) := by
        rw [← h, ← c]
        exact p.symm
      by_cases g : P (6 * rjPs P C n + C (n : Int)) = -1
      · rw [(rjPs_h rfl rfl e g).1, (rjPs_h (P := Q) (C := D) rfl rfl (fun z => e (h.trans z)) (p_p.trans g)).1]
        omega
      · rw [(rjPs_g rfl rfl e g).1, (rjPs_g (P := Q) (C := D) rfl rfl (fun z => e (h.trans z)) (fun z => g (p_p.symm.trans z))).1, p_p]
        omega
theorem rjPw_cg (hP : ∀ t : Int, 0 ≤ t → t < 36 → P t = Q t ∧ -1 ≤ P t ∧ P t ≤ 59) {k : Nat} (hC : ∀ j : Nat, j < k + 1 → C (j : Int) = D (j : Int) ∧ 0 ≤ C (j : Int) ∧ C (j : Int) ≤ 5) : rjPw P C k = rjPw Q D k := by
  obtain ⟨h, b0, b1⟩ := rjPs_cg hP (n := k) fun j hj => hC j (by omega)
  obtain ⟨c, c0, c1⟩ := hC k (by omega)
  by_cases e : rjPs P C k = -1
  · rw [rjPw_st e, rjPw_st (h.symm.trans e)]
  · obtain ⟨p, p0, p1⟩ := hP (6 * rjPs P C k + C (k : Int)) (by omega) (by omega)
    have p_p : Q (6 * rjPs Q D k + D (k : Int)) = P (6 * rjPs P C k + C (k : Int)) := by
      rw [← h, ← c]
      exact p.symm
    by_cases g : P (6 * rjPs P C k + C (k : Int)) = -1
    · rw [(rjPs_h rfl rfl e g).2, (rjPs_h (P := Q) (C := D) rfl rfl (fun z => e (h.trans z)) (p_p.trans g)).2]
    · rw [(rjPs_g rfl rfl e g).2, (rjPs_g (P := Q) (C := D) rfl rfl (fun z => e (h.trans z)) (fun z => g (p_p.symm.trans z))).2, p_p]
end RJPS
theorem rjPw_le {P C : Int → Int} {k n : Nat} (h : rjPs P C (k + 1) = -1) (g : rjPw P C k = 100) (l : k ≤ n) : rjPw P C n = 100 := by
  by_cases e : n = k
  · rw [e]
    exact g
  · exact rjPw_st (rjPs_le h (by omega))
section RJVB
variable {T U : Int → Bool} {W X V Y : Int → Int} {n : Nat} {k w b m : Int}
end RJVB
noncomputable def rjdQs (S : Nat → Int → Int) (Q : Int → Int → Int) : Prop := ∀ vs : Int, 0 ≤ vs → vs < S 1 5 → rjdRw S (6 + vs) (Q vs)
theorem rjIn_r {S : Nat → Int → Int} (h : bx_Inv rxL S) {p n : Nat} {lo hi : Int} (hk : ∀ i : Fin n, rxL.2.2.1 p (i.1 : Int) = (0, lo, hi)) (hp : p < 522) (hw : bx_wd (rxL.1 p) = n) {j : Int} (h0 : 0 ≤ j) (h1 : j < (n : Int)) : lo ≤ S p j ∧ S p j ≤ hi := by
  have q : rxL.2.2.1 p ((j.toNat : Nat) : Int) = (0, lo, hi) := hk ⟨j.toNat, by omega⟩
  rw [show ((j.toNat : Nat) : Int) = j by omega] at q
  exact rx_inv h hp hw h0 h1 q
section RJOS
variable {V Y : Int → Int → Int} {n : Nat} {r s w : Int}
end RJOS