/-! A PLAY'S CLAUSE: what the reference keeps of it -/
def rkPw (x : Int) : Int := if x = 6 then -1 else x
section RJTR
variable {F : Int → Int → Int → (Int → Int) → (Int → Int) → Int → Int → Int → Int → Int → Prop} {a b c a' b_p c' v u w m k v' u' w' m' k' : Int} {o r o' r_p : Int → Int}
theorem rj_tr (h : F a b c o r v u w m k) (ea : a' = a) (eb : b_p = b) (ec : c' = c) (eo : o' = o) (er : r_p = r) (ev : v' = v) (eu : u' = u) (ew : w' = w) (em : m' = m) (ek : k' = k) : F a' b_p c' o' r_p v' u' w' m' k' := by
  subst ea eb ec eo er ev eu ew em ek
  exact h
end RJTR
def rjFm (S0 : Nat → Int → Int) (op ar : Int → Int) (m : Int) : Prop := ∀ i : Int, 0 ≤ i → i < m → op i = S0 487 i ∧ ar i = S0 488 i
def rjGz (op ar : Int → Int) (a e : Int) : Option rkC → Prop
  | none => e = a
  | some d => 0 ≤ a ∧ 0 < rkM d ∧ e = a + rkM d ∧ rkW d ∧ ∀ i : Int, 0 ≤ i → i < rkM d → op (a + i) = rkFo d i ∧ ar (a + i) = rkAi a (rkFo d i) (rkFa d i)
theorem rjFm_tr {S0 : Nat → Int → Int} {op ar op' ar' : Int → Int} {m M : Int} (h : rjFm S0 op ar m) (f : ∀ i : Int, 0 ≤ i → i < M → op' i = op i ∧ ar' i = ar i) (b : m ≤ M) : rjFm S0 op' ar' m := fun i x y => ⟨(f i x (by omega)).1.trans (h i x y).1, (f i x (by omega)).2.trans (h i x y).2⟩
theorem rjGz_fr {op ar op' ar' : Int → Int} {a e M : Int} {o : Option rkC} (h : rjGz op ar a e o) (f : ∀ i : Int, 0 ≤ i → i < M → op' i = op i ∧ ar' i = ar i) (b : e ≤ M) : rjGz op' ar' a e o := by
  cases o with
  | none => exact h
  | some d =>
    obtain ⟨h0, h1, h2, h3, h4⟩ := h
    refine ⟨h0, h1, h2, h3, fun i p q => ?_⟩
    obtain ⟨f1, f2⟩ := f (a + i) (by omega) (by omega)
    rw [f1, f2]
    exact h4 i p q
theorem rjGz_mo {S : Nat → Int → Int} {b : Int} {d : rkC} (h : rkMo S b d) (hp : 0 < rkM d) (hw : rkW d) : rjGz (S 487) (S 488) b (S 480 18) (some d) := ⟨h.1, hp, h.2.2.1, hw, h.2.2.2⟩
/-- kind and places of a play's clause -/
def rjRg (q : rkQ) : Prop := (q.1 = 3 ∨ q.1 = 4) ∧ (0 ≤ q.2.1 ∧ q.2.1 ≤ 6) ∧ 0 ≤ q.2.2.1 ∧ q.2.2.1 ≤ 6
theorem rzPv_r {T : Int → Int} {n f : Int} (h : rzPlc T n f = true) : 0 ≤ rzPv T n f ∧ rzPv T n f ≤ 6 := by
  rw [rzPlc_v] at h
  refine ⟨of_decide_eq_true h, ?_⟩
  unfold rzPv
  split
  · omega
  · split <;> omega
/-- a play's clause k -/
def rjCp (S : Nat → Int → Int) (k : Int) (q : rkQ) : Prop := S 496 (10 * k) = rkPw q.2.1 ∧ S 496 (10 * k + 1) = rkPw q.2.2.1 ∧ S 496 (10 * k + 2) = (if q.1 = 4 then 1 else 0) ∧ rjRg q ∧ rjGz (S 487) (S 488) (S 496 (10 * k + 3)) (S 496 (10 * k + 4)) q.2.2.2.1 ∧ rjGz (S 487) (S 488) (S 496 (10 * k + 4)) (S 496 (10 * k + 5)) q.2.2.2.2.1 ∧ rjGz (S 487) (S 488) (S 496 (10 * k + 5)) (S 496 (10 * k + 6)) q.2.2.2.2.2
def rjF1 (S0 : Nat → Int → Int) : Int := rzN (rzCut (S0 485)) (S0 480 8) ((S0 480 9))
def rjF2 (S0 : Nat → Int → Int) : Int := rzN (rzCut (S0 485)) (S0 480 8) (rjF1 S0)
def rjF3 (S0 : Nat → Int → Int) : Int := rzN (rzCut (S0 485)) (S0 480 8) (rjF2 S0)
def rjF4 (S0 : Nat → Int → Int) : Int := rzN (rzCut (S0 485)) (S0 480 8) (rjF3 S0)
def rjF5 (S0 : Nat → Int → Int) : Int := rzN (rzCut (S0 485)) (S0 480 8) (rjF4 S0)
def rjK (S0 : Nat → Int → Int) (t21 t18 : Int) (op ar : Int → Int) : Prop := t21 = S0 480 21 ∧ t18 = S0 480 18 ∧ rjFm S0 op ar (S0 480 18)
def rjA (S0 : Nat → Int → Int) : Prop := rzIs (rzCut (S0 485)) (S0 480 8) rzW_in ((S0 480 9)) = true ∧ rzPlc (rzCut (S0 485)) (S0 480 8) (rjF1 S0) = true ∧ rzIs (rzCut (S0 485)) (S0 480 8) rzW_at (rjF2 S0) = true ∧ rzPlc (rzCut (S0 485)) (S0 480 8) (rjF3 S0) = true
def rjY1 (S0 : Nat → Int → Int) (t9 t21 t18 : Int) (op ar : Int → Int) (v u w m k : Int) : Prop := rzIs (rzCut (S0 485)) (S0 480 8) rzW_in ((S0 480 9)) = true ∧ t9 = rjF1 S0 ∧ rjK S0 t21 t18 op ar ∧ v = v ∧ u = u ∧ w = w ∧ m = m ∧ k = k
def rjY2 (S0 : Nat → Int → Int) (t9 t21 t18 : Int) (op ar : Int → Int) (v u w m k : Int) : Prop := (rzIs (rzCut (S0 485)) (S0 480 8) rzW_in ((S0 480 9)) = true ∧ rzPlc (rzCut (S0 485)) (S0 480 8) (rjF1 S0) = true) ∧ t9 = rjF2 S0 ∧ v = rkPw (rzPv (rzCut (S0 485)) (S0 480 8) (rjF1 S0)) ∧ rjK S0 t21 t18 op ar ∧ u = u ∧ w = w ∧ m = m ∧ k = k
def rjY3 (S0 : Nat → Int → Int) (t9 t21 t18 : Int) (op ar : Int → Int) (v u w m k : Int) : Prop := (rzIs (rzCut (S0 485)) (S0 480 8) rzW_in ((S0 480 9)) = true ∧ rzPlc (rzCut (S0 485)) (S0 480 8) (rjF1 S0) = true ∧ rzIs (rzCut (S0 485)) (S0 480 8) rzW_at (rjF2 S0) = true) ∧ t9 = rjF3 S0 ∧ v = rkPw (rzPv (rzCut (S0 485)) (S0 480 8) (rjF1 S0)) ∧ rjK S0 t21 t18 op ar ∧ u = u ∧ w = w ∧ m = m ∧ k = k
def rjY4 (S0 : Nat → Int → Int) (t9 t21 t18 : Int) (op ar : Int → Int) (v u w m k : Int) : Prop := rjA S0 ∧ t9 = rjF4 S0 ∧ v = rkPw (rzPv (rzCut (S0 485)) (S0 480 8) (rjF1 S0)) ∧ u = rkPw (rzPv (rzCut (S0 485)) (S0 480 8) (rjF3 S0)) ∧ rjK S0 t21 t18 op ar ∧ w = w ∧ m = m ∧ k = k
def rjY5 (S0 : Nat → Int → Int) (t9 t21 t18 : Int) (op ar : Int → Int) (v u w m k : Int) : Prop := rjA S0 ∧ t9 = rjF5 S0 ∧ v = rkPw (rzPv (rzCut (S0 485)) (S0 480 8) (rjF1 S0)) ∧ u = rkPw (rzPv (rzCut (S0 485)) (S0 480 8) (rjF3 S0)) ∧ rjK S0 t21 t18 op ar ∧ ((w = 1 ∧ rzIs (rzCut (S0 485)) (S0 480 8) rzW_hush (rjF4 S0) = true) ∨ (w = 0 ∧ rzIs (rzCut (S0 485)) (S0 480 8) rzW_hush (rjF4 S0) = false ∧ rzIs (rzCut (S0 485)) (S0 480 8) rzW_say (rjF4 S0) = true)) ∧ m = m ∧ k = k
def rjY6 (S0 : Nat → Int → Int) (t9 t21 t18 : Int) (op ar : Int → Int) (v u w m k : Int) : Prop := rjA S0 ∧ v = rkPw (rzPv (rzCut (S0 485)) (S0 480 8) (rjF1 S0)) ∧ u = rkPw (rzPv (rzCut (S0 485)) (S0 480 8) (rjF3 S0)) ∧ rjFm S0 op ar (S0 480 18) ∧ ((w = 1 ∧ rzIs (rzCut (S0 485)) (S0 480 8) rzW_hush (rjF4 S0) = true ∧ t9 = rjF5 S0 ∧ t21 = S0 480 21 ∧ t18 = S0 480 18) ∨ (w = 0 ∧ (rzIs (rzCut (S0 485)) (S0 480 8) rzW_hush (rjF4 S0) = false ∧ rzIs (rzCut (S0 485)) (S0 480 8) rzW_say (rjF4 S0) = true) ∧ ∃ (r : rzR) (d : rkC), (rzEx (rzCut (S0 485)) (S0 480 8) rzPn 0 (rjF5 S0) (S0 480 21) r ∧ r.1 = true ∧ rkEx (rzCut (S0 485)) (S0 480 8) rzPn 0 (rjF5 S0) (S0 480 21) d) ∧ t9 = r.2.1 ∧ t21 = r.2.2 ∧ rjGz op ar (S0 480 18) t18 (some d))) ∧ m = m ∧ k = k
def rjY7 (S0 : Nat → Int → Int) (t9 t21 t18 : Int) (op ar : Int → Int) (v u w m k : Int) : Prop := rjA S0 ∧ v = rkPw (rzPv (rzCut (S0 485)) (S0 480 8) (rjF1 S0)) ∧ u = rkPw (rzPv (rzCut (S0 485)) (S0 480 8) (rjF3 S0)) ∧ rjFm S0 op ar (S0 480 18) ∧ w = 0 ∧ (rzIs (rzCut (S0 485)) (S0 480 8) rzW_hush (rjF4 S0) = false ∧ rzIs (rzCut (S0 485)) (S0 480 8) rzW_say (rjF4 S0) = true) ∧ (∃ (r : rzR) (d : rkC), (rzEx (rzCut (S0 485)) (S0 480 8) rzPn 0 (rjF5 S0) (S0 480 21) r ∧ r.1 = true ∧ rkEx (rzCut (S0 485)) (S0 480 8) rzPn 0 (rjF5 S0) (S0 480 21) d) ∧ rzIs (rzCut (S0 485)) (S0 480 8) rzW_go r.2.1 = true ∧ t9 = rzN (rzCut (S0 485)) (S0 480 8) r.2.1 ∧ t21 = r.2.2 ∧ rjGz op ar (S0 480 18) t18 (some d)) ∧ m = m ∧ k = k
def rjHq (S0 : Nat → Int → Int) (q : rkQ) (r : rzR) : Prop := rzPH (rzCut (S0 485)) (S0 480 8) rzPn (S0 480 9) (S0 480 21) r ∧ r.1 = true ∧ rkPH (rzCut (S0 485)) (S0 480 8) rzPn (S0 480 9) (S0 480 21) q
def rjYH (S0 : Nat → Int → Int) (t9 t21 t18 : Int) (op ar : Int → Int) (v u w m k : Int) : Prop := ∃ (q : rkQ) (r : rzR), rjHq S0 q r ∧ t9 = r.2.1 ∧ t21 = r.2.2 ∧ (v = rkPw q.2.1 ∧ u = rkPw q.2.2.1 ∧ w = (if q.1 = 4 then 1 else 0) ∧ rjRg q) ∧ (rjGz op ar (S0 480 18) m q.2.2.2.1 ∧ rjGz op ar m t18 q.2.2.2.2.1) ∧ rjFm S0 op ar (S0 480 18) ∧ k = k
def rjYI (S0 : Nat → Int → Int) (t9 t21 t18 : Int) (op ar : Int → Int) (v u w m k : Int) : Prop := ∃ (q : rkQ) (r : rzR), rjHq S0 q r ∧ rzIs (rzCut (S0 485)) (S0 480 8) rzW_if r.2.1 = true ∧ t9 = rzN (rzCut (S0 485)) (S0 480 8) r.2.1 ∧ t21 = r.2.2 ∧ (v = rkPw q.2.1 ∧ u = rkPw q.2.2.1 ∧ w = (if q.1 = 4 then 1 else 0) ∧ rjRg q) ∧ (rjGz op ar (S0 480 18) m q.2.2.2.1 ∧ rjGz op ar m t18 q.2.2.2.2.1) ∧ rjFm S0 op ar (S0 480 18) ∧ k = k
def rjYJ (S0 : Nat → Int → Int) (t9 t21 t18 : Int) (op ar : Int → Int) (v u w m k : Int) : Prop := ∃ (q : rkQ) (r : rzR) (t : Option rkC), rjHq S0 q r ∧ rkIf (rzCut (S0 485)) (S0 480 8) rzPn r.2.1 r.2.2 t ∧ (v = rkPw q.2.1 ∧ u = rkPw q.2.2.1 ∧ w = (if q.1 = 4 then 1 else 0) ∧ rjRg q) ∧ (rjGz op ar (S0 480 18) m q.2.2.2.1 ∧ rjGz op ar m k q.2.2.2.2.1) ∧ rjGz op ar k t18 t ∧ rjFm S0 op ar (S0 480 18) ∧ t9 = t9 ∧ t21 = t21
def rjYZ (S0 S : Nat → Int → Int) : Prop := ∃ (q : rkQ) (r : rzR) (t : Option rkC), rjHq S0 q r ∧ rkIf (rzCut (S0 485)) (S0 480 8) rzPn r.2.1 r.2.2 t ∧ rjCp S (S0 480 16) (q.1, q.2.1, q.2.2.1, q.2.2.2.1, q.2.2.2.2.1, t) ∧ rjFm S0 (S 487) (S 488) (S0 480 18) ∧ ∀ j : Int, 0 ≤ j → j < 10 * S0 480 16 → S 496 j = S0 496 j
theorem rjY2_of {S0 S S_p : Nat → Int → Int} {v : Int} (h : rjY1 S0 (S 480 9) (S 480 21) (S 480 18) (S 487) (S 488) 0 0 0 0 0) (a : rzKr S0 S) (p : rzPlc (rzCut (S 485)) (S 480 8) (S 480 9) = true) (e9 : S_p 480 9 = rzN (rzCut (S 485)) (S 480 8) (S 480 9)) (e21 : S_p 480 21 = S 480 21) (e18 : S_p 480 18 = S 480 18) (ev : v = rkPw (rzPv (rzCut (S 485)) (S 480 8) (S 480 9))) (fm : ∀ i : Int, 0 ≤ i → i < 400 → S_p 487 i = S 487 i ∧ S_p 488 i = S 488 i) (b0 : S0 480 18 ≤ 400) : rjY2 S0 (S_p 480 9) (S_p 480 21) (S_p 480 18) (S_p 487) (S_p 488) v 0 0 0 0 := by
  obtain ⟨h1, h2, ⟨h3, h4, h5⟩, -⟩ := h
  rw [a.1, a.2.1, h2] at p e9 ev
  exact ⟨⟨h1, p⟩, e9, ev, ⟨e21.trans h3, e18.trans h4, rjFm_tr h5 fm b0⟩, rfl, rfl, rfl, rfl⟩
theorem rjY3_of {S0 S S_p : Nat → Int → Int} {v : Int} (h : rjY2 S0 (S 480 9) (S 480 21) (S 480 18) (S 487) (S 488) v 0 0 0 0) (a : rzKr S0 S) (p : rzIs (rzCut (S 485)) (S 480 8) rzW_at (S 480 9) = true) (e9 : S_p 480 9 = rzN (rzCut (S 485)) (S 480 8) (S 480 9)) (e21 : S_p 480 21 = S 480 21) (e18 : S_p 480 18 = S 480 18) (fm : ∀ i : Int, 0 ≤ i → i < 400 → S_p 487 i = S 487 i ∧ S_p 488 i = S 488 i) (b0 : S0 480 18 ≤ 400) : rjY3 S0 (S_p 480 9) (S_p 480 21) (S_p 480 18) (S_p 487) (S_p 488) v 0 0 0 0 := by
  obtain ⟨⟨h0, h1⟩, h2, hv, ⟨h3, h4, h5⟩, -⟩ := h
  rw [a.1, a.2.1, h2] at p e9
  exact ⟨⟨h0, h1, p⟩, e9, hv, ⟨e21.trans h3, e18.trans h4, rjFm_tr h5 fm b0⟩, rfl, rfl, rfl, rfl⟩
theorem rjY4_of {S0 S S_p : Nat → Int → Int} {v u : Int} (h : rjY3 S0 (S 480 9) (S 480 21) (S 480 18) (S 487) (S 488) v 0 0 0 0) (a : rzKr S0 S) (p : rzPlc (rzCut (S 485)) (S 480 8) (S 480 9) = true) (e9 : S_p 480 9 = rzN (rzCut (S 485)) (S 480 8) (S 480 9)) (e21 : S_p 480 21 = S 480 21) (e18 : S_p 480 18 = S 480 18) (ev : u = rkPw (rzPv (rzCut (S 485)) (S 480 8) (S 480 9))) (fm : ∀ i : Int, 0 ≤ i → i < 400 → S_p 487 i = S 487 i ∧ S_p 488 i = S 488 i) (b0 : S0 480 18 ≤ 400) : rjY4 S0 (S_p 480 9) (S_p 480 21) (S_p 480 18) (S_p 487) (S_p 488) v u 0 0 0 := by
  obtain ⟨⟨h0, h1, hat⟩, h2, hv, ⟨h3, h4, h5⟩, -⟩ := h
  rw [a.1, a.2.1, h2] at p e9 ev
  exact ⟨⟨h0, h1, hat, p⟩, e9, hv, ev, ⟨e21.trans h3, e18.trans h4, rjFm_tr h5 fm b0⟩, rfl, rfl, rfl⟩
theorem rjY5_of {S0 S S_p : Nat → Int → Int} {v u w : Int} (h : rjY4 S0 (S 480 9) (S 480 21) (S 480 18) (S 487) (S 488) v u 0 0 0) (a : rzKr S0 S) (p : (w = 1 ∧ rzIs (rzCut (S 485)) (S 480 8) rzW_hush (S 480 9) = true) ∨ (w = 0 ∧ rzIs (rzCut (S 485)) (S 480 8) rzW_hush (S 480 9) = false ∧ rzIs (rzCut (S 485)) (S 480 8) rzW_say (S 480 9) = true)) (e9 : S_p 480 9 = rzN (rzCut (S 485)) (S 480 8) (S 480 9)) (e21 : S_p 480 21 = S 480 21) (e18 : S_p 480 18 = S 480 18) (fm : ∀ i : Int, 0 ≤ i → i < 400 → S_p 487 i = S 487 i ∧ S_p 488 i = S 488 i) (b0 : S0 480 18 ≤ 400) : rjY5 S0 (S_p 480 9) (S_p 480 21) (S_p 480 18) (S_p 487) (S_p 488) v u w 0 0 := by
  obtain ⟨hA, h2, hv, hu, ⟨h3, h4, h5⟩, -⟩ := h
  rw [a.1, a.2.1, h2] at p e9
  exact ⟨hA, e9, hv, hu, ⟨e21.trans h3, e18.trans h4, rjFm_tr h5 fm b0⟩, p, rfl, rfl⟩
theorem rjY6_h {S0 S : Nat → Int → Int} {v u w : Int} (h : rjY5 S0 (S 480 9) (S 480 21) (S 480 18) (S 487) (S 488) v u w 0 0) (hw : w = 1) : rjY6 S0 (S 480 9) (S 480 21) (S 480 18) (S 487) (S 488) v u w 0 0 := by
  obtain ⟨hA, h2, hv, hu, ⟨h3, h4, h5⟩, hp, -⟩ := h
  rcases hp with p | p
  · exact ⟨hA, hv, hu, h5, Or.inl ⟨p.1, p.2, h2, h3, h4⟩, rfl, rfl⟩
  · have := p.1
    omega
theorem rjY6_ex {S0 S S_p : Nat → Int → Int} {v u w : Int} (hW : rzWr S0 = rzPn) (a : rzKr S0 S) (h : rjY5 S0 (S 480 9) (S 480 21) (S 480 18) (S 487) (S 488) v u w 0 0) (hw : w = 0) (x : rzXo S S_p 0) (y : rkEm S S_p 0) (z : S_p 480 14 = 0) : rjY6 S0 (S_p 480 9) (S_p 480 21) (S_p 480 18) (S_p 487) (S_p 488) v u w 0 0 := by
  obtain ⟨hA, h2, hv, hu, ⟨h3, h4, h5⟩, hp, -⟩ := h
  unfold rzXo at x
  unfold rkEm at y
  rw [a.1, a.2.1, a.w, hW, h2, h3] at x y
  obtain ⟨-, -, r, r1, r2, r3, r4⟩ := x.1 z
  obtain ⟨f, d, d1, d2, d3⟩ := y z
  rw [h4] at f d3
  have gz := rjGz_mo d3 (rkEx_pos d1) d2
  rcases hp with p | p
  · have := p.1
    omega
  · exact ⟨hA, hv, hu, rjFm_tr h5 f (Int.le_refl _), Or.inr ⟨hw, p.2, r, d, ⟨r1, r2, d1⟩, r3, r4, gz⟩, rfl, rfl⟩
theorem rjYH_h {S0 S : Nat → Int → Int} {v u w m : Int} (h : rjY6 S0 (S 480 9) (S 480 21) (S 480 18) (S 487) (S 488) v u w 0 0) (hw : w = 1) (em : m = S 480 18) : rjYH S0 (S 480 9) (S 480 21) (S 480 18) (S 487) (S 488) v u w m 0 := by
  obtain ⟨hA, hv, hu, hf, hp, -⟩ := h
  rcases hp with ⟨-, p, h2, h3, h4⟩ | p
  · exact ⟨(4, rzPv (rzCut (S0 485)) (S0 480 8) (rjF1 S0), rzPv (rzCut (S0 485)) (S0 480 8) (rjF3 S0), none, none, none), (true, rjF5 S0, (S0 480 21)), ⟨rzAlt_y hA.1 (rzAlt_y hA.2.1 (rzAlt_y hA.2.2.1 (rzAlt_y hA.2.2.2 (rzAlt_y p rfl)))), rfl, ⟨_, _, _, _, rfl, rfl, rfl, rfl, rzAlt_y p rfl⟩⟩, h2, h3, ⟨hv, hu, hw.trans (if_pos rfl).symm, ⟨Or.inr rfl, rzPv_r hA.2.1, rzPv_r hA.2.2.2⟩⟩, ⟨em.trans h4, em.symm⟩, hf, rfl⟩
  · have := p.1
    omega
theorem rjYH_ng {S0 S : Nat → Int → Int} {v u w m : Int} (h : rjY6 S0 (S 480 9) (S 480 21) (S 480 18) (S 487) (S 488) v u w 0 0) (hw : w = 0) (a : rzKr S0 S) (p : rzIs (rzCut (S0 485)) (S0 480 8) rzW_go (S 480 9) = false) (em : m = S 480 18) : rjYH S0 (S 480 9) (S 480 21) (S 480 18) (S 487) (S 488) v u w m 0 := by
  obtain ⟨hA, hv, hu, hf, hp, -⟩ := h
  rcases hp with q | ⟨-, ⟨g1, g2⟩, r, d, ⟨r1, r2, d1⟩, h2, h3, gz⟩
  · have := q.1
    omega
  · rw [h2] at p
    refine ⟨(3, rzPv (rzCut (S0 485)) (S0 480 8) (rjF1 S0), rzPv (rzCut (S0 485)) (S0 480 8) (rjF3 S0), some d, none, none), (true, r.2.1, r.2.2), ⟨rzAlt_y hA.1 (rzAlt_y hA.2.1 (rzAlt_y hA.2.2.1 (rzAlt_y hA.2.2.2 (rzAlt_n g1 (rzAlt_y g2 ⟨r, r1, Or.inr ⟨r2, rzAlt_n p rfl⟩⟩))))), rfl, ⟨_, _, _, _, rfl, rfl, rfl, rfl, rzAlt_n g1 ⟨d, r, none, d1, r1, rzAlt_n p rfl, rfl⟩⟩⟩, h2, h3, ⟨hv, hu, hw.trans (if_neg (show ¬ ((3 : Int) = 4) by decide)).symm, ⟨Or.inl rfl, rzPv_r hA.2.1, rzPv_r hA.2.2.2⟩⟩, ⟨?_, em.symm⟩, hf, rfl⟩
    rw [em]
    exact gz
theorem rjY7_of {S0 S S_p : Nat → Int → Int} {v u w : Int} (h : rjY6 S0 (S 480 9) (S 480 21) (S 480 18) (S 487) (S 488) v u w 0 0) (hw : w = 0) (a : rzKr S0 S) (p : rzIs (rzCut (S 485)) (S 480 8) rzW_go (S 480 9) = true) (e9 : S_p 480 9 = rzN (rzCut (S 485)) (S 480 8) (S 480 9)) (e21 : S_p 480 21 = S 480 21) (e18 : S_p 480 18 = S 480 18) (b18 : S 480 18 ≤ 400) (fm : ∀ i : Int, 0 ≤ i → i < 400 → S_p 487 i = S 487 i ∧ S_p 488 i = S 488 i) (b0 : S0 480 18 ≤ 400) : rjY7 S0 (S_p 480 9) (S_p 480 21) (S_p 480 18) (S_p 487) (S_p 488) v u w 0 0 := by
  obtain ⟨hA, hv, hu, hf, hp, -⟩ := h
  rcases hp with q | ⟨-, g, r, d, hr, h2, h3, gz⟩
  · have := q.1
    omega
  · rw [a.1, a.2.1, h2] at p e9
    refine ⟨hA, hv, hu, rjFm_tr hf fm b0, hw, g, ⟨r, d, hr, p, e9, e21.trans h3, ?_⟩, rfl, rfl⟩
    rw [e18]
    exact rjGz_fr gz fm b18
theorem rjYH_go {S0 S S_p : Nat → Int → Int} {v u w m : Int} (hW : rzWr S0 = rzPn) (a : rzKr S0 S) (h : rjY7 S0 (S 480 9) (S 480 21) (S 480 18) (S 487) (S 488) v u w 0 0) (x : rzXo S S_p 0) (y : rkEm S S_p 0) (z : S_p 480 14 = 0) (em : m = S 480 18) (b18 : S0 480 18 ≤ S 480 18) : rjYH S0 (S_p 480 9) (S_p 480 21) (S_p 480 18) (S_p 487) (S_p 488) v u w m 0 := by
  obtain ⟨hA, hv, hu, hf, hw, ⟨g1, g2⟩, ⟨r, d, ⟨r1, r2, d1⟩, p, h2, h3, gz⟩, -⟩ := h
  unfold rzXo at x
  unfold rkEm at y
  rw [a.1, a.2.1, a.w, hW, h2, h3] at x y
  obtain ⟨-, -, s, s1, s2, s3, s4⟩ := x.1 z
  obtain ⟨f, e, e1, e2, e3⟩ := y z
  have gz2 := rjGz_mo e3 (rkEx_pos e1) e2
  refine ⟨(3, rzPv (rzCut (S0 485)) (S0 480 8) (rjF1 S0), rzPv (rzCut (S0 485)) (S0 480 8) (rjF3 S0), some d, some e, none), s, ⟨rzAlt_y hA.1 (rzAlt_y hA.2.1 (rzAlt_y hA.2.2.1 (rzAlt_y hA.2.2.2 (rzAlt_n g1 (rzAlt_y g2 ⟨r, r1, Or.inr ⟨r2, rzAlt_y p s1⟩⟩))))), s2, ⟨_, _, _, _, rfl, rfl, rfl, rfl, rzAlt_n g1 ⟨d, r, some e, d1, r1, rzAlt_y p ⟨e, e1, rfl⟩, rfl⟩⟩⟩, s3, s4, ⟨hv, hu, hw.trans (if_neg (show ¬ ((3 : Int) = 4) by decide)).symm, ⟨Or.inl rfl, rzPv_r hA.2.1, rzPv_r hA.2.2.2⟩⟩, ⟨?_, ?_⟩, rjFm_tr hf f b18, rfl⟩
  · rw [em]
    exact rjGz_fr gz f (Int.le_refl _)
  · rw [em]
    exact gz2
theorem rjYI_of {S0 S S_p : Nat → Int → Int} {v u w m : Int} (h : rjYH S0 (S 480 9) (S 480 21) (S 480 18) (S 487) (S 488) v u w m 0) (a : rzKr S0 S) (p : rzIs (rzCut (S 485)) (S 480 8) rzW_if (S 480 9) = true) (e9 : S_p 480 9 = rzN (rzCut (S 485)) (S 480 8) (S 480 9)) (e21 : S_p 480 21 = S 480 21) (e18 : S_p 480 18 = S 480 18) (b18 : S 480 18 ≤ 400) (bm : m ≤ 400) (fm : ∀ i : Int, 0 ≤ i → i < 400 → S_p 487 i = S 487 i ∧ S_p 488 i = S 488 i) (b0 : S0 480 18 ≤ 400) : rjYI S0 (S_p 480 9) (S_p 480 21) (S_p 480 18) (S_p 487) (S_p 488) v u w m 0 := by
  obtain ⟨q, r, hq, h2, h3, he, ⟨g1, g2⟩, hf, -⟩ := h
  rw [a.1, a.2.1, h2] at p e9
  refine ⟨q, r, hq, p, e9, e21.trans h3, he, ⟨rjGz_fr g1 fm bm, ?_⟩, rjFm_tr hf fm b0, rfl⟩
  rw [e18]
  exact rjGz_fr g2 fm b18
theorem rjYJ_no {S0 S : Nat → Int → Int} {v u w m k : Int} (h : rjYH S0 (S 480 9) (S 480 21) (S 480 18) (S 487) (S 488) v u w m 0) (p : rzIs (rzCut (S0 485)) (S0 480 8) rzW_if (S 480 9) = false) (ek : k = S 480 18) : rjYJ S0 (S 480 9) (S 480 21) (S 480 18) (S 487) (S 488) v u w m k := by
  obtain ⟨q, r, hq, h2, h3, he, ⟨g1, g2⟩, hf, -⟩ := h
  rw [h2] at p
  refine ⟨q, r, none, hq, rzAlt_n p rfl, he, ⟨g1, ?_⟩, ek.symm, hf, rfl, rfl⟩
  rw [ek]
  exact g2
theorem rjYJ_ex {S0 S S_p : Nat → Int → Int} {v u w m k : Int} (hW : rzWr S0 = rzPn) (a : rzKr S0 S) (h : rjYI S0 (S 480 9) (S 480 21) (S 480 18) (S 487) (S 488) v u w m 0) (y : rkEm S S_p 1) (z : S_p 480 14 = 0) (ek : k = S 480 18) (bm : m ≤ S 480 18) (b18 : S0 480 18 ≤ S 480 18) : rjYJ S0 (S_p 480 9) (S_p 480 21) (S_p 480 18) (S_p 487) (S_p 488) v u w m k := by
  obtain ⟨q, r, hq, p, h2, h3, he, ⟨g1, g2⟩, hf, -⟩ := h
  unfold rkEm at y
  rw [a.1, a.2.1, a.w, hW, h2, h3] at y
  obtain ⟨f, d, d1, d2, d3⟩ := y z
  have gz := rjGz_mo d3 (rkEx_pos d1) d2
  refine ⟨q, r, some d, hq, rzAlt_y p ⟨d, d1, rfl⟩, he, ⟨rjGz_fr g1 f bm, ?_⟩, ?_, rjFm_tr hf f b18, rfl, rfl⟩
  · rw [ek]
    exact rjGz_fr g2 f (Int.le_refl _)
  · rw [ek]
    exact gz
theorem rjYZ_of {S0 S : Nat → Int → Int} {base dd : Int} (h : rjYJ S0 (S 480 9) (S 480 21) (S 480 18) (S 487) (S 488) (S 496 base) (S 496 (base + 1)) dd (S 496 (base + 4)) (S 496 (base + 5))) (e2 : S 496 (base + 2) = dd) (e3 : S 496 (base + 3) = S0 480 18) (eb : base = 10 * S0 480 16) (hr : ∀ j : Int, 0 ≤ j → j < base → S 496 j = S0 496 j) : rjYZ S0 (bx_up S 496 (base + 6) (S 480 18)) := by
  obtain ⟨q, r, t, hq, ht, ⟨v1, v2, v3, v4⟩, ⟨g1, g2⟩, g3, hf, -⟩ := h
  have g : ∀ j : Int, j ≠ base + 6 → bx_up S 496 (base + 6) (S 480 18) 496 j = S 496 j := fun j hj => bx_up_ne (by omega)
  have eo : bx_up S 496 (base + 6) (S 480 18) 487 = S 487 := funext fun _ => bx_up_ne (by omega)
  have ea : bx_up S 496 (base + 6) (S 480 18) 488 = S 488 := funext fun _ => bx_up_ne (by omega)
  refine ⟨q, r, t, hq, ht, ?_, by rw [eo, ea]; exact hf, fun j x y => (g j (by omega)).trans (hr j x (by omega))⟩
  unfold rjCp
  rw [eo, ea, ← eb, g base (by omega), g (base + 1) (by omega), g (base + 2) (by omega), g (base + 3) (by omega), g (base + 4) (by omega), g (base + 5) (by omega), bx_up_at, e2, e3]
  exact ⟨v1, v2, v3, v4, g1, g2, g3⟩
