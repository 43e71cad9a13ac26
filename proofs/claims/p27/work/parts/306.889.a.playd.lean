noncomputable def rjdVs (S : Nat → Int → Int) (st cu r pa mo : Int) (k : Int) : Int := if k = 7 then S 22 6 else if k = 8 then S 22 7 else rjVp st cu r pa mo k
theorem rjdVs_k {S : Nat → Int → Int} {st cu r pa mo : Int} {P : Int → Int → Prop} (h1 : P 1 st) (h2 : P 2 cu) (h3 : P 3 (rjWo r)) (h4 : P 4 (rjNx r)) (h5 : P 5 pa) (h6 : P 6 mo) (h7 : P 7 (S 22 6)) (h8 : P 8 (S 22 7)) : ∀ k : Int, 1 ≤ k → k ≤ 8 → P k (rjdVs S st cu r pa mo k) := fun k k0 k1 => by
  have e : k = 1 ∨ k = 2 ∨ k = 3 ∨ k = 4 ∨ k = 5 ∨ k = 6 ∨ k = 7 ∨ k = 8 := by omega
  rcases e with rfl | rfl | rfl | rfl | rfl | rfl | rfl | rfl
  · exact h1
  · exact h2
  · exact h3
  · exact h4
  · exact h5
  · exact h6
  · exact h7
  · exact h8
theorem rjdVs_6 {S : Nat → Int → Int} {st cu r pa mo : Int} : ∀ k : Int, 1 ≤ k → k ≤ 6 → rjdVs S st cu r pa mo k = rjVp st cu r pa mo k := fun k k0 k1 => by
  unfold rjdVs
  rw [if_neg (by omega), if_neg (by omega)]
theorem rjdWo_6 {a b : Int} (h : 0 ≤ a) (h0 : 0 ≤ b) (h1 : b ≤ 5) : rjWo (6 * a + b) = a ∧ rjNx (6 * a + b) = b := by
  unfold rjWo rjNx
  rw [if_neg (by omega), if_neg (by omega)]
  omega
noncomputable def rjdSl (S : Nat → Int → Int) (pa t r : Int) : Prop := S (24 + 3 * pa).toNat t = rjWo r ∧ S (25 + 3 * pa).toNat t = rjNx r
noncomputable abbrev rjdRg (p : Nat) : Prop := (24 ≤ p ∧ p < 77 ∧ p % 3 ≠ 2) ∨ (160 ≤ p ∧ p < 214 ∧ p % 3 ≠ 1) ∨ (296 ≤ p ∧ p < 350 ∧ p % 3 ≠ 2)
theorem rjdRg_w {pa : Int} (p0 : 0 ≤ pa) (p1 : pa ≤ 17) : rjdRg (24 + 3 * pa).toNat := by
  unfold rjdRg
  omega
theorem rjdRg_n {pa : Int} (p0 : 0 ≤ pa) (p1 : pa ≤ 17) : rjdRg (25 + 3 * pa).toNat := by
  unfold rjdRg
  omega
noncomputable def rjdSm (S0 S : Nat → Int → Int) : Prop := ∀ (p : Nat) (t : Int), rjdRg p → 0 ≤ t → t < 36 → S p t = S0 p t
noncomputable def rjdOt (S0 S : Nat → Int → Int) (pa ix : Int) : Prop := ∀ (p : Nat) (t : Int), rjdRg p → 0 ≤ t → t < 36 → (((p : Int) ≠ 24 + 3 * pa ∧ (p : Int) ≠ 25 + 3 * pa) ∨ t ≠ ix) → S p t = S0 p t
theorem rjdSm_c : (List.range 350).all (fun p => !(decide (rjdRg p)) || (List.range 36).all (fun i => Nat.blt i (bx_wd (rxL.1 p)) && (decide (bx_mc (rxL.1 p) i = (1019, 0)) || decide (bx_mc (rxL.1 p) i = (1020, 0))))) = true := by decide +kernel
theorem rjdSm_sm {ms : List (Nat × Nat)} {S0 S : Nat → Int → Int} (hs : bx_same rxL (bx_mdl ms) S0 S) (hk : [(1019, 0), (1020, 0)].all (fun q => !(bx_mdl ms q.1 q.2)) = true) : rjdSm S0 S := fun p t hp t0 t1 => by
  have hq : ∀ x : Nat × Nat, x ∈ [(1019, 0), (1020, 0)] → bx_mdl ms x.1 x.2 = false := fun x hm => by
    have := List.all_eq_true.mp hk x hm
    rw [Bool.not_eq_true'] at this
    exact this
  have hp_p := hp
  unfold rjdRg at hp_p
  have g := List.all_eq_true.mp rjdSm_c p (List.mem_range.mpr (by omega))
  rw [Bool.or_eq_true, Bool.not_eq_true', decide_eq_false_iff_not] at g
  have g := List.all_eq_true.mp (g.resolve_left (fun n => n hp)) t.toNat (List.mem_range.mpr (by omega))
  rw [Bool.and_eq_true, Nat.blt_eq, Bool.or_eq_true, decide_eq_true_eq, decide_eq_true_eq] at g
  obtain ⟨g1, g2⟩ := g
  have a := hs p t.toNat (show p < 522 by omega) g1 (by
    rcases g2 with e | e
    · rw [e]
      exact hq (1019, 0) (by decide)
    · rw [e]
      exact hq (1020, 0) (by decide))
  rw [Int.toNat_of_nonneg t0] at a
  exact a
theorem rjdSm_r {S : Nat → Int → Int} : rjdSm S S := fun _ _ _ _ _ => rfl
theorem rjdSm_t {S0 S S_p : Nat → Int → Int} (h : rjdSm S0 S) (g : rjdSm S S_p) : rjdSm S0 S_p := fun p t a b c => (g p t a b c).trans (h p t a b c)
theorem rjdSm_o {S0 S : Nat → Int → Int} {pa ix : Int} (h : rjdSm S0 S) : rjdOt S0 S pa ix := fun p t a b c _ => h p t a b c
theorem rjdSm_s {S0 S : Nat → Int → Int} {pa t r : Int} (h : rjdSm S0 S) (p0 : 0 ≤ pa) (p1 : pa ≤ 17) (t0 : 0 ≤ t) (t1 : t < 36) (g : rjdSl S0 pa t r) : rjdSl S pa t r :=
  ⟨(h _ t (rjdRg_w p0 p1) t0 t1).trans g.1, (h _ t (rjdRg_n p0 p1) t0 t1).trans g.2⟩
theorem rjd_w {S0 S : Nat → Int → Int} {pa ix w n r : Int} (h : rjdSm S0 S) (p0 : 0 ≤ pa) (hw : rjWo r = w) (hn : rjNx r = n) : rjdSl (bx_up (bx_up S (24 + 3 * pa).toNat ix w) (25 + 3 * pa).toNat ix n) pa ix r ∧ rjdOt S0 (bx_up (bx_up S (24 + 3 * pa).toNat ix w) (25 + 3 * pa).toNat ix n) pa ix := by
  refine ⟨⟨?_, ?_⟩, fun p t hp t0 t1 e => ?_⟩
  · rw [bx_up_ne (by omega), bx_up_at, hw]
  · rw [bx_up_at, hn]
  · rw [bx_up_ne (by omega), bx_up_ne (by omega)]
    exact h p t hp t0 t1
theorem rjd_pl {S : Nat → Int → Int} (h : rkPl S) {pa : Int} (p0 : 0 ≤ pa) (p1 : pa ≤ 5) : S 4 pa = 23 + 3 * pa ∧ S (23 + 3 * pa).toNat 0 = 24 + 3 * pa ∧ S (23 + 3 * pa).toNat 1 = 25 + 3 * pa := by
  obtain ⟨a, b, c⟩ := h.2.1.1 pa.toNat (by omega)
  rw [Int.toNat_of_nonneg p0] at a
  rw [show 23 + 3 * pa.toNat = (23 + 3 * pa).toNat by omega] at b c
  exact ⟨by omega, by omega, by omega⟩
noncomputable def rjdPq (S0 : Nat → Int → Int) (cl pa st cu : Int) (q : rkQ) (r : Int) : Prop := (rkCq S0 cl q ∧ S0 427 0 ≤ 400) ∧ rjQl q ∧ (-1 ≤ r ∧ r ≤ 59) ∧ rjdSl S0 pa (6 * st + cu) r
theorem rjQl_m {q : rkQ} (h : rjQl q) : rkQm q := ⟨fun d e => (h.2.2.1 d e).1, fun d e => (h.2.2.2.1 d e).1, fun d e => (h.2.2.2.2 d e).1⟩
theorem rjd_cq {S0 S : Nat → Int → Int} {cl : Int} {q : rkQ} (he : tqEq S0 S 427) (hc : rkCq S0 cl q) (h4 : S0 427 0 ≤ 400) (c0 : 0 ≤ cl) (c1 : cl ≤ 11) : rkCq S cl q :=
  rkCq_fr (c := 12) hc c0 (by omega) (fun j a b => he.2.2.2.1 j a (by omega)) (by
    have := he.1
    omega) (fun p p1 p2 j a b => by
    have g := he.2.2.2.2 (p - 427) (by omega) (by omega) j a b
    rw [show 427 + (p - 427) = p by omega] at g
    exact g)
theorem rjd_tq {S0 S : Nat → Int → Int} {vs : Int → Int} {cl : Int} {q : rkQ} (hp : rkPq S0 427) (he : tqEq S0 S 427) (hc : rkCq S0 cl q ∧ S0 427 0 ≤ 400) (hq : rjQl q) (hb : rkVb vs) (hv : ∀ k : Int, 1 ≤ k → k ≤ 8 → S 22 (k - 1) = vs k) (c0 : 0 ≤ cl) (c1 : cl ≤ 11) : tqQ S vs 427 cl q :=
  ⟨⟨by decide, by decide⟩, rkPq_eq hp he, by
    show rkCq (rkAt S 427) cl q
    rw [rkAt_427]
    exact rjd_cq he hc.1 hc.2 c0 c1, rjQl_m hq, hb, hv, c0, c1⟩
noncomputable def rjdRw (S : Nat → Int → Int) (pa : Int) (s : Int → Int) : Prop := ∀ t : Int, 0 ≤ t → t < 36 → (-1 ≤ s t ∧ s t ≤ 59) ∧ rjdSl S pa t (s t)
theorem rjdRw_up {S S_p : Nat → Int → Int} {pa ix r : Int} {s : Int → Int} (p0 : 0 ≤ pa) (p1 : pa ≤ 17) (h : rjdRw S pa s) (hs : rjdSl S_p pa ix r) (ho : rjdOt S S_p pa ix) (h0 : -1 ≤ r) (h1 : r ≤ 59) : rjdRw S_p pa (rkUp s ix r) := fun t t0 t1 => by
  unfold rkUp
  by_cases c : t = ix
  · rw [if_pos c, c]
    exact ⟨⟨h0, h1⟩, hs⟩
  · rw [if_neg c]
    obtain ⟨a, b⟩ := h t t0 t1
    exact ⟨a, (ho _ t (rjdRg_w p0 p1) t0 t1 (Or.inr c)).trans b.1, (ho _ t (rjdRg_n p0 p1) t0 t1 (Or.inr c)).trans b.2⟩
theorem rjdRw_sm {S S_p : Nat → Int → Int} {pa : Int} {s : Int → Int} (p0 : 0 ≤ pa) (p1 : pa ≤ 17) (h : rjdRw S pa s) (g : rjdSm S S_p) : rjdRw S_p pa s := fun t t0 t1 => ⟨(h t t0 t1).1, rjdSm_s g p0 p1 t0 t1 (h t t0 t1).2⟩
noncomputable def rjdOp (S0 S : Nat → Int → Int) (pa : Int) : Prop := ∀ (p : Nat) (t : Int), rjdRg p → 0 ≤ t → t < 36 → (p : Int) ≠ 24 + 3 * pa → (p : Int) ≠ 25 + 3 * pa → S p t = S0 p t
theorem rjdOp_o {S0 S S_p : Nat → Int → Int} {pa ix : Int} (h : rjdOp S0 S pa) (g : rjdOt S S_p pa ix) : rjdOp S0 S_p pa := fun p t a b c n m => (g p t a b c (Or.inl ⟨n, m⟩)).trans (h p t a b c n m)
theorem rjdOp_m {S0 S S_p : Nat → Int → Int} {pa : Int} (h : rjdOp S0 S pa) (g : rjdSm S S_p) : rjdOp S0 S_p pa := fun p t a b c n m => (g p t a b c).trans (h p t a b c n m)
theorem rjdOp_t {S0 S S_p : Nat → Int → Int} {pa : Int} (h : rjdOp S0 S pa) (g : rjdOp S S_p pa) : rjdOp S0 S_p pa := fun p t a b c n m => (g p t a b c n m).trans (h p t a b c n m)
theorem rjdRw_op {S S_p : Nat → Int → Int} {pa b : Int} {s : Int → Int} (p0 : 0 ≤ pa) (p1 : pa ≤ 17) (h : rjdRw S pa s) (g : rjdOp S S_p b) (n : pa ≠ b) : rjdRw S_p pa s := fun t t0 t1 => by
  obtain ⟨a, c, d⟩ := h t t0 t1
  exact ⟨a, (g _ t (rjdRg_w p0 p1) t0 t1 (by omega) (by omega)).trans c, (g _ t (rjdRg_n p0 p1) t0 t1 (by omega) (by omega)).trans d⟩
theorem rjdWo_x {r : Int} (h0 : -1 ≤ r) : (r = -1 ∧ rjWo r = -1 ∧ rjNx r = -1) ∨ (r ≠ -1 ∧ 0 ≤ r ∧ rjWo r = r / 6 ∧ rjNx r = r % 6) := by
  by_cases c : r = -1
  · exact Or.inl ⟨c, if_pos c, if_pos c⟩
  · exact Or.inr ⟨c, by omega, if_neg c, if_neg c⟩
theorem rjd_px {S : Nat → Int → Int} (h : rkPl S) {a : Int} (a0 : 0 ≤ a) (a1 : a ≤ 17) : S (23 + 3 * a).toNat 0 = 24 + 3 * a ∧ S (23 + 3 * a).toNat 1 = 25 + 3 * a := by
  by_cases c : a ≤ 5
  · exact (rjd_pl h a0 c).2
  · obtain ⟨-, b, d⟩ := h.2.1.2 (a - 6).toNat (by omega)
    rw [show 41 + 3 * (a - 6).toNat = (23 + 3 * a).toNat by omega] at b d
    exact ⟨by omega, by omega⟩
theorem rjS1_b {vs : Int → Int} {st r r_p b : Int} {q : rkQ} (s0 : 0 ≤ st) (s5 : st ≤ 5) (r0 : -1 ≤ r) (r1 : r ≤ 59) (h : rjS1 vs st q r r_p b) : (-1 ≤ r_p ∧ r_p ≤ 59) ∧ 0 ≤ b ∧ b ≤ 1 := by
  have nb : ∀ v m : Int, 0 ≤ m → 0 ≤ rkNear v m ∧ rkNear v m ≤ m := fun v m m0 => by
    unfold rkNear
    (repeat' split) <;> omega
  rcases h with ⟨-, h2, h3⟩ | ⟨-, ⟨-, h2, h3⟩ | ⟨-, ⟨-, h2, h3⟩ | ⟨x, -, ⟨-, h2, h3⟩ | ⟨-, h2, h3⟩ | ⟨y, -, h2, h3⟩⟩⟩⟩
  · omega
  · omega
  · omega
  · have := nb x 9 (by decide)
    omega
  · omega
  · have := nb x 9 (by decide)
    have := nb y 5 (by decide)
    omega
