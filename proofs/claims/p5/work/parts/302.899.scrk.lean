/-! SCRIPTS ALIKE in both: of the parts (x = 0), of parts and versions (x = 1) -/
def rjdRb (S : Nat → Int → Int) (b : Nat) (s : Int → Int) : Prop := ∀ t : Int, 0 ≤ t → t < 36 → (-1 ≤ s t ∧ s t ≤ 59) ∧ S (b + 1) t = rjWo (s t) ∧ S (b + 2) t = rjNx (s t)
theorem rjdRb_w {S : Nat → Int → Int} {k : Nat} {s : Int → Int} (h : rjdRb S (23 + 3 * k) s) : rjdRw S (k : Int) s := fun t t0 t1 => by
  obtain ⟨a, b, c⟩ := h t t0 t1
  refine ⟨a, ?_, ?_⟩
  · rw [show (24 + 3 * (k : Int)).toNat = 23 + 3 * k + 1 by omega]
    exact b
  · rw [show (25 + 3 * (k : Int)).toNat = 23 + 3 * k + 2 by omega]
    exact c
theorem rjdRw_b {S : Nat → Int → Int} {k : Nat} {s : Int → Int} (h : rjdRw S (k : Int) s) : rjdRb S (23 + 3 * k) s := fun t t0 t1 => by
  obtain ⟨a, b, c⟩ := h t t0 t1
  rw [show (24 + 3 * (k : Int)).toNat = 23 + 3 * k + 1 by omega] at b
  rw [show (25 + 3 * (k : Int)).toNat = 23 + 3 * k + 2 by omega] at c
  exact ⟨a, b, c⟩
theorem rjdRb_cg {S S_p : Nat → Int → Int} {b : Nat} {s s' : Int → Int} (h : rjdRb S b s) (e : ∀ t : Int, 0 ≤ t → t < 36 → S_p (b + 1) t = S (b + 1) t ∧ S_p (b + 2) t = S (b + 2) t) (es : s' = s) : rjdRb S_p b s' := fun t t0 t1 => by
  obtain ⟨a, b, c⟩ := h t t0 t1
  obtain ⟨x, y⟩ := e t t0 t1
  rw [es]
  exact ⟨a, x.trans b, y.trans c⟩
theorem rjdRb_q {S0 S : Nat → Int → Int} {t s : Nat} {f : Int → Int} (h : rjdRb S0 s f) (q : rkSq S0 S t s) : rjdRb S t f := fun j j0 j1 => by
  obtain ⟨a, b, c⟩ := h j j0 j1
  obtain ⟨x, y⟩ := q j j0 j1
  exact ⟨a, x.trans b, y.trans c⟩
/-- a town's scripts from place b on, as the row R tells them -/
def rjdKa (S : Nat → Int → Int) (b : Nat) (R : Int → Int) : Prop := ∀ k : Nat, (k : Int) < R 0 → k < 6 → rjdRb S (b + 3 * k) (rjSc R (22 + 36 * (k : Int)))
def rjdKv (S : Nat → Int → Int) (b : Nat) (R : Int → Int) : Prop := ∀ k : Nat, (k : Int) < R 2 → k < 12 → rjdRb S (b + 18 + 3 * k) (rjSc R (298 + 36 * (k : Int)))
def rjdKb (x : Bool) (S : Nat → Int → Int) (b : Nat) (R : Int → Int) : Prop := rjdKa S b R ∧ (x = true → rjdKv S b R)
def rjHy (S : Nat → Int → Int) (j : Int) : Int := S 483 (6180 + j)
def rjdK (x : Bool) (S : Nat → Int → Int) : Prop := (rkPl S ∧ rkDu S) ∧ rjdKb x S 23 (S 482) ∧ (S 410 0 = 0 ∨ rjdKb x S 160 (S 483)) ∧ (S 410 1 = 0 ∨ rjdKb x S 296 (rjHy S))
theorem rjSc_eq {R R' : Int → Int} {b : Int} (b0 : 0 ≤ b) (b1 : b + 36 ≤ 6180) (e : ∀ j : Int, 0 ≤ j → j < 6180 → R' j = R j) : rjSc R' b = rjSc R b := rjSc_cg fun t t0 t1 => e (b + t) (by omega) (by omega)
theorem rjdKb_r {x : Bool} {S : Nat → Int → Int} {b : Nat} {R R' : Int → Int} (h : rjdKb x S b R) (e : ∀ j : Int, 0 ≤ j → j < 6180 → R' j = R j) : rjdKb x S b R' := by
  refine ⟨fun k c c6 => ?_, fun hx k c c12 => ?_⟩
  · rw [e 0 (by omega) (by omega)] at c
    rw [rjSc_eq (R := R) (by omega) (by omega) e]
    exact h.1 k c c6
  · rw [e 2 (by omega) (by omega)] at c
    rw [rjSc_eq (R := R) (by omega) (by omega) e]
    exact h.2 hx k c c12
/-- a row where only some of it stays -/
theorem rjdKb_p {x : Bool} {S : Nat → Int → Int} {b : Nat} {R R' : Int → Int} (h : rjdKb x S b R) (e0 : R' 0 = R 0) (e2 : x = true → R' 2 = R 2) (ea : ∀ j : Int, 22 ≤ j → j < 238 → R' j = R j) (ev : x = true → ∀ j : Int, 298 ≤ j → j < 730 → R' j = R j) : rjdKb x S b R' := by
  refine ⟨fun k c c6 => ?_, fun hx k c c12 => ?_⟩
  · rw [e0] at c
    rw [rjSc_cg (R := R) fun t t0 t1 => ea _ (by omega) (by omega)]
    exact h.1 k c c6
  · rw [e2 hx] at c
    rw [rjSc_cg (R := R) fun t t0 t1 => ev hx _ (by omega) (by omega)]
    exact h.2 hx k c c12
theorem rjdKb_s {x : Bool} {S S_p : Nat → Int → Int} {b : Nat} {R : Int → Int} (h : rjdKb x S b R) (e : ∀ (p : Nat) (t : Int), b ≤ p → p < b + 54 → (p - b) % 3 ≠ 0 → 0 ≤ t → t < 36 → S_p p t = S p t) : rjdKb x S_p b R := by
  refine ⟨fun k c c6 => ?_, fun hx k c c12 => ?_⟩
  · exact rjdRb_cg (h.1 k c c6) (fun t t0 t1 => ⟨e _ t (by omega) (by omega) (by omega) t0 t1, e _ t (by omega) (by omega) (by omega) t0 t1⟩) rfl
  · exact rjdRb_cg (h.2 hx k c c12) (fun t t0 t1 => ⟨e _ t (by omega) (by omega) (by omega) t0 t1, e _ t (by omega) (by omega) (by omega) t0 t1⟩) rfl
/-- scripts stay -/
theorem rjdKb_m {x : Bool} {S S_p : Nat → Int → Int} {b : Nat} {R : Int → Int} (hb : rkTb b) (h : rjdKb x S b R) (e : rjdSm S S_p) : rjdKb x S_p b R := rjdKb_s h fun p t p0 p1 p2 t0 t1 => e p t (by
  unfold rkTb at hb
  unfold rjdRg
  omega) t0 t1
/-- parts' scripts stay, of images all -/
theorem rjdKb_pt {S S_p : Nat → Int → Int} {b : Nat} {R : Int → Int} (hb : rkTb b) (h : rjdKb false S b R) (e : rjdPt S S_p) : rjdKb false S_p b R := by
  unfold rkTb at hb
  refine ⟨fun k c c6 => ?_, fun hx => absurd hx (by decide)⟩
  exact rjdRb_cg (h.1 k c c6) (fun t t0 t1 => ⟨e _ t (by unfold rjdRg; omega) (by omega) t0 t1, e _ t (by unfold rjdRg; omega) (by omega) t0 t1⟩) rfl
def rjdKk0 : List (Nat × Nat) := [(1019, 0), (1020, 0), (6, 8), (6, 9), (6, 10), (1016, 0), (9, 0), (9, 1), (1002, 0), (1009, 0), (1031, 0), (1063, 2), (1063, 13), (1064, 0), (1064, 1)]
def rjdKk (x : Bool) : List (Nat × Nat) := rjdKk0 ++ (if x then [(1063, 4), (1063, 16)] else [])
theorem rjdKf {ms l : List (Nat × Nat)} (hk : l.all (fun q => !(bx_mdl ms q.1 q.2)) = true) {a b : Nat} (hm : (a, b) ∈ l) : bx_mdl ms a b = false := by
  have := List.all_eq_true.mp hk (a, b) hm
  rw [Bool.not_eq_true'] at this
  exact this
theorem rjdKl {ms l l' : List (Nat × Nat)} (hk : l.all (fun q => !(bx_mdl ms q.1 q.2)) = true) (hl : l'.all (fun q => l.contains q) = true) : l'.all (fun q => !(bx_mdl ms q.1 q.2)) = true := List.all_eq_true.mpr fun x hm => List.all_eq_true.mp hk x (List.contains_iff_mem.mp (List.all_eq_true.mp hl x hm))
section RJK
variable {x : Bool} {S0 S1 S S_p : Nat → Int → Int} {ms : List (Nat × Nat)}
theorem rjdK_kp (hs : bx_same rxL (bx_mdl ms) S S_p) (hk : bx_mdl ms 1031 0 = false) : ∀ i : Nat, i < 2 → S_p 410 (i : Int) = S 410 (i : Int) := fun i hi => hs 410 i (by decide) (by
  show i < 2
  exact hi) (by
  have e : bx_mc (rxL.1 410) i = (1031, if i < 780 then 0 else 1) := rfl
  rw [e, if_pos (by omega)]
  exact hk)
/-- scripts of the row stay where their kinds aren't written -/
theorem rjdK_rw (hs : bx_same rxL (bx_mdl ms) S S_p) {k lo hi : Nat} (hk : bx_mdl ms 1063 k = false) (h : ∀ i : Nat, lo ≤ i → i < hi → bx_s63 i = k) (h2 : hi ≤ 6180) {j : Int} (a : (lo : Int) ≤ j) (b : j < (hi : Int)) : S_p 482 j = S 482 j := by
  have hw := rxW482
  have q := hs 482 j.toNat (by decide) (by omega) (by
    have e : bx_mc (rxL.1 482) j.toNat = (1063, bx_s63 j.toNat) := rfl
    rw [e, h j.toNat (by omega) (by omega)]
    exact hk)
  rw [Int.toNat_of_nonneg (by omega)] at q
  exact q
theorem rjdK_ra (hs : bx_same rxL (bx_mdl ms) S S_p) (hk : bx_mdl ms 1063 13 = false) : ∀ j : Int, 22 ≤ j → j < 238 → S_p 482 j = S 482 j := fun j a b =>
  rjdK_rw hs hk (lo := 22) (hi := 238) (fun i a b => by
    unfold bx_s63
    rw [if_pos (by omega), if_neg (by omega), if_neg (by omega), if_pos (by omega)]) (by decide) (by omega) (by omega)
theorem rjdK_rv (hs : bx_same rxL (bx_mdl ms) S S_p) (hk : bx_mdl ms 1063 16 = false) : ∀ j : Int, 298 ≤ j → j < 730 → S_p 482 j = S 482 j := fun j a b =>
  rjdK_rw hs hk (lo := 298) (hi := 730) (fun i a b => by
    unfold bx_s63
    rw [if_pos (by omega), if_neg (by omega), if_neg (by omega), if_neg (by omega), if_neg (by omega), if_neg (by omega), if_pos (by omega)]) (by decide) (by omega) (by omega)
/-- whatever becomes of the town: places, flags and images stay -/
theorem rjdK_u (hl : rkPl S_p) (hd : rkDu S_p) (h : rjdK x S) (u : rjdKb x S_p 23 (S_p 482)) (e : ∀ (p : Nat) (t : Int), rjdRg p → 160 ≤ p → 0 ≤ t → t < 36 → S_p p t = S p t) (r3 : ∀ j : Int, 0 ≤ j → j < 12360 → S_p 483 j = S 483 j) (k0 : S_p 410 0 = S 410 0) (k1 : S_p 410 1 = S 410 1) : rjdK x S_p := by
  obtain ⟨-, -, h2, h3⟩ := h
  refine ⟨⟨hl, hd⟩, u, ?_, ?_⟩
  · rw [k0]
    exact h2.imp id fun g => rjdKb_r (rjdKb_s g fun p t p0 p1 p2 t0 t1 => e p t (by unfold rjdRg; omega) (by omega) t0 t1) fun j a b => r3 j a (by omega)
  · rw [k1]
    exact h3.imp id fun g => rjdKb_r (rjdKb_s g fun p t p0 p1 p2 t0 t1 => e p t (by unfold rjdRg; omega) (by omega) t0 t1) fun j a b => r3 (6180 + j) (by omega) (by omega)
theorem rjdK_sm (hs : bx_same rxL (bx_mdl ms) S S_p) (hk : (rjdKk x).all (fun q => !(bx_mdl ms q.1 q.2)) = true) (h : rjdK x S) : rjdK x S_p := by
  have m : ∀ q : Nat × Nat, q ∈ rjdKk0 → bx_mdl ms q.1 q.2 = false := fun q hm => rjdKf hk (a := q.1) (b := q.2) (List.mem_append_left _ hm)
  have l : ∀ l' : List (Nat × Nat), l'.all (fun q => rjdKk0.contains q) = true → l'.all (fun q => !(bx_mdl ms q.1 q.2)) = true := fun l' hl => List.all_eq_true.mpr fun y hm => by
    have := m y (List.contains_iff_mem.mp (List.all_eq_true.mp hl y hm))
    rw [this]
    rfl
  have es : rjdSm S S_p := rjdSm_sm hs (l _ (by decide))
  have e0 : S_p 482 0 = S 482 0 := hs 482 0 (by decide) (by decide) (m (1063, 2) (by decide))
  refine rjdK_u (rkPl_sm hs (l _ (by decide)) h.1.1) (rkDu_sm hs (l _ (by decide)) h.1.2) h ?_ (fun p t a _ c d => es p t a c d) (fun j a b => rx_same64 (m (1064, 0) (by decide)) (m (1064, 1) (by decide)) hs a b) (rjdK_kp hs (m (1031, 0) (by decide)) 0 (by decide)) (rjdK_kp hs (m (1031, 0) (by decide)) 1 (by decide))
  refine rjdKb_p (rjdKb_m (Or.inl rfl) h.2.1 es) e0 (fun hx => ?_) (rjdK_ra hs (m (1063, 13) (by decide))) (fun hx => ?_)
  · subst hx
    exact hs 482 2 (by decide) (by decide) (rjdKf hk (by decide))
  · subst hx
    exact rjdK_rv hs (rjdKf hk (by decide))
/-- of the developers' calls: scripts stay; the row isn't theirs -/
theorem rjdK_dv (hs : bx_same rxL (bx_mdl ms) S S_p) (hk : [(6, 8), (6, 9), (6, 10), (1016, 0), (9, 0), (9, 1), (1002, 0), (1009, 0), (1031, 0), (1063, 2), (1063, 4), (1063, 13), (1063, 16), (1064, 0), (1064, 1)].all (fun q => !(bx_mdl ms q.1 q.2)) = true) (es : rjdSm S S_p) (h : rjdK x S) : rjdK x S_p := by
  have e0 : S_p 482 0 = S 482 0 := hs 482 0 (by decide) (by decide) (rjdKf hk (a := 1063) (b := 2) (by decide))
  refine rjdK_u (rkPl_sm hs (rjdKl hk (by decide)) h.1.1) (rkDu_sm hs (rjdKl hk (by decide)) h.1.2) h ?_ (fun p t a _ c d => es p t a c d) (fun j a b => rx_same64 (rjdKf hk (by decide)) (rjdKf hk (by decide)) hs a b) (rjdK_kp hs (rjdKf hk (by decide)) 0 (by decide)) (rjdK_kp hs (rjdKf hk (by decide)) 1 (by decide))
  exact rjdKb_p (rjdKb_m (Or.inl rfl) h.2.1 es) e0 (fun _ => hs 482 2 (by decide) (by decide) (rjdKf hk (a := 1063) (b := 4) (by decide))) (rjdK_ra hs (rjdKf hk (by decide))) (fun _ => rjdK_rv hs (rjdKf hk (by decide)))
theorem rjdK_dp (hs : bx_same rxL (bx_mdl ms) S S_p) (hk : [(6, 8), (6, 9), (6, 10), (1016, 0), (9, 0), (9, 1), (1002, 0), (1009, 0), (1031, 0), (1063, 2), (1063, 13), (1064, 0), (1064, 1)].all (fun q => !(bx_mdl ms q.1 q.2)) = true) (es : rjdPt S S_p) (h : rjdK false S) : rjdK false S_p := by
  have e0 : S_p 482 0 = S 482 0 := hs 482 0 (by decide) (by decide) (rjdKf hk (a := 1063) (b := 2) (by decide))
  refine rjdK_u (rkPl_sm hs (rjdKl hk (by decide)) h.1.1) (rkDu_sm hs (rjdKl hk (by decide)) h.1.2) h ?_ (fun p t a b c d => es p t a (Or.inr b) c d) (fun j a b => rx_same64 (rjdKf hk (by decide)) (rjdKf hk (by decide)) hs a b) (rjdK_kp hs (rjdKf hk (by decide)) 0 (by decide)) (rjdK_kp hs (rjdKf hk (by decide)) 1 (by decide))
  exact rjdKb_p (rjdKb_pt (Or.inl rfl) h.2.1 es) e0 (fun z => absurd z (by decide)) (rjdK_ra hs (rjdKf hk (by decide))) (fun z => absurd z (by decide))
/-- one script of the town is otherwise: behind the developers' call -/
def rjdKm (x : Bool) (i : Nat) (f : Int → Int) (S : Nat → Int → Int) : Prop := (rkPl S ∧ rkDu S) ∧ ((∀ k : Nat, (k : Int) < S 482 0 → k < 6 → k ≠ i → rjdRb S (23 + 3 * k) (rjSc (S 482) (22 + 36 * (k : Int)))) ∧ (x = true → ∀ k : Nat, (k : Int) < S 482 2 → k < 12 → 6 + k ≠ i → rjdRb S (41 + 3 * k) (rjSc (S 482) (298 + 36 * (k : Int)))) ∧ rjdRb S (23 + 3 * i) f) ∧ (S 410 0 = 0 ∨ rjdKb x S 160 (S 483)) ∧ (S 410 1 = 0 ∨ rjdKb x S 296 (rjHy S))
theorem rjdK_dm {i : Nat} {f : Int → Int} (hs : bx_same rxL (bx_mdl ms) S S_p) (hk : [(6, 8), (6, 9), (6, 10), (1016, 0), (9, 0), (9, 1), (1002, 0), (1009, 0), (1031, 0), (1063, 2), (1063, 4), (1063, 13), (1063, 16), (1064, 0), (1064, 1)].all (fun q => !(bx_mdl ms q.1 q.2)) = true) (i18 : i < 18) (ho : rjdOp S S_p (i : Int)) (hf : rjdRw S_p (i : Int) f) (h : rjdK x S) : rjdKm x i f S_p := by
  have e0 : S_p 482 0 = S 482 0 := hs 482 0 (by decide) (by decide) (rjdKf hk (a := 1063) (b := 2) (by decide))
  have e2 : S_p 482 2 = S 482 2 := hs 482 2 (by decide) (by decide) (rjdKf hk (a := 1063) (b := 4) (by decide))
  have ra := rjdK_ra hs (rjdKf hk (by decide))
  have rv := rjdK_rv hs (rjdKf hk (by decide))
  have r3 : ∀ j : Int, 0 ≤ j → j < 12360 → S_p 483 j = S 483 j := fun j a b => rx_same64 (rjdKf hk (by decide)) (rjdKf hk (by decide)) hs a b
  have im : ∀ (p : Nat) (t : Int), rjdRg p → 160 ≤ p → 0 ≤ t → t < 36 → S_p p t = S p t := fun p t a b c d => ho p t a c d (by omega) (by omega)
  obtain ⟨h1, h2, h3, h4⟩ := h
  refine ⟨⟨rkPl_sm hs (rjdKl hk (by decide)) h1.1, rkDu_sm hs (rjdKl hk (by decide)) h1.2⟩, ⟨fun k c c6 n => ?_, fun hx k c c12 n => ?_, rjdRw_b hf⟩, ?_, ?_⟩
  · rw [e0] at c
    exact rjdRb_cg (h2.1 k c c6) (fun t t0 t1 => ⟨ho _ t (by unfold rjdRg; omega) t0 t1 (by omega) (by omega), ho _ t (by unfold rjdRg; omega) t0 t1 (by omega) (by omega)⟩) (rjSc_cg fun t t0 t1 => ra _ (by omega) (by omega))
  · rw [e2] at c
    have z := h2.2 hx k c c12
    rw [show 23 + 18 + 3 * k = 41 + 3 * k by omega] at z
    exact rjdRb_cg z (fun t t0 t1 => ⟨ho _ t (by unfold rjdRg; omega) t0 t1 (by omega) (by omega), ho _ t (by unfold rjdRg; omega) t0 t1 (by omega) (by omega)⟩) (rjSc_cg fun t t0 t1 => rv _ (by omega) (by omega))
  · rw [show S_p 410 0 = S 410 0 from rjdK_kp hs (rjdKf hk (by decide)) 0 (by decide)]
    exact h3.imp id fun g => rjdKb_r (rjdKb_s g fun p t p0 p1 p2 t0 t1 => im p t (by unfold rjdRg; omega) (by omega) t0 t1) fun j a b => r3 j a (by omega)
  · rw [show S_p 410 1 = S 410 1 from rjdK_kp hs (rjdKf hk (by decide)) 1 (by decide)]
    exact h4.imp id fun g => rjdKb_r (rjdKb_s g fun p t p0 p1 p2 t0 t1 => im p t (by unfold rjdRg; omega) (by omega) t0 t1) fun j a b => r3 (6180 + j) (by omega) (by omega)
/-- of the reference's calls: the developers' scripts stay, the row's one is now f -/
theorem rjdK_rm {i : Nat} {f : Int → Int} (hs : bx_same rxL (bx_mdl ms) S S_p) (hk : [(1019, 0), (1020, 0), (6, 8), (6, 9), (6, 10), (1016, 0), (9, 0), (9, 1), (1002, 0), (1009, 0), (1031, 0), (1064, 0), (1064, 1)].all (fun q => !(bx_mdl ms q.1 q.2)) = true) (h : rjdKm x i f S)
    (ha : ∀ k : Nat, (k : Int) < S_p 482 0 → k < 6 → (k ≠ i ∧ (k : Int) < S 482 0 ∧ rjSc (S_p 482) (22 + 36 * (k : Int)) = rjSc (S 482) (22 + 36 * (k : Int))) ∨ (k = i ∧ rjSc (S_p 482) (22 + 36 * (k : Int)) = f))
    (hv : x = true → ∀ k : Nat, (k : Int) < S_p 482 2 → k < 12 → (6 + k ≠ i ∧ (k : Int) < S 482 2 ∧ rjSc (S_p 482) (298 + 36 * (k : Int)) = rjSc (S 482) (298 + 36 * (k : Int))) ∨ (6 + k = i ∧ rjSc (S_p 482) (298 + 36 * (k : Int)) = f)) : rjdK x S_p := by
  have es : rjdSm S S_p := rjdSm_sm hs (rjdKl hk (by decide))
  have r3 : ∀ j : Int, 0 ≤ j → j < 12360 → S_p 483 j = S 483 j := fun j a b => rx_same64 (rjdKf hk (by decide)) (rjdKf hk (by decide)) hs a b
  obtain ⟨h1, ⟨h2, h2v, h2f⟩, h3, h4⟩ := h
  have sf : ∀ {k : Nat} {g g' : Int → Int}, k < 18 → rjdRb S (23 + 3 * k) g → g' = g → rjdRb S_p (23 + 3 * k) g' := fun hk18 z e => rjdRb_cg z (fun t t0 t1 => ⟨es _ t (by unfold rjdRg; omega) t0 t1, es _ t (by unfold rjdRg; omega) t0 t1⟩) e
  refine ⟨⟨rkPl_sm hs (rjdKl hk (by decide)) h1.1, rkDu_sm hs (rjdKl hk (by decide)) h1.2⟩, ⟨fun k c c6 => ?_, fun hx k c c12 => ?_⟩, ?_, ?_⟩
  · rcases ha k c c6 with ⟨n, c0, e⟩ | ⟨n, e⟩
    · exact sf (by omega) (h2 k c0 c6 n) e
    · subst n
      exact sf (by omega) h2f e
  · rw [show 23 + 18 + 3 * k = 23 + 3 * (6 + k) by omega]
    rcases hv hx k c c12 with ⟨n, c0, e⟩ | ⟨n, e⟩
    · have z := h2v hx k c0 c12 n
      rw [show 41 + 3 * k = 23 + 3 * (6 + k) by omega] at z
      exact sf (by omega) z e
    · rw [n]
      exact sf (by omega) h2f e
  · rw [show S_p 410 0 = S 410 0 from rjdK_kp hs (rjdKf hk (by decide)) 0 (by decide)]
    exact h3.imp id fun g => rjdKb_r (rjdKb_m (Or.inr (Or.inl rfl)) g es) fun j a b => r3 j a (by omega)
  · rw [show S_p 410 1 = S 410 1 from rjdK_kp hs (rjdKf hk (by decide)) 1 (by decide)]
    exact h4.imp id fun g => rjdKb_r (rjdKb_m (Or.inr (Or.inr rfl)) g es) fun j a b => r3 (6180 + j) (by omega) (by omega)
/-! images: behind the developers' image, back -/
def rjdKi0 (x : Bool) (S : Nat → Int → Int) : Prop := (rkPl S ∧ rkDu S) ∧ rjdKb x S 23 (S 482) ∧ rjdKb x S 160 (S 482) ∧ (S 410 1 = 0 ∨ rjdKb x S 296 (rjHy S))
def rjdKi1 (x : Bool) (S : Nat → Int → Int) : Prop := (rkPl S ∧ rkDu S) ∧ rjdKb x S 23 (S 482) ∧ (S 410 0 = 0 ∨ rjdKb x S 160 (S 483)) ∧ rjdKb x S 296 (S 482)
def rjdKb0 (x : Bool) (S : Nat → Int → Int) : Prop := (rkPl S ∧ rkDu S) ∧ rjdKb x S 23 (S 483) ∧ (S 410 0 = 0 ∨ rjdKb x S 160 (S 483)) ∧ (S 410 1 = 0 ∨ rjdKb x S 296 (rjHy S))
def rjdKb1 (x : Bool) (S : Nat → Int → Int) : Prop := (rkPl S ∧ rkDu S) ∧ rjdKb x S 23 (rjHy S) ∧ (S 410 0 = 0 ∨ rjdKb x S 160 (S 483)) ∧ (S 410 1 = 0 ∨ rjdKb x S 296 (rjHy S))
theorem rjdKb_c {R : Int → Int} {tb sb : Nat} {n : Int} (h : rjdKb x S0 sb R) (hb : rkTb tb) (hW : rkWt4 S0 S1 tb sb 6 12 n) (e : ∀ (p : Nat) (j : Int), rkRgn p → S p j = S1 p j) : rjdKb x S tb R :=
  ⟨fun k c c6 => rjdRb_q (h.1 k c c6) (rkSq_cg (hW.1 k (by omega) c6) fun p j p0 p1 => e p j (rkTb_re hb (by omega) (by omega))), fun hx k c c12 => rjdRb_q (h.2 hx k c c12) (rkSq_cg (hW.2.1 k (by omega) c12) fun p j p0 p1 => e p j (rkTb_re hb (by omega) (by omega)))⟩
theorem rjdKb_w {R : Int → Int} {b tb : Nat} (h : rjdKb x S0 b R) (hW : rkW4 S0 S1 tb) (e : ∀ (p : Nat) (j : Int), rkRgn p → S p j = S1 p j) (hb : rkTb b) (ht : rkTb tb) (n : tb ≠ b) : rjdKb x S b R := rjdKb_s h fun p t p0 p1 _ _ _ => (e p t (rkTb_re hb p0 (by omega))).trans (hW p t (rkTb_re hb p0 (by omega)) (by
  unfold rkTb at hb ht
  omega))
theorem rjdK_i0 {n : Int} (h : rjdK x S0) (hl : rkPl S ∧ rkDu S) (hW : rkWt4 S0 S1 160 23 6 12 n) (e : ∀ (p : Nat) (j : Int), rkRgn p → S p j = S1 p j) (r : ∀ j : Int, 0 ≤ j → j < 6180 → S 482 j = S0 482 j) (r3 : ∀ j : Int, 0 ≤ j → j < 12360 → S 483 j = S0 483 j) (k1 : S 410 1 = S0 410 1) : rjdKi0 x S := by
  obtain ⟨-, h1, h2, h3⟩ := h
  refine ⟨hl, rjdKb_r (rjdKb_w h1 hW.2.2.2 e (Or.inl rfl) (Or.inr (Or.inl rfl)) (by decide)) r, rjdKb_r (rjdKb_c h1 (Or.inr (Or.inl rfl)) hW e) r, ?_⟩
  rw [k1]
  exact h3.imp id fun g => rjdKb_r (rjdKb_w g hW.2.2.2 e (Or.inr (Or.inr rfl)) (Or.inr (Or.inl rfl)) (by decide)) fun j a b => r3 (6180 + j) (by omega) (by omega)
theorem rjdK_i1 {n : Int} (h : rjdK x S0) (hl : rkPl S ∧ rkDu S) (hW : rkWt4 S0 S1 296 23 6 12 n) (e : ∀ (p : Nat) (j : Int), rkRgn p → S p j = S1 p j) (r : ∀ j : Int, 0 ≤ j → j < 6180 → S 482 j = S0 482 j) (r3 : ∀ j : Int, 0 ≤ j → j < 12360 → S 483 j = S0 483 j) (k0 : S 410 0 = S0 410 0) : rjdKi1 x S := by
  obtain ⟨-, h1, h2, h3⟩ := h
  refine ⟨hl, rjdKb_r (rjdKb_w h1 hW.2.2.2 e (Or.inl rfl) (Or.inr (Or.inr rfl)) (by decide)) r, ?_, rjdKb_r (rjdKb_c h1 (Or.inr (Or.inr rfl)) hW e) r⟩
  rw [k0]
  exact h2.imp id fun g => rjdKb_r (rjdKb_w g hW.2.2.2 e (Or.inr (Or.inl rfl)) (Or.inr (Or.inr rfl)) (by decide)) fun j a b => r3 j a (by omega)
theorem rjdK_b0 {n : Int} (h : rjdK x S0) (hl : rkPl S ∧ rkDu S) (z : S0 410 0 ≠ 0) (hW : rkWt4 S0 S1 23 160 6 12 n) (e : ∀ (p : Nat) (j : Int), rkRgn p → S p j = S1 p j) (r3 : ∀ j : Int, 0 ≤ j → j < 12360 → S 483 j = S0 483 j) (k0 : S 410 0 = S0 410 0) (k1 : S 410 1 = S0 410 1) : rjdKb0 x S := by
  obtain ⟨-, h1, h2, h3⟩ := h
  have h2 := h2.resolve_left z
  refine ⟨hl, rjdKb_r (rjdKb_c h2 (Or.inl rfl) hW e) fun j a b => r3 j a (by omega), Or.inr (rjdKb_r (rjdKb_w h2 hW.2.2.2 e (Or.inr (Or.inl rfl)) (Or.inl rfl) (by decide)) fun j a b => r3 j a (by omega)), ?_⟩
  rw [k1]
  exact h3.imp id fun g => rjdKb_r (rjdKb_w g hW.2.2.2 e (Or.inr (Or.inr rfl)) (Or.inl rfl) (by decide)) fun j a b => r3 (6180 + j) (by omega) (by omega)
theorem rjdK_b1 {n : Int} (h : rjdK x S0) (hl : rkPl S ∧ rkDu S) (z : S0 410 1 ≠ 0) (hW : rkWt4 S0 S1 23 296 6 12 n) (e : ∀ (p : Nat) (j : Int), rkRgn p → S p j = S1 p j) (r3 : ∀ j : Int, 0 ≤ j → j < 12360 → S 483 j = S0 483 j) (k0 : S 410 0 = S0 410 0) (k1 : S 410 1 = S0 410 1) : rjdKb1 x S := by
  obtain ⟨-, h1, h2, h3⟩ := h
  have h3 := h3.resolve_left z
  refine ⟨hl, rjdKb_r (rjdKb_c h3 (Or.inl rfl) hW e) fun j a b => r3 (6180 + j) (by omega) (by omega), ?_, Or.inr (rjdKb_r (rjdKb_w h3 hW.2.2.2 e (Or.inr (Or.inr rfl)) (Or.inl rfl) (by decide)) fun j a b => r3 (6180 + j) (by omega) (by omega))⟩
  rw [k0]
  exact h2.imp id fun g => rjdKb_r (rjdKb_w g hW.2.2.2 e (Or.inr (Or.inl rfl)) (Or.inl rfl) (by decide)) fun j a b => r3 j a (by omega)
/-! the reference's image, back -/
theorem rjdK_j (hs : bx_same rxL (bx_mdl ms) S S_p) (hk : [(1019, 0), (1020, 0), (6, 8), (6, 9), (6, 10), (1016, 0), (9, 0), (9, 1), (1002, 0), (1009, 0)].all (fun q => !(bx_mdl ms q.1 q.2)) = true) : (rkPl S ∧ rkDu S → rkPl S_p ∧ rkDu S_p) ∧ ∀ {R R' : Int → Int} {b : Nat}, rkTb b → rjdKb x S b R → (∀ j : Int, 0 ≤ j → j < 6180 → R' j = R j) → rjdKb x S_p b R' :=
  ⟨fun h => ⟨rkPl_sm hs (rjdKl hk (by decide)) h.1, rkDu_sm hs (rjdKl hk (by decide)) h.2⟩, fun hb h e => rjdKb_r (rjdKb_m hb h (rjdSm_sm hs (rjdKl hk (by decide)))) e⟩
theorem rjdK_j0 (hl : rkPl S ∧ rkDu S → rkPl S_p ∧ rkDu S_p) (hq : ∀ {R R' : Int → Int} {b : Nat}, rkTb b → rjdKb x S b R → (∀ j : Int, 0 ≤ j → j < 6180 → R' j = R j) → rjdKb x S_p b R') (h : rjdKi0 x S) (r : ∀ j : Int, 0 ≤ j → j < 6180 → S_p 482 j = S 482 j) (c1 : ∀ j : Int, 0 ≤ j → j < 6180 → S_p 483 j = S 482 j) (c2 : ∀ j : Int, 6180 ≤ j → S_p 483 j = S 483 j) (k1 : S_p 410 1 = S 410 1) : rjdK x S_p := by
  obtain ⟨h0, h1, h2, h3⟩ := h
  refine ⟨hl h0, hq (Or.inl rfl) h1 r, Or.inr (hq (Or.inr (Or.inl rfl)) h2 c1), ?_⟩
  rw [k1]
  exact h3.imp id fun g => hq (Or.inr (Or.inr rfl)) g fun j a b => c2 (6180 + j) (by omega)
theorem rjdK_j1 (hl : rkPl S ∧ rkDu S → rkPl S_p ∧ rkDu S_p) (hq : ∀ {R R' : Int → Int} {b : Nat}, rkTb b → rjdKb x S b R → (∀ j : Int, 0 ≤ j → j < 6180 → R' j = R j) → rjdKb x S_p b R') (h : rjdKi1 x S) (r : ∀ j : Int, 0 ≤ j → j < 6180 → S_p 482 j = S 482 j) (c1 : ∀ j : Int, 0 ≤ j → j < 6180 → S_p 483 (6180 + j) = S 482 j) (c2 : ∀ j : Int, j < 6180 → S_p 483 j = S 483 j) (k0 : S_p 410 0 = S 410 0) : rjdK x S_p := by
  obtain ⟨h0, h1, h2, h3⟩ := h
  refine ⟨hl h0, hq (Or.inl rfl) h1 r, ?_, Or.inr (hq (Or.inr (Or.inr rfl)) h3 c1)⟩
  rw [k0]
  exact h2.imp id fun g => hq (Or.inr (Or.inl rfl)) g fun j a b => c2 _ b
theorem rjdK_j2 (hl : rkPl S ∧ rkDu S → rkPl S_p ∧ rkDu S_p) (hq : ∀ {R R' : Int → Int} {b : Nat}, rkTb b → rjdKb x S b R → (∀ j : Int, 0 ≤ j → j < 6180 → R' j = R j) → rjdKb x S_p b R') (h : rjdK x S) (r : ∀ j : Int, 0 ≤ j → j < 6180 → S_p 482 j = S 482 j) (c3 : ∀ j : Int, 0 ≤ j → j < 12360 → S_p 483 j = S 483 j) (k0 : S_p 410 0 = S 410 0) (k1 : S_p 410 1 = S 410 1) : rjdK x S_p := by
  obtain ⟨h0, h1, h2, h3⟩ := h
  refine ⟨hl h0, hq (Or.inl rfl) h1 r, ?_, ?_⟩
  · rw [k0]
    exact h2.imp id fun g => hq (Or.inr (Or.inl rfl)) g fun j a b => c3 _ (by omega) (by omega)
  · rw [k1]
    exact h3.imp id fun g => hq (Or.inr (Or.inr rfl)) g fun j a b => c3 (6180 + j) (by omega) (by omega)
theorem rjdK_k0 (hl : rkPl S ∧ rkDu S → rkPl S_p ∧ rkDu S_p) (hq : ∀ {R R' : Int → Int} {b : Nat}, rkTb b → rjdKb x S b R → (∀ j : Int, 0 ≤ j → j < 6180 → R' j = R j) → rjdKb x S_p b R') (h : rjdKb0 x S) (r : ∀ j : Int, 0 ≤ j → j < 6180 → S_p 482 j = S 483 j) (c3 : ∀ j : Int, 0 ≤ j → j < 12360 → S_p 483 j = S 483 j) (k0 : S_p 410 0 = S 410 0) (k1 : S_p 410 1 = S 410 1) : rjdK x S_p := by
  obtain ⟨h0, h1, h2, h3⟩ := h
  refine ⟨hl h0, hq (Or.inl rfl) h1 r, ?_, ?_⟩
  · rw [k0]
    exact h2.imp id fun g => hq (Or.inr (Or.inl rfl)) g fun j a b => c3 _ (by omega) (by omega)
  · rw [k1]
    exact h3.imp id fun g => hq (Or.inr (Or.inr rfl)) g fun j a b => c3 (6180 + j) (by omega) (by omega)
theorem rjdK_k1 (hl : rkPl S ∧ rkDu S → rkPl S_p ∧ rkDu S_p) (hq : ∀ {R R' : Int → Int} {b : Nat}, rkTb b → rjdKb x S b R → (∀ j : Int, 0 ≤ j → j < 6180 → R' j = R j) → rjdKb x S_p b R') (h : rjdKb1 x S) (r : ∀ j : Int, 0 ≤ j → j < 6180 → S_p 482 j = S 483 (6180 + j)) (c3 : ∀ j : Int, 0 ≤ j → j < 12360 → S_p 483 j = S 483 j) (k0 : S_p 410 0 = S 410 0) (k1 : S_p 410 1 = S 410 1) : rjdK x S_p := by
  obtain ⟨h0, h1, h2, h3⟩ := h
  refine ⟨hl h0, hq (Or.inl rfl) h1 r, ?_, ?_⟩
  · rw [k0]
    exact h2.imp id fun g => hq (Or.inr (Or.inl rfl)) g fun j a b => c3 _ (by omega) (by omega)
  · rw [k1]
    exact h3.imp id fun g => hq (Or.inr (Or.inr rfl)) g fun j a b => c3 (6180 + j) (by omega) (by omega)
theorem rjdK_st : rjdK x rzS := by
  have e0 : rzS 482 0 = 0 := by decide +kernel
  have e2 : rzS 482 2 = 0 := by decide +kernel
  refine ⟨⟨rkPl_st, rkDu_st⟩, ⟨fun k c _ => ?_, fun _ k c _ => ?_⟩, Or.inl (by decide +kernel), Or.inl (by decide +kernel)⟩
  · rw [e0] at c
    omega
  · rw [e2] at c
    omega
end RJK
/-! ONE SCRIPT CHANGED, by both -/
theorem rjdOp_r {S : Nat → Int → Int} {pa : Int} : rjdOp S S pa := fun _ _ _ _ _ _ _ => rfl
def rjdKd : List (Nat × Nat) := [(6, 8), (6, 9), (6, 10), (1016, 0), (9, 0), (9, 1), (1002, 0), (1009, 0), (1031, 0), (1063, 2), (1063, 4), (1063, 13), (1063, 16), (1064, 0), (1064, 1)]
def rjdKr : List (Nat × Nat) := [(1019, 0), (1020, 0), (6, 8), (6, 9), (6, 10), (1016, 0), (9, 0), (9, 1), (1002, 0), (1009, 0), (1031, 0), (1064, 0), (1064, 1)]
section RJK2
variable {x : Bool} {S S_p : Nat → Int → Int} {ms : List (Nat × Nat)} {pa ix r : Int} {f : Int → Int}
theorem rjdK_rwp (h : rjdK x S) (p0 : 0 ≤ pa) (p1 : pa < S 482 0) (p5 : pa ≤ 5) : rjdRw S pa (rjSc (S 482) (22 + 36 * pa)) := by
  have g := rjdRb_w (h.2.1.1 pa.toNat (by omega) (by omega))
  rw [Int.toNat_of_nonneg p0] at g
  exact g
theorem rjdK_es (hs : bx_same rxL (bx_mdl ms) S S_p) (hk : rjdKd.all (fun q => !(bx_mdl ms q.1 q.2)) = true) (p0 : 0 ≤ pa) (p5 : pa ≤ 5) : rjSc (S_p 482) (22 + 36 * pa) = rjSc (S 482) (22 + 36 * pa) := rjSc_cg fun t t0 t1 => rjdK_ra hs (rjdKf hk (by decide)) _ (by omega) (by omega)
/-- the developers' call -/
theorem rjdK_dg (hs : bx_same rxL (bx_mdl ms) S S_p) (hk : rjdKd.all (fun q => !(bx_mdl ms q.1 q.2)) = true) (h : rjdK x S) (p0 : 0 ≤ pa) (p17 : pa ≤ 17) (hop : rjdOp S S_p pa) (hf : rjdRw S_p pa f) : rjdKm x pa.toNat f S_p := by
  refine rjdK_dm hs hk (by omega) ?_ ?_ h
  · rw [Int.toNat_of_nonneg p0]
    exact hop
  · rw [Int.toNat_of_nonneg p0]
    exact hf
theorem rjdK_d1 (hs : bx_same rxL (bx_mdl ms) S S_p) (hk : rjdKd.all (fun q => !(bx_mdl ms q.1 q.2)) = true) (h : rjdK x S) (p0 : 0 ≤ pa) (p1 : pa < S 482 0) (p5 : pa ≤ 5) (h0 : -1 ≤ r) (h1 : r ≤ 59) (hsl : rjdSl S_p pa ix r) (hot : rjdOt S S_p pa ix) : rjdKm x pa.toNat (rkUp (rjSc (S_p 482) (22 + 36 * pa)) ix r) S_p := by
  rw [rjdK_es hs hk p0 p5]
  exact rjdK_dg hs hk h p0 (by omega) (rjdOp_o rjdOp_r hot) (rjdRw_up p0 (by omega) (rjdK_rwp h p0 p1 p5) hsl hot h0 h1)
/-- what a rule's word is in both -/
theorem rjdK_wo (h : rjdK x S) (p0 : 0 ≤ pa) (p1 : pa < S 482 0) (p5 : pa ≤ 5) (i0 : 0 ≤ ix) (i1 : ix < 36) : S (24 + 3 * pa).toNat ix = rjWo (S 482 (22 + 36 * pa + ix)) ∧ S (25 + 3 * pa).toNat ix = rjNx (S 482 (22 + 36 * pa + ix)) := by
  obtain ⟨-, a, b⟩ := rjdK_rwp h p0 p1 p5 ix i0 i1
  rw [rjSc_in i0 i1] at a b
  exact ⟨a, b⟩
/-- the reference's call: a part's script is f now -/
theorem rjdK_rg (hs : bx_same rxL (bx_mdl ms) S S_p) (hk : rjdKr.all (fun q => !(bx_mdl ms q.1 q.2)) = true) (h : rjdKm x pa.toNat f S) (p0 : 0 ≤ pa) (p5 : pa ≤ 5) (e0 : S_p 482 0 = S 482 0) (e2 : x = true → S_p 482 2 = S 482 2) (hf : rjSc (S_p 482) (22 + 36 * pa) = f) (ho : ∀ j : Int, 22 ≤ j → j < 238 → (j < 22 + 36 * pa ∨ 58 + 36 * pa ≤ j) → S_p 482 j = S 482 j) (hv : x = true → ∀ j : Int, 298 ≤ j → j < 730 → S_p 482 j = S 482 j) : rjdK x S_p := by
  refine rjdK_rm hs hk h (fun k c c6 => ?_) (fun hx k c c12 => ?_)
  · by_cases e : k = pa.toNat
    · refine Or.inr ⟨e, ?_⟩
      rw [show (k : Int) = pa by omega]
      exact hf
    · exact Or.inl ⟨e, by omega, rjSc_cg fun t t0 t1 => ho _ (by omega) (by omega) (by omega)⟩
  · refine Or.inl ⟨by omega, ?_, rjSc_cg fun t t0 t1 => hv hx _ (by omega) (by omega)⟩
    rw [← e2 hx]
    exact c
/-- a part more -/
theorem rjdK_rn (hs : bx_same rxL (bx_mdl ms) S S_p) (hk : rjdKr.all (fun q => !(bx_mdl ms q.1 q.2)) = true) (h : rjdKm x (S 482 0).toNat f S) (p0 : 0 ≤ S 482 0) (p5 : S 482 0 ≤ 5) (e0 : S_p 482 0 = S 482 0 + 1) (e2 : x = true → S_p 482 2 = S 482 2) (hf : rjSc (S_p 482) (22 + 36 * S 482 0) = f) (ho : ∀ j : Int, 22 ≤ j → j < 238 → (j < 22 + 36 * S 482 0 ∨ 58 + 36 * S 482 0 ≤ j) → S_p 482 j = S 482 j) (hv : x = true → ∀ j : Int, 298 ≤ j → j < 730 → S_p 482 j = S 482 j) : rjdK x S_p := by
  refine rjdK_rm hs hk h (fun k c c6 => ?_) (fun hx k c c12 => ?_)
  · by_cases e : k = (S 482 0).toNat
    · refine Or.inr ⟨e, ?_⟩
      rw [show (k : Int) = S 482 0 by omega]
      exact hf
    · exact Or.inl ⟨e, by omega, rjSc_cg fun t t0 t1 => ho _ (by omega) (by omega) (by omega)⟩
  · refine Or.inl ⟨by omega, ?_, rjSc_cg fun t t0 t1 => hv hx _ (by omega) (by omega)⟩
    rw [← e2 hx]
    exact c
end RJK2
theorem rx_conXP {PX : State → Prop} {Dg : va_G} {A : Nat → Prop} {ad : Nat → Nat} {l : Launch} {M : rx_Mt} {ct : bx_Ct} {P P' : (Nat → Int → Int) → List Int → Prop} {PS : (Nat → Int → Int) → List Int → (Nat → Int → Int) → Option Int → Prop} (h : bx_ConP rxG rxNW rxAO PX Dg rxL (fun _ => True) vwCl A ad l M ct P PS) (hP : ∀ S0 ws, rxX S0 → P' S0 ws → P S0 ws) (hPS : ∀ S0 ws S w, rxX S0 → bx_same rxL (bx_mdl ct.2.2.1) S0 S → PS S0 ws S w → rxX S) : bx_ConP rxG rxNW rxAO PX Dg rxL rxX vwCl A ad l M ct P' PS := by
  intro S0 ws hX0 hvs hpr hp Qc hQc
  refine h S0 ws trivial hvs hpr (hP _ _ hX0 hp) Qc fun x st oc t hq => hQc x st oc t ?_
  obtain ⟨⟨S_p, rv, g1, g2, g3, g4, -, w, g5, g6⟩, g7⟩ := hq
  exact ⟨⟨S_p, rv, g1, g2, g3, g4, hPS _ _ _ _ hX0 g4 g5, w, g5, g6⟩, g7⟩
