noncomputable def rzSm (T : Int → Int) (n f : Int) : Prop := f < n ∧ (T f = 43 ∨ T f = 45 ∨ T f = 42 ∨ T f = 47 ∨ T f = 37)
noncomputable def rzCp (T : Int → Int) (n f : Int) : Prop := f < n ∧ (T f = 60 ∨ T f = 62 ∨ T f = 61)
theorem rzWd_nl {T : Int → Int} {n f : Int} {w : List Int} (hw : rzOkW w = true) (h : f < n → rzL (T f) = false) : rzIs T n w f = false := by
  cases hb : rzIs T n w f with
  | false => rfl
  | true =>
    have q := (rzIs_iff hw).mp hb
    rw [h q.1] at q
    exact absurd q.2.1 (by decide)
theorem rzSg_r {T : Int → Int} {n c f : Int} (h : rzSg T n c f = true) : f < n ∧ T f = c := of_decide_eq_true h
noncomputable def rzSd (S0 S : Nat → Int → Int) (l m dp : Int) : Prop := 0 ≤ m ∧ m ≤ S0 480 24 ∧ S 480 25 = S0 480 25 + dp ∧ S 480 21 = S0 480 21 ∧ (∀ j : Int, 0 ≤ j → j < m → S 489 j = S0 489 j) ∧ ∀ j : Int, m ≤ j → j < S0 480 24 → l ≤ rxBd (S0 489 j)
theorem rzSd_st {S0 S S_p : Nat → Int → Int} {l : Int} (p : rzPl S0 S 0 0 0) (h : rxSt S S_p l) (e21 : S_p 480 21 = S 480 21) : rzSd S0 S_p l (S_p 480 24) 0 := by
  obtain ⟨a1, a2, a3, a4, a5, a6, a7, a8, a9, a10⟩ := h
  obtain ⟨p1, p2, p3, p4⟩ := p
  refine ⟨a2, by omega, by omega, by omega, fun j x y => ?_, fun j x y => ?_⟩
  · rw [a7]
    exact p4 j x (by omega)
  · rw [← p4 j (by omega) y]
    exact a9 j x (by omega)
theorem rzSd_c {S0 S S_p : Nat → Int → Int} {l m dp : Int} (h : rzSd S0 S l m dp) (e25 : S_p 480 25 = S 480 25) (e21 : S_p 480 21 = S 480 21) (e : ∀ j : Int, 0 ≤ j → j < m → S_p 489 j = S 489 j) : rzSd S0 S_p l m dp :=
  ⟨h.1, h.2.1, e25.trans h.2.2.1, e21.trans h.2.2.2.1, fun j a b => (e j a b).trans (h.2.2.2.2.1 j a b), h.2.2.2.2.2⟩
theorem rzSd_m {S0 S : Nat → Int → Int} {l l_p m dp : Int} (hl : l_p ≤ l) (h : rzSd S0 S l m dp) : rzSd S0 S l_p m dp :=
  ⟨h.1, h.2.1, h.2.2.1, h.2.2.2.1, h.2.2.2.2.1, fun j a b => Int.le_trans hl (h.2.2.2.2.2 j a b)⟩
theorem rxBd5 {v : Int} (h : 5 ≤ rxBd v) (h0 : 20 ≤ v) : 20 ≤ v ∧ v ≤ 24 := by
  have := rxBd_cases v
  omega
theorem rxBd1 {v : Int} (h : 1 ≤ rxBd v) : v < 31 := by
  have := rxBd_cases v
  omega
section RZBS
variable {S0 S : Nat → Int → Int} {tst s m : Int} {rest : List Int}
theorem rzTn_sum (h20 : ∀ j : Int, 0 ≤ j → j < S0 480 24 → 20 ≤ S0 489 j) (hs : rzSm (rzCut (S0 485)) (S0 480 8) (S0 480 9)) (r : rzSr S0 tst (s :: rest)) (h4 : s ≠ 1 ∧ s ≠ 4) (h14 : S 480 14 = 0) (nw : rzNw S0 S) (d : rzSd S0 S 5 m 0) (e24 : S 480 24 = m + 1) (hp : 20 ≤ S 489 m ∧ S 489 m ≤ 24) (hc : s = 0 ∨ s = 2 ∨ s = 3) : rzTn S0 S tst (s :: rest) true (some 1) := by
  obtain ⟨d1, d2, d3, d4, d5, d6⟩ := d
  have r1 : rzSr S tst (s :: rest) := by
    refine ⟨?_, by have := r.2.1; omega, by omega⟩
    rw [e24]
    exact rzBr_sum r.2.2 r.1 h4 d1 d2 (fun j a b => rxBd5 (d6 j a b) (h20 j (by omega) b)) d5 hp
  obtain ⟨s1, s2⟩ := hs
  refine rzTn_y (t := 1) h14 rfl nw r1 (Or.inr (Or.inl ⟨rfl, hc⟩)) ?_
  have hl : S0 480 9 < S0 480 8 → rzL (rzCut (S0 485) (S0 480 9)) = false := fun _ => rzL_f (by omega)
  have h3 : ¬ ((s = 3 ∨ s = 4) ∧ (rzIs (rzCut (S0 485)) (S0 480 8) rzW_and (S0 480 9) = true ∨ rzIs (rzCut (S0 485)) (S0 480 8) rzW_or (S0 480 9) = true)) := fun g => by
    rcases g.2 with q | q
    · rw [rzWd_nl (w := rzW_and) (by decide) hl] at q
      cases q
    · rw [rzWd_nl (w := rzW_or) (by decide) hl] at q
      cases q
  have h93 : ¬ (rest ≠ [] ∧ s = 0 ∧ rzSg (rzCut (S0 485)) (S0 480 8) 93 (S0 480 9) = true) := fun g => by
    have := (rzSg_r g.2.2).2
    omega
  have h41 : ¬ (rest ≠ [] ∧ (s = 3 ∨ s = 4) ∧ rzSg (rzCut (S0 485)) (S0 480 8) 41 (S0 480 9) = true) := fun g => by
    have := (rzSg_r g.2.2).2
    omega
  rw [rzStep_1, if_neg h93, if_neg h41, if_neg h3, if_pos ⟨h4.2, s1, s2⟩, d4]
  simp
theorem rzTn_cs (r : rzSr S0 tst (0 :: rest)) (hr : rest ≠ []) (h93 : rzSg (rzCut (S0 485)) (S0 480 8) 93 (S0 480 9) = true) (h14 : S 480 14 = 0) (nw : rzNw S0 S) (d : rzSd S0 S 5 m (-1)) (hm : 1 ≤ m) (e24 : S 480 24 = m - 1) (ht : 31 ≤ S0 489 (m - 1)) : rzTn S0 S tst (0 :: rest) true (some 3) := by
  obtain ⟨d1, d2, d3, d4, d5, d6⟩ := d
  match rest, hr, r with
  | [], hr, _ => exact absurd rfl hr
  | s_p :: q, _, r =>
    have g := rzBr_at r.1 hm d2 (fun j a b => rxBd1 (by have := d6 j a b; omega)) ht
    have hs := rzBr_s1 (by omega) g.2
    have g1 := g.1
    have r1 : rzSr S tst (s_p :: q) := by
      refine ⟨?_, by have := r.2.1; simp only [List.length_cons] at this ⊢; omega, by omega⟩
      rw [e24]
      exact rzBr_cg (fun j a b => d5 j a (by omega)) g.2
    refine rzTn_y (t := 3) h14 rfl nw r1 (Or.inr (Or.inr (Or.inl ⟨rfl, by omega⟩))) ?_
    rw [rzStep_1, if_pos ⟨by simp, rfl, h93⟩, d4]
    simp
theorem rzTn_csn {w : Option Int} (hr : rest ≠ []) (ns : ¬ rzSm (rzCut (S0 485)) (S0 480 8) (S0 480 9)) (h93 : rzSg (rzCut (S0 485)) (S0 480 8) 93 (S0 480 9) = false) (h14 : S 480 14 ≠ 0) (h13 : S 480 13 = S0 480 9) : rzTn S0 S tst (0 :: rest) true w := by
  refine rzTn_n (f_p := S0 480 9) (lv_p := 0 :: rest) (pr_p := true) (lf_p := S0 480 21) h14 h13 ?_
  rw [rzStep_1, if_neg (fun g => by rw [h93] at g; exact absurd g.2.2 (by decide)), if_neg (fun g => by omega), if_neg (fun g => by omega), if_neg (fun g => ns g.2), if_neg (fun g => by omega), if_neg (fun g => hr g.1)]
theorem rzTn_cmp (h20 : ∀ j : Int, 0 ≤ j → j < S0 480 24 → 20 ≤ S0 489 j) (ns : ¬ rzSm (rzCut (S0 485)) (S0 480 8) (S0 480 9)) (hc : rzCp (rzCut (S0 485)) (S0 480 8) (S0 480 9)) (r : rzSr S0 tst (2 :: rest)) (h14 : S 480 14 = 0) (nw : rzNw S0 S) (d : rzSd S0 S 5 m 0) (e24 : S 480 24 = m + 1) (hp : 25 ≤ S 489 m ∧ S 489 m ≤ 27) : rzTn S0 S tst (2 :: rest) true (some 1) := by
  obtain ⟨d1, d2, d3, d4, d5, d6⟩ := d
  have r1 : rzSr S tst (3 :: rest) := by
    refine ⟨?_, by have := r.2.1; simp only [List.length_cons] at this ⊢; omega, by omega⟩
    rw [e24]
    exact rzBr_cmp r.2.2 r.1 d1 d2 (fun j a b => rxBd5 (d6 j a b) (h20 j (by omega) b)) d5 hp
  refine rzTn_y (t := 1) h14 rfl nw r1 (Or.inr (Or.inl ⟨rfl, by omega⟩)) ?_
  rw [rzStep_1, if_neg (fun g => by omega), if_neg (fun g => by omega), if_neg (fun g => by omega), if_neg (fun g => ns g.2), if_pos ⟨rfl, hc⟩, d4]
  simp
theorem rzTn_cmn {w : Option Int} (ns : ¬ rzSm (rzCut (S0 485)) (S0 480 8) (S0 480 9)) (hc : ¬ rzCp (rzCut (S0 485)) (S0 480 8) (S0 480 9)) (h14 : S 480 14 ≠ 0) (h13 : S 480 13 = S0 480 9) : rzTn S0 S tst (2 :: rest) true w := by
  refine rzTn_n (f_p := S0 480 9) (lv_p := 2 :: rest) (pr_p := true) (lf_p := S0 480 21) h14 h13 ?_
  rw [rzStep_1, if_neg (fun g => by omega), if_neg (fun g => by omega), if_neg (fun g => by omega), if_neg (fun g => ns g.2), if_neg (fun g => hc g.2), if_neg (fun g => by omega)]
theorem rzTn_ao (ha : rzIs (rzCut (S0 485)) (S0 480 8) rzW_and (S0 480 9) = true ∨ rzIs (rzCut (S0 485)) (S0 480 8) rzW_or (S0 480 9) = true) (r : rzSr S0 tst (s :: rest)) (hs : s = 3 ∨ s = 4) (h14 : S 480 14 = 0) (nw : rzNw S0 S) (d : rzSd S0 S 1 m 0) (e24 : S 480 24 = m + 1) (hp : S 489 m = 29 ∨ S 489 m = 30) : rzTn S0 S tst (s :: rest) true (some 0) := by
  obtain ⟨d1, d2, d3, d4, d5, d6⟩ := d
  have r1 : rzSr S tst (1 :: rest) := by
    refine ⟨?_, by have := r.2.1; simp only [List.length_cons] at this ⊢; omega, by omega⟩
    rw [e24]
    exact rzBr_log r.2.2 r.1 hs d1 d2 (fun j a b => rxBd1 (d6 j a b)) d5 hp
  have hl : rzL (rzCut (S0 485) (S0 480 9)) = true := by
    rcases ha with q | q
    · exact ((rzIs_iff (w := rzW_and) (by decide)).mp q).2.1
    · exact ((rzIs_iff (w := rzW_or) (by decide)).mp q).2.1
  have hl := rzL_b hl
  refine rzTn_y (t := 0) h14 rfl nw r1 (Or.inl ⟨rfl, rfl⟩) ?_
  rw [rzStep_1, if_neg (fun g => by omega), if_neg (fun g => by have := (rzSg_r g.2.2).2; omega), if_pos ⟨hs, ha⟩, d4]
  simp
theorem rzTn_cr (r : rzSr S0 tst (s :: rest)) (hs : s = 3 ∨ s = 4) (hr : rest ≠ []) (h41 : rzSg (rzCut (S0 485)) (S0 480 8) 41 (S0 480 9) = true) (h14 : S 480 14 = 0) (nw : rzNw S0 S) (d : rzSd S0 S 1 m (-1)) (hm : 1 ≤ m) (e24 : S 480 24 = m - 1) (ht : 31 ≤ S0 489 (m - 1)) : rzTn S0 S tst (s :: rest) true (some 2) := by
  obtain ⟨d1, d2, d3, d4, d5, d6⟩ := d
  have g := rzBr_cr r.1 hr (by omega) hm d2 (fun j a b => rxBd1 (d6 j a b)) ht
  have r1 : rzSr S tst (4 :: rest.tail) := by
    refine ⟨?_, ?_, by omega⟩
    · rw [e24]
      exact rzBr_cg (fun j a b => d5 j a (by omega)) g
    · have q := r.2.1
      match rest, hr with
      | [], hr => exact absurd rfl hr
      | x :: y, _ =>
        simp only [List.length_cons, List.tail_cons] at q ⊢
        omega
  refine rzTn_y (t := 2) h14 rfl nw r1 (Or.inr (Or.inr (Or.inr ⟨rfl, rfl⟩))) ?_
  rw [rzStep_1, if_neg (fun g => by omega), if_pos ⟨hr, hs, h41⟩, d4]
  simp
theorem rzTn_crn {w : Option Int} (hs : s = 3 ∨ s = 4) (hr : rest ≠ []) (hns : s = 3 → ¬ rzSm (rzCut (S0 485)) (S0 480 8) (S0 480 9)) (ha : rzIs (rzCut (S0 485)) (S0 480 8) rzW_and (S0 480 9) = false) (ho : rzIs (rzCut (S0 485)) (S0 480 8) rzW_or (S0 480 9) = false) (h41 : rzSg (rzCut (S0 485)) (S0 480 8) 41 (S0 480 9) = false) (h14 : S 480 14 ≠ 0) (h13 : S 480 13 = S0 480 9) : rzTn S0 S tst (s :: rest) true w := by
  refine rzTn_n (f_p := S0 480 9) (lv_p := s :: rest) (pr_p := true) (lf_p := S0 480 21) h14 h13 ?_
  rw [rzStep_1, if_neg (fun g => by omega), if_neg (fun g => by rw [h41] at g; exact absurd g.2.2 (by decide)), if_neg (fun g => by rw [ha, ho] at g; exact absurd g.2 (by decide)), if_neg (fun g => hns (by omega) g.2), if_neg (fun g => by omega), if_neg (fun g => hr g.1)]
theorem rzStep_dn {T : Int → Int} {n f lf : Int} {ws : List (List Int)} (hs : s = 0 ∨ s = 3 ∨ s = 4) (hns : s ≠ 4 → ¬ rzSm T n f) (hao : s = 0 ∨ (rzIs T n rzW_and f = false ∧ rzIs T n rzW_or f = false)) : rzStep T n ws f [s] true lf = (1, f, [s], true, lf) := by
  rw [rzStep_1, if_neg (fun g => g.1 rfl), if_neg (fun g => g.1 rfl), if_neg (fun g => by
    rcases hao with q | q
    · omega
    · rw [q.1, q.2] at g
      exact absurd g.2 (by decide)), if_neg (fun g => hns g.1 g.2), if_neg (fun g => by omega), if_pos ⟨rfl, by omega, by omega⟩]
noncomputable def rzTo (S0 S : Nat → Int → Int) (tst s : Int) (rest : List Int) (w : Option Int) : Prop := rzTn S0 S tst (s :: rest) true w ∨ (S = S0 ∧ w = some 2 ∧ s = 3 ∧ ¬ rzSm (rzCut (S0 485)) (S0 480 8) (S0 480 9)) ∨ (S = S0 ∧ w = some 4 ∧ rzStep (rzCut (S0 485)) (S0 480 8) (rzWr S0) (S0 480 9) (s :: rest) true (S0 480 21) = (1, S0 480 9, s :: rest, true, S0 480 21))
end RZBS
theorem rzSm_iff {S : Nat → Int → Int} (h : rzDq S) : rzSm (rzCut (S 485)) (S 480 8) (S 480 9) ↔ (S 480 11 = 3 ∧ (S 480 12 = 43 ∨ S 480 12 = 45 ∨ S 480 12 = 42 ∨ S 480 12 = 47 ∨ S 480 12 = 37)) := by
  constructor
  · rintro ⟨a, b⟩
    rcases b with b | b | b | b | b
    · have q := (rzDq_sg (c := 43) h (by decide) (by decide)).mpr (decide_eq_true ⟨a, b⟩)
      omega
    · have q := (rzDq_sg (c := 45) h (by decide) (by decide)).mpr (decide_eq_true ⟨a, b⟩)
      omega
    · have q := (rzDq_sg (c := 42) h (by decide) (by decide)).mpr (decide_eq_true ⟨a, b⟩)
      omega
    · have q := (rzDq_sg (c := 47) h (by decide) (by decide)).mpr (decide_eq_true ⟨a, b⟩)
      omega
    · have q := (rzDq_sg (c := 37) h (by decide) (by decide)).mpr (decide_eq_true ⟨a, b⟩)
      omega
  · rintro ⟨a, b⟩
    rcases b with b | b | b | b | b
    · have q := rzSg_r ((rzDq_sg (c := 43) h (by decide) (by decide)).mp ⟨a, b⟩)
      exact ⟨q.1, by omega⟩
    · have q := rzSg_r ((rzDq_sg (c := 45) h (by decide) (by decide)).mp ⟨a, b⟩)
      exact ⟨q.1, by omega⟩
    · have q := rzSg_r ((rzDq_sg (c := 42) h (by decide) (by decide)).mp ⟨a, b⟩)
      exact ⟨q.1, by omega⟩
    · have q := rzSg_r ((rzDq_sg (c := 47) h (by decide) (by decide)).mp ⟨a, b⟩)
      exact ⟨q.1, by omega⟩
    · have q := rzSg_r ((rzDq_sg (c := 37) h (by decide) (by decide)).mp ⟨a, b⟩)
      exact ⟨q.1, by omega⟩
theorem rzCp_iff {S : Nat → Int → Int} (h : rzDq S) : rzCp (rzCut (S 485)) (S 480 8) (S 480 9) ↔ (S 480 11 = 3 ∧ (S 480 12 = 60 ∨ S 480 12 = 62 ∨ S 480 12 = 61)) := by
  constructor
  · rintro ⟨a, b⟩
    rcases b with b | b | b
    · have q := (rzDq_sg (c := 60) h (by decide) (by decide)).mpr (decide_eq_true ⟨a, b⟩)
      omega
    · have q := (rzDq_sg (c := 62) h (by decide) (by decide)).mpr (decide_eq_true ⟨a, b⟩)
      omega
    · have q := (rzDq_sg (c := 61) h (by decide) (by decide)).mpr (decide_eq_true ⟨a, b⟩)
      omega
  · rintro ⟨a, b⟩
    rcases b with b | b | b
    · have q := rzSg_r ((rzDq_sg (c := 60) h (by decide) (by decide)).mp ⟨a, b⟩)
      exact ⟨q.1, by omega⟩
    · have q := rzSg_r ((rzDq_sg (c := 62) h (by decide) (by decide)).mp ⟨a, b⟩)
      exact ⟨q.1, by omega⟩
    · have q := rzSg_r ((rzDq_sg (c := 61) h (by decide) (by decide)).mp ⟨a, b⟩)
      exact ⟨q.1, by omega⟩
noncomputable def rzIn (S : Nat → Int → Int) (its : Int) : Prop := (its = -1 ∧ ∀ j : Int, 0 ≤ j → j < S 480 24 → S 489 j < 31) ∨ (31 ≤ its ∧ ∃ b : Int, 0 ≤ b ∧ b < S 480 24 ∧ S 489 b = its ∧ ∀ j : Int, b < j → j < S 480 24 → S 489 j < 31)
theorem rzCm_0 {P : Int → Int} {n : Int} (h : n ≤ 0) : ¬ rzCm P n := fun g => by
  obtain ⟨k, k0, k1, -⟩ := g
  omega
theorem rzCm_iff {P : Int → Int} {k : Int} (h : 20 ≤ P k ∧ P k ≤ 24) : rzCm P (k + 1) ↔ rzCm P k := by
  constructor
  · intro g
    rcases rzCm_n g with q | q
    · omega
    · exact q.2.2
  · intro g
    exact rzCm_up (by omega) (fun j a b => by
      have e : j = k := by omega
      rw [e]
      exact h) g
noncomputable def rxCISW : bx_Ct := ([(3, (1, 480, 0)), (0, (0, 0, 127))], some (0, (0, 0, 1)), [], 0, [])
noncomputable def rxIISW_0 (S0 : Nat → Int → Int) (ws : List Int) (S : Nat → Int → Int) (x : Int) : Prop := rxIIS_0 S0 ws S x ∧ True
noncomputable def rxmISW_0 (S0 : Nat → Int → Int) (ws : List Int) (S : Nat → Int → Int) (x : Int) : Nat := rxmIS_0 S0 ws S x
noncomputable def rxzISW_0 : rx_Z := ([(0, 0), (0, 0), (0, 0), (0, 0), (0, 0), (0, 0), (0, 0), (0, 0), (0, 127)], [], [], 0, 0, 0, [(0, .inr (3, (0, 480))), (1, .inr (0, (8, 0)))], [])
noncomputable def rxeISW_0_0 : rx_End × List (Nat × Int × Int) := (([(0, 0), (0, 0), (0, 0), (0, 0), (0, 0), (0, 0), (0, 0), (0, 0), (0, 127), (3, 3), (0, 127)], [(2, (10, 0), (8, 0))], [(((0, 0), 1851192626986356799832820811818326617396875588472066220482363392000000), .inr (1, (10, 0))), (((0, 480), 12), .inr (1, (10, 0))), (((0, 0), 1851192626986356799632114105031551009123054124018230966928539648000000), .inr (0, (9, 0))), (((0, 480), 11), .inr (0, (9, 0)))], some (.inr (0, (0, 1)))), [])
noncomputable def rxeISW_0_1 : rx_End × List (Nat × Int × Int) := (([(0, 0), (0, 0), (0, 0), (0, 0), (0, 0), (0, 0), (0, 0), (0, 0), (0, 127), (3, 3), ((-9223372036854775808), 9223372036854775807)], [(3, (10, 0), (8, 0))], [(((0, 0), 1851192626986356799832820811818326617396875588472066220482363392000000), .inr (1, (10, 0))), (((0, 480), 12), .inr (1, (10, 0))), (((0, 0), 1851192626986356799632114105031551009123054124018230966928539648000000), .inr (0, (9, 0))), (((0, 480), 11), .inr (0, (9, 0)))], some (.inr (0, (0, 0)))), [])
noncomputable def rxeISW_0_2 : rx_End × List (Nat × Int × Int) := (([(0, 0), (0, 0), (0, 0), (0, 0), (0, 0), (0, 0), (0, 0), (0, 0), (0, 127), (0, 2)], [(3, (9, 0), (0, 3))], [(((0, 0), 1851192626986356799632114105031551009123054124018230966928539648000000), .inr (0, (9, 0))), (((0, 480), 11), .inr (0, (9, 0)))], some (.inr (0, (0, 0)))), [])
noncomputable def rxYISW : List bx_HE := [(rxzISW_0, [], [rxeISW_0_0, rxeISW_0_1, rxeISW_0_2])]
noncomputable def rxUISW (q : bx_HE) : Bool := false
noncomputable def rxYBISW : bx_B := (rxV, rxNP, rxDmf, bx_mdH rxCISW.2.2.1)
set_option maxRecDepth 100000 in
theorem rxYcISW : bx_chkH rxYBISW rxM269 rxCISW rxYISW (rxUISW, fun cut z => rx_ex2 (rxCT rxYBISW rxCnE) cut 30000 rxCISW.2.2.2.1 269 z) = true := by decide +kernel
noncomputable def rxIISW (S0 : Nat → Int → Int) (ws : List Int) (i : Nat) : bx_SP := fun S r => match i with | 0 => rxIISW_0 S0 ws S (r 8) | _ => False
noncomputable def rxmISW (S0 : Nat → Int → Int) (ws : List Int) (i : Nat) (S : Nat → Int → Int) (r : Nat → Int) : Nat := match i with | 0 => rxmISW_0 S0 ws S (r 8) | _ => 0
noncomputable def rxPISW (S0 : Nat → Int → Int) (ws : List Int) : Prop := rxPIS S0 ws
noncomputable def rxPSISW (S0 : Nat → Int → Int) (ws : List Int) (S : Nat → Int → Int) (w : Option Int) : Prop := rxPSIS S0 ws S w ∧ (∃ x : Int, ws = [480, x] ∧ ((w = some 1 ∧ S0 480 11 = 3 ∧ S0 480 12 = x) ∨ (w = some 0 ∧ ¬ (S0 480 11 = 3 ∧ S0 480 12 = x))))
theorem rxdISW_0_0 {S0 : Nat → Int → Int} {ws : List Int} {S : Nat → Int → Int} {x x9 x10 : Int} (hP : rxPISW S0 ws) (hin : bx_same rxL (bx_mdl rxCISW.2.2.1) S0 S) (hin2 : bx_same rxL (bx_mdl rxCISW.2.2.1) S S) (I0 : bx_Inv rxL S) (I1 : bx_Inv rxL S) (hinv : rxIISW_0 S0 ws S x) (l8 : 0 ≤ x) (u8 : x ≤ 127) (l9 : 3 ≤ x9) (u9 : x9 ≤ 3) (l10 : 0 ≤ x10) (u10 : x10 ≤ 127) (f0 : x10 = x) (e1 : S 480 11 = x9) (e0 : S 480 12 = x10) : (True) ∧ rxPSISW S0 ws S (some 1) := by
  obtain ⟨hI, hx⟩ := hinv
  obtain ⟨a_, c_⟩ := rxdIS_0_0 hP hin hin2 I0 I1 hI l8 u8 l9 u9 l10 u10 f0 e1 e0
  exact ⟨a_, c_, (by
    have e := hI.1
    have hw := hI.2
    subst e
    exact ⟨x, hw, Or.inl ⟨rfl, by omega, by omega⟩⟩)⟩
theorem rxfISW_0_0 {X : (Nat → Int → Int) → Prop} {S0 : Nat → Int → Int} {ws : List Int} (hP : rxPISW S0 ws) : bx_obE rxL X S0 rxCISW.2.2.1 (rxIISW S0 ws) (rxPSISW S0 ws) 0 rxzISW_0 rxeISW_0_0 := by
  intro S S_p r r_p hinv hX hin hsm_ hseg
  obtain ⟨I0, I1, h0_, hr_, b_, f_, d_⟩ := bx_cl (evs := [(0, (0, 480), (0, 12), .inr (1, (10, 0))), (0, (0, 480), (0, 11), .inr (0, (9, 0)))]) (fvs := [(2, (10, 0), (8, 0), (0, 0))]) hseg (by decide +kernel) (by decide +kernel)
  have hinv : rxIISW_0 S0 ws S (r 8) := hinv
  rw [← hr_ 8 (by decide)] at hinv
  obtain ⟨⟨l8, u8⟩, ⟨l9, u9⟩, ⟨l10, u10⟩, -⟩ := b_
  obtain ⟨f0, -⟩ := f_
  obtain ⟨e0, ⟨e1, w_⟩⟩ := d_
  subst w_
  have g := rxdISW_0_0 hP hin hsm_ I0 I1 hinv l8 u8 l9 u9 l10 u10 f0 e1 e0
  refine ⟨bx_narP_ok (l := []) g.1, ?_⟩
  show rxPSISW S0 ws S_p (some (bx_num r_p (.inr (0, (0, 1)))))
  rw [bx_xv_ok h0_]
  exact g.2
theorem rxdISW_0_1 {S0 : Nat → Int → Int} {ws : List Int} {S : Nat → Int → Int} {x x9 x10 : Int} (hP : rxPISW S0 ws) (hin : bx_same rxL (bx_mdl rxCISW.2.2.1) S0 S) (hin2 : bx_same rxL (bx_mdl rxCISW.2.2.1) S S) (I0 : bx_Inv rxL S) (I1 : bx_Inv rxL S) (hinv : rxIISW_0 S0 ws S x) (l8 : 0 ≤ x) (u8 : x ≤ 127) (l9 : 3 ≤ x9) (u9 : x9 ≤ 3) (l10 : (-9223372036854775808) ≤ x10) (u10 : x10 ≤ 9223372036854775807) (f0 : x10 ≠ x) (e1 : S 480 11 = x9) (e0 : S 480 12 = x10) : (True) ∧ rxPSISW S0 ws S (some 0) := by
  obtain ⟨hI, hx⟩ := hinv
  obtain ⟨a_, c_⟩ := rxdIS_0_1 hP hin hin2 I0 I1 hI l8 u8 l9 u9 l10 u10 f0 e1 e0
  exact ⟨a_, c_, (by
    have e := hI.1
    have hw := hI.2
    subst e
    exact ⟨x, hw, Or.inr ⟨rfl, fun g => by omega⟩⟩)⟩
theorem rxfISW_0_1 {X : (Nat → Int → Int) → Prop} {S0 : Nat → Int → Int} {ws : List Int} (hP : rxPISW S0 ws) : bx_obE rxL X S0 rxCISW.2.2.1 (rxIISW S0 ws) (rxPSISW S0 ws) 0 rxzISW_0 rxeISW_0_1 := by
  intro S S_p r r_p hinv hX hin hsm_ hseg
  obtain ⟨I0, I1, h0_, hr_, b_, f_, d_⟩ := bx_cl (evs := [(0, (0, 480), (0, 12), .inr (1, (10, 0))), (0, (0, 480), (0, 11), .inr (0, (9, 0)))]) (fvs := [(3, (10, 0), (8, 0), (0, 0))]) hseg (by decide +kernel) (by decide +kernel)
  have hinv : rxIISW_0 S0 ws S (r 8) := hinv
  rw [← hr_ 8 (by decide)] at hinv
  obtain ⟨⟨l8, u8⟩, ⟨l9, u9⟩, ⟨l10, u10⟩, -⟩ := b_
  obtain ⟨f0, -⟩ := f_
  obtain ⟨e0, ⟨e1, w_⟩⟩ := d_
  subst w_
  have g := rxdISW_0_1 hP hin hsm_ I0 I1 hinv l8 u8 l9 u9 l10 u10 f0 e1 e0
  refine ⟨bx_narP_ok (l := []) g.1, ?_⟩
  show rxPSISW S0 ws S_p (some (bx_num r_p (.inr (0, (0, 0)))))
  rw [bx_xv_ok h0_]
  exact g.2
theorem rxdISW_0_2 {S0 : Nat → Int → Int} {ws : List Int} {S : Nat → Int → Int} {x x9 : Int} (hP : rxPISW S0 ws) (hin : bx_same rxL (bx_mdl rxCISW.2.2.1) S0 S) (hin2 : bx_same rxL (bx_mdl rxCISW.2.2.1) S S) (I0 : bx_Inv rxL S) (I1 : bx_Inv rxL S) (hinv : rxIISW_0 S0 ws S x) (l8 : 0 ≤ x) (u8 : x ≤ 127) (l9 : 0 ≤ x9) (u9 : x9 ≤ 2) (f0 : x9 ≠ 3) (e0 : S 480 11 = x9) : (True) ∧ rxPSISW S0 ws S (some 0) := by
  obtain ⟨hI, hx⟩ := hinv
  obtain ⟨a_, c_⟩ := rxdIS_0_2 hP hin hin2 I0 I1 hI l8 u8 l9 u9 f0 e0
  exact ⟨a_, c_, (by
    have e := hI.1
    have hw := hI.2
    subst e
    exact ⟨x, hw, Or.inr ⟨rfl, fun g => by omega⟩⟩)⟩
theorem rxfISW_0_2 {X : (Nat → Int → Int) → Prop} {S0 : Nat → Int → Int} {ws : List Int} (hP : rxPISW S0 ws) : bx_obE rxL X S0 rxCISW.2.2.1 (rxIISW S0 ws) (rxPSISW S0 ws) 0 rxzISW_0 rxeISW_0_2 := by
  intro S S_p r r_p hinv hX hin hsm_ hseg
  obtain ⟨I0, I1, h0_, hr_, b_, f_, d_⟩ := bx_cl (evs := [(0, (0, 480), (0, 11), .inr (0, (9, 0)))]) (fvs := [(3, (9, 0), (0, 3), (0, 0))]) hseg (by decide +kernel) (by decide +kernel)
  have hinv : rxIISW_0 S0 ws S (r 8) := hinv
  rw [← hr_ 8 (by decide)] at hinv
  obtain ⟨⟨l8, u8⟩, ⟨l9, u9⟩, -⟩ := b_
  obtain ⟨f0, -⟩ := f_
  obtain ⟨e0, w_⟩ := d_
  subst w_
  have g := rxdISW_0_2 hP hin hsm_ I0 I1 hinv l8 u8 l9 u9 f0 e0
  refine ⟨bx_narP_ok (l := []) g.1, ?_⟩
  show rxPSISW S0 ws S_p (some (bx_num r_p (.inr (0, (0, 0)))))
  rw [bx_xv_ok h0_]
  exact g.2
theorem rxgCISW {X : (Nat → Int → Int) → Prop} {S0 : Nat → Int → Int} {ws : List Int} (hP : rxPISW S0 ws) : bx_allI (fun i q => rxUISW q = true ∨ bx_allP (fun o => bx_obC rxL X S0 rxCISW.2.2.1 (rxIISW S0 ws) (rxmISW S0 ws) i q.1 o) q.2.1) 0 rxYISW := ⟨Or.inr trivial, trivial⟩
theorem rxgEISW {X : (Nat → Int → Int) → Prop} {S0 : Nat → Int → Int} {ws : List Int} (hP : rxPISW S0 ws) : bx_allI (fun i q => rxUISW q = true ∨ bx_allP (fun E => bx_obE rxL X S0 rxCISW.2.2.1 (rxIISW S0 ws) (rxPSISW S0 ws) i q.1 E) q.2.2) 0 rxYISW := ⟨Or.inr ⟨rxfISW_0_0 hP, rxfISW_0_1 hP, rxfISW_0_2 hP, trivial⟩, trivial⟩
theorem rxQISW {PX : State → Prop} {Dg : va_G} {A : Nat → Prop} {ad xa : Nat → Nat} {l : Launch} {X : (Nat → Int → Int) → Prop} (hPX : rx_PXOK rxNW A PX) (hsl : ∀ s : State, PX s → ∀ o idx n : Nat, rxSl o idx = some n → ∃ tx : String, vk_R (rxNm o) idx tx (ad n) s)
    (hX : ∀ S S_p : Nat → Int → Int, X S → bx_same rxL (bx_mdl rxCISW.2.2.1) S S_p → X S_p)
    (ih : ∀ (j2 : Nat) (ct2 : bx_Ct) (M2 : rx_Mt), ct2 ∈ rxCnE j2 → ct2.2.2.2.1 + 1 ≤ rxCISW.2.2.2.1 → rxT.2.2.2.2.2 j2 = some M2 → bx_Con rxG rxNW rxAO PX Dg rxL X vwCl A ad l M2 ct2) : bx_ConP rxG rxNW rxAO PX Dg rxL X vwCl A ad l rxM269 rxCISW rxPISW rxPSISW :=
  rxQof (xa := xa) (Cn := rxCnE) (f := 30000) (j := 269) (tab := rxYISW) (us := rxUISW) hPX hsl hX ih rfl rxYcISW rxIISW rxmISW
    (fun S0 ws r I0 I ht0 ht as he he1 hX0 hI0 hP hs ha => by
      have e := he.symm.trans (show bx_ent0 rxNP rxCISW.1 bx_I0 [] = some ([(0, 0), (0, 0), (0, 0), (0, 0), (0, 0), (0, 0), (0, 0), (0, 0), (0, 127)], [], [.inr (3, (0, 480)), .inr (0, (8, 0))]) from rfl)
      cases e
      subst ha
      have h0 : r 0 = 0 := hs.1
      show rxIISW_0 S0 _ S0 (r 8)
      refine ⟨⟨rfl, ?_⟩, trivial⟩
      simp only [List.map_cons, List.map_nil, bx_xv_ok h0]
      rfl)
    (fun S0 ws hP => fun i q hq hus => absurd (show false = true from hus) Bool.false_ne_true) (fun S0 ws hP => rxgCISW hP) (fun S0 ws hP => rxgEISW hP)
noncomputable def rxCICW : bx_Ct := ([(3, (1, 480, 0))], some (0, (0, 0, 1)), [], 1, [])
noncomputable def rxIICW_0 (S0 : Nat → Int → Int) (ws : List Int) (S : Nat → Int → Int) : Prop := rxIIC_0 S0 ws S ∧ True
noncomputable def rxmICW_0 (S0 : Nat → Int → Int) (ws : List Int) (S : Nat → Int → Int) : Nat := rxmIC_0 S0 ws S
noncomputable def rxzICW_0 : rx_Z := ([(0, 0), (0, 0), (0, 0), (0, 0), (0, 0), (0, 0), (0, 0), (0, 0)], [], [], 0, 0, 0, [(0, .inr (3, (0, 480)))], [])
noncomputable def rxIICW_1 (S0 : Nat → Int → Int) (ws : List Int) (S : Nat → Int → Int) (k : Int) : Prop := rxIIC_1 S0 ws S k ∧ (rzCm (S0 489) (S0 480 24) ↔ rzCm (S0 489) (k + 1))
noncomputable def rxmICW_1 (S0 : Nat → Int → Int) (ws : List Int) (S : Nat → Int → Int) (k : Int) : Nat := rxmIC_1 S0 ws S k
noncomputable def rxzICW_1 : rx_Z := ([(0, 0), (0, 0), (0, 0), (0, 0), (0, 0), (0, 0), (0, 0), (0, 0), ((-1), 399)], [], [], 0, 0, 7, [(0, .inr (3, (0, 480))), (1, .inr (0, (8, 0)))], [])
noncomputable def rxoICW_0_0 : bx_HO := (([(0, 0), (0, 0), (0, 0), (0, 0), (0, 0), (0, 0), (0, 0), (0, 0), (0, 400)], [], [(((0, 0), 1851192626986356802241301293259633916682733161918089263128248320000000), .inr (0, (8, 0))), (((0, 480), 24), .inr (0, (8, 0)))], 0, 0, 7, [(1, .inr (0, (8, (-1)))), (0, .inr (3, (0, 480)))], []), [], [], [(0, 0), (0, 0), (0, 0), (0, 0), (0, 0), (0, 0), (0, 0), (0, 0), (8, (-1))], 1)
noncomputable def rxoICW_1_0 : bx_HO := (([(0, 0), (0, 0), (0, 0), (0, 0), (0, 0), (0, 0), (0, 0), (0, 0), (0, 399), (20, 24)], [], [(((0, 0), 1851192626986356797424364830707437625680387377997778265153011712000000), .inr (0, (9, 0))), (((0, 480), 22), .inr (3, (0, 489)))], 0, 0, 7, [(1, .inr (0, (8, (-1)))), (0, .inr (3, (0, 480)))], []), [], [], [(0, 0), (0, 0), (0, 0), (0, 0), (0, 0), (0, 0), (0, 0), (0, 0), (8, (-1))], 1)
noncomputable def rxeICW_1_0 : rx_End × List (Nat × Int × Int) := (([(0, 0), (0, 0), (0, 0), (0, 0), (0, 0), (0, 0), (0, 0), (0, 0), (0, 399), (0, 19), (0, 24)], [], [(((0, 0), 1851192626986356797424364830707437625680387377997778265153011712000000), .inr (0, (10, 0))), (((0, 0), 1851192626986356797424364830707437625680387377997778265153011712000000), .inr (0, (9, 0))), (((0, 480), 22), .inr (3, (0, 489)))], some (.inr (0, (0, 0)))), [])
noncomputable def rxeICW_1_1 : rx_End × List (Nat × Int × Int) := (([(0, 0), (0, 0), (0, 0), (0, 0), (0, 0), (0, 0), (0, 0), (0, 0), (0, 399), (0, 19), (28, 32)], [], [(((0, 0), 1851192626986356797424364830707437625680387377997778265153011712000000), .inr (0, (10, 0))), (((0, 0), 1851192626986356797424364830707437625680387377997778265153011712000000), .inr (0, (9, 0))), (((0, 480), 22), .inr (3, (0, 489)))], some (.inr (0, (0, 0)))), [])
noncomputable def rxeICW_1_2 : rx_End × List (Nat × Int × Int) := (([(0, 0), (0, 0), (0, 0), (0, 0), (0, 0), (0, 0), (0, 0), (0, 0), (0, 399), (0, 19), (25, 27)], [], [(((0, 0), 1851192626986356797424364830707437625680387377997778265153011712000000), .inr (0, (10, 0))), (((0, 0), 1851192626986356797424364830707437625680387377997778265153011712000000), .inr (0, (9, 0))), (((0, 480), 22), .inr (3, (0, 489)))], some (.inr (0, (0, 1)))), [])
noncomputable def rxeICW_1_3 : rx_End × List (Nat × Int × Int) := (([(0, 0), (0, 0), (0, 0), (0, 0), (0, 0), (0, 0), (0, 0), (0, 0), (0, 399), (25, 32), (0, 24)], [], [(((0, 0), 1851192626986356797424364830707437625680387377997778265153011712000000), .inr (0, (10, 0))), (((0, 0), 1851192626986356797424364830707437625680387377997778265153011712000000), .inr (0, (9, 0))), (((0, 480), 22), .inr (3, (0, 489)))], some (.inr (0, (0, 0)))), [])
noncomputable def rxeICW_1_4 : rx_End × List (Nat × Int × Int) := (([(0, 0), (0, 0), (0, 0), (0, 0), (0, 0), (0, 0), (0, 0), (0, 0), (0, 399), (25, 32), (28, 32)], [], [(((0, 0), 1851192626986356797424364830707437625680387377997778265153011712000000), .inr (0, (10, 0))), (((0, 0), 1851192626986356797424364830707437625680387377997778265153011712000000), .inr (0, (9, 0))), (((0, 480), 22), .inr (3, (0, 489)))], some (.inr (0, (0, 0)))), [])
noncomputable def rxeICW_1_5 : rx_End × List (Nat × Int × Int) := (([(0, 0), (0, 0), (0, 0), (0, 0), (0, 0), (0, 0), (0, 0), (0, 0), (0, 399), (25, 32), (25, 27)], [], [(((0, 0), 1851192626986356797424364830707437625680387377997778265153011712000000), .inr (0, (10, 0))), (((0, 0), 1851192626986356797424364830707437625680387377997778265153011712000000), .inr (0, (9, 0))), (((0, 480), 22), .inr (3, (0, 489)))], some (.inr (0, (0, 1)))), [])
noncomputable def rxeICW_1_6 : rx_End × List (Nat × Int × Int) := (([(0, 0), (0, 0), (0, 0), (0, 0), (0, 0), (0, 0), (0, 0), (0, 0), ((-1), (-1))], [], [], some (.inr (0, (0, 0)))), [])
noncomputable def rxYICW : List bx_HE := [(rxzICW_0, [rxoICW_0_0], []), (rxzICW_1, [rxoICW_1_0], [rxeICW_1_0, rxeICW_1_1, rxeICW_1_2, rxeICW_1_3, rxeICW_1_4, rxeICW_1_5, rxeICW_1_6])]
noncomputable def rxUICW (q : bx_HE) : Bool := false
noncomputable def rxYBICW : bx_B := (rxV, rxNP, rxDmf, bx_mdH rxCICW.2.2.1)
set_option maxRecDepth 100000 in
theorem rxYcICW : bx_chkH rxYBICW rxM277 rxCICW rxYICW (rxUICW, fun cut z => rx_ex2 (rxCT rxYBICW rxCnE) cut 30000 rxCICW.2.2.2.1 277 z) = true := by decide +kernel
noncomputable def rxIICW (S0 : Nat → Int → Int) (ws : List Int) (i : Nat) : bx_SP := fun S r => match i with | 0 => rxIICW_0 S0 ws S | 1 => rxIICW_1 S0 ws S (r 8) | _ => False
noncomputable def rxmICW (S0 : Nat → Int → Int) (ws : List Int) (i : Nat) (S : Nat → Int → Int) (r : Nat → Int) : Nat := match i with | 0 => rxmICW_0 S0 ws S | 1 => rxmICW_1 S0 ws S (r 8) | _ => 0
noncomputable def rxPICW (S0 : Nat → Int → Int) (ws : List Int) : Prop := rxPIC S0 ws
noncomputable def rxPSICW (S0 : Nat → Int → Int) (ws : List Int) (S : Nat → Int → Int) (w : Option Int) : Prop := rxPSIC S0 ws S w ∧ ((w = some 1 ∧ rzCm (S0 489) (S0 480 24)) ∨ (w = some 0 ∧ ¬ rzCm (S0 489) (S0 480 24)))
theorem rxcICW_0_0 {S0 : Nat → Int → Int} {ws : List Int} {S : Nat → Int → Int} {x8 : Int} (hP : rxPICW S0 ws) (hin : bx_same rxL (bx_mdl rxCICW.2.2.1) S0 S) (I0 : bx_Inv rxL S) (hinv : rxIICW_0 S0 ws S) (l8 : 0 ≤ x8) (u8 : x8 ≤ 400) (e0 : S 480 24 = x8) : (True) ∧ (True) ∧ rxIICW_1 S0 ws S (x8 + (-1)) ∧ rxmICW_1 S0 ws S (x8 + (-1)) < rxmICW_0 S0 ws S := by
  obtain ⟨hI, hx⟩ := hinv
  obtain ⟨a_, b_, c_, d_⟩ := rxcIC_0_0 hP hin I0 hI l8 u8 e0
  exact ⟨a_, b_, ⟨c_, (by
    have e := hI.1
    subst e
    rw [show x8 + (-1) + 1 = S 480 24 by omega])⟩, d_⟩
theorem rxgICW_0_0 {X : (Nat → Int → Int) → Prop} {S0 : Nat → Int → Int} {ws : List Int} (hP : rxPICW S0 ws) : bx_obC rxL X S0 rxCICW.2.2.1 (rxIICW S0 ws) (rxmICW S0 ws) 0 rxzICW_0 rxoICW_0_0 := by
  intro S S_p r r_p hinv hX hin hsm_ hseg
  obtain ⟨I0, I1, h0_, hr_, b_, f_, d_⟩ := bx_cl (evs := [(0, (0, 480), (0, 24), .inr (0, (8, 0)))]) (fvs := []) hseg (by decide +kernel) (by decide +kernel)
  have hinv : rxIICW_0 S0 ws S := hinv
  obtain ⟨⟨l8, u8⟩, -⟩ := b_
  obtain ⟨e0, w_⟩ := d_
  subst w_
  have g := rxcICW_0_0 hP hin I0 hinv l8 u8 e0
  refine ⟨bx_narP_ok (l := []) g.1, bx_nfP_ok h0_ (fvs := []) (by decide +kernel) g.2.1, ?_, ?_⟩
  · show rxIICW_1 S0 ws S_p (bx_val [(0, 0), (0, 0), (0, 0), (0, 0), (0, 0), (0, 0), (0, 0), (0, 0), (8, (-1))] r_p 8)
    rw [bx_val_x (n := 8) (e := (8, (-1))) h0_ rfl]
    exact g.2.2.1
  · show rxmICW_1 S0 ws S_p (bx_val [(0, 0), (0, 0), (0, 0), (0, 0), (0, 0), (0, 0), (0, 0), (0, 0), (8, (-1))] r_p 8) < rxmICW_0 S0 ws S_p
    rw [bx_val_x (n := 8) (e := (8, (-1))) h0_ rfl]
    exact g.2.2.2
theorem rxcICW_1_0 {S0 : Nat → Int → Int} {ws : List Int} {S : Nat → Int → Int} {k x9 : Int} (hP : rxPICW S0 ws) (hin : bx_same rxL (bx_mdl rxCICW.2.2.1) S0 S) (I0 : bx_Inv rxL S) (hinv : rxIICW_1 S0 ws S k) (l8 : 0 ≤ k) (u8 : k ≤ 399) (l9 : 20 ≤ x9) (u9 : x9 ≤ 24) (e0 : S 489 k = x9) : (True) ∧ (True) ∧ rxIICW_1 S0 ws S (k + (-1)) ∧ rxmICW_1 S0 ws S (k + (-1)) < rxmICW_1 S0 ws S k := by
  obtain ⟨hI, hx⟩ := hinv
  obtain ⟨a_, b_, c_, d_⟩ := rxcIC_1_0 hP hin I0 hI l8 u8 l9 u9 e0
  exact ⟨a_, b_, ⟨c_, (by
    have e : S = S0 := hI
    subst e
    rw [show k + (-1) + 1 = k by omega]
    exact hx.trans (rzCm_iff (P := S 489) (by omega)))⟩, d_⟩
theorem rxgICW_1_0 {X : (Nat → Int → Int) → Prop} {S0 : Nat → Int → Int} {ws : List Int} (hP : rxPICW S0 ws) : bx_obC rxL X S0 rxCICW.2.2.1 (rxIICW S0 ws) (rxmICW S0 ws) 1 rxzICW_1 rxoICW_1_0 := by
  intro S S_p r r_p hinv hX hin hsm_ hseg
  obtain ⟨I0, I1, h0_, hr_, b_, f_, d_⟩ := bx_cl (evs := [(0, (0, 489), (8, 0), .inr (0, (9, 0)))]) (fvs := []) hseg (by decide +kernel) (by decide +kernel)
  have hinv : rxIICW_1 S0 ws S (r 8) := hinv
  rw [← hr_ 8 (by decide)] at hinv
  obtain ⟨⟨l8, u8⟩, ⟨l9, u9⟩, -⟩ := b_
  obtain ⟨e0, w_⟩ := d_
  subst w_
  have g := rxcICW_1_0 hP hin I0 hinv l8 u8 l9 u9 e0
  refine ⟨bx_narP_ok (l := []) g.1, bx_nfP_ok h0_ (fvs := []) (by decide +kernel) g.2.1, ?_, ?_⟩
  · show rxIICW_1 S0 ws S_p (bx_val [(0, 0), (0, 0), (0, 0), (0, 0), (0, 0), (0, 0), (0, 0), (0, 0), (8, (-1))] r_p 8)
    rw [bx_val_x (n := 8) (e := (8, (-1))) h0_ rfl]
    exact g.2.2.1
  · show rxmICW_1 S0 ws S_p (bx_val [(0, 0), (0, 0), (0, 0), (0, 0), (0, 0), (0, 0), (0, 0), (0, 0), (8, (-1))] r_p 8) < rxmICW_1 S0 ws S_p (r 8)
    rw [bx_val_x (n := 8) (e := (8, (-1))) h0_ rfl, ← hr_ 8 (by decide)]
    exact g.2.2.2
theorem rxdICW_1_0 {S0 : Nat → Int → Int} {ws : List Int} {S : Nat → Int → Int} {k x9 x10 : Int} (hP : rxPICW S0 ws) (hin : bx_same rxL (bx_mdl rxCICW.2.2.1) S0 S) (hin2 : bx_same rxL (bx_mdl rxCICW.2.2.1) S S) (I0 : bx_Inv rxL S) (I1 : bx_Inv rxL S) (hinv : rxIICW_1 S0 ws S k) (l8 : 0 ≤ k) (u8 : k ≤ 399) (l9 : 0 ≤ x9) (u9 : x9 ≤ 19) (l10 : 0 ≤ x10) (u10 : x10 ≤ 24) (e1 : S 489 k = x9) (e0 : S 489 k = x10) : (True) ∧ rxPSICW S0 ws S (some 0) := by
  obtain ⟨hI, hx⟩ := hinv
  obtain ⟨a_, c_⟩ := rxdIC_1_0 hP hin hin2 I0 I1 hI l8 u8 l9 u9 l10 u10 e1 e0
  exact ⟨a_, c_, (by
    have e : S = S0 := hI
    subst e
    first
    | exact Or.inr ⟨rfl, fun g => rzCm_0 (by omega) (hx.mp g)⟩
    | exact Or.inr ⟨rfl, fun g => by
        have q := rzCm_n (hx.mp g)
        omega⟩)⟩
theorem rxfICW_1_0 {X : (Nat → Int → Int) → Prop} {S0 : Nat → Int → Int} {ws : List Int} (hP : rxPICW S0 ws) : bx_obE rxL X S0 rxCICW.2.2.1 (rxIICW S0 ws) (rxPSICW S0 ws) 1 rxzICW_1 rxeICW_1_0 := by
  intro S S_p r r_p hinv hX hin hsm_ hseg
  obtain ⟨I0, I1, h0_, hr_, b_, f_, d_⟩ := bx_cl (evs := [(0, (0, 489), (8, 0), .inr (0, (10, 0))), (0, (0, 489), (8, 0), .inr (0, (9, 0)))]) (fvs := []) hseg (by decide +kernel) (by decide +kernel)
  have hinv : rxIICW_1 S0 ws S (r 8) := hinv
  rw [← hr_ 8 (by decide)] at hinv
  obtain ⟨⟨l8, u8⟩, ⟨l9, u9⟩, ⟨l10, u10⟩, -⟩ := b_
  obtain ⟨e0, ⟨e1, w_⟩⟩ := d_
  subst w_
  have g := rxdICW_1_0 hP hin hsm_ I0 I1 hinv l8 u8 l9 u9 l10 u10 e1 e0
  refine ⟨bx_narP_ok (l := []) g.1, ?_⟩
  show rxPSICW S0 ws S_p (some (bx_num r_p (.inr (0, (0, 0)))))
  rw [bx_xv_ok h0_]
  exact g.2
theorem rxdICW_1_1 {S0 : Nat → Int → Int} {ws : List Int} {S : Nat → Int → Int} {k x9 x10 : Int} (hP : rxPICW S0 ws) (hin : bx_same rxL (bx_mdl rxCICW.2.2.1) S0 S) (hin2 : bx_same rxL (bx_mdl rxCICW.2.2.1) S S) (I0 : bx_Inv rxL S) (I1 : bx_Inv rxL S) (hinv : rxIICW_1 S0 ws S k) (l8 : 0 ≤ k) (u8 : k ≤ 399) (l9 : 0 ≤ x9) (u9 : x9 ≤ 19) (l10 : 28 ≤ x10) (u10 : x10 ≤ 32) (e1 : S 489 k = x9) (e0 : S 489 k = x10) : (True) ∧ rxPSICW S0 ws S (some 0) := by
  obtain ⟨hI, hx⟩ := hinv
  obtain ⟨a_, c_⟩ := rxdIC_1_1 hP hin hin2 I0 I1 hI l8 u8 l9 u9 l10 u10 e1 e0
  exact ⟨a_, c_, (by
    have e : S = S0 := hI
    subst e
    first
    | exact Or.inr ⟨rfl, fun g => rzCm_0 (by omega) (hx.mp g)⟩
    | exact Or.inr ⟨rfl, fun g => by
        have q := rzCm_n (hx.mp g)
        omega⟩)⟩
theorem rxfICW_1_1 {X : (Nat → Int → Int) → Prop} {S0 : Nat → Int → Int} {ws : List Int} (hP : rxPICW S0 ws) : bx_obE rxL X S0 rxCICW.2.2.1 (rxIICW S0 ws) (rxPSICW S0 ws) 1 rxzICW_1 rxeICW_1_1 := by
  intro S S_p r r_p hinv hX hin hsm_ hseg
  obtain ⟨I0, I1, h0_, hr_, b_, f_, d_⟩ := bx_cl (evs := [(0, (0, 489), (8, 0), .inr (0, (10, 0))), (0, (0, 489), (8, 0), .inr (0, (9, 0)))]) (fvs := []) hseg (by decide +kernel) (by decide +kernel)
  have hinv : rxIICW_1 S0 ws S (r 8) := hinv
  rw [← hr_ 8 (by decide)] at hinv
  obtain ⟨⟨l8, u8⟩, ⟨l9, u9⟩, ⟨l10, u10⟩, -⟩ := b_
  obtain ⟨e0, ⟨e1, w_⟩⟩ := d_
  subst w_
  have g := rxdICW_1_1 hP hin hsm_ I0 I1 hinv l8 u8 l9 u9 l10 u10 e1 e0
  refine ⟨bx_narP_ok (l := []) g.1, ?_⟩
  show rxPSICW S0 ws S_p (some (bx_num r_p (.inr (0, (0, 0)))))
  rw [bx_xv_ok h0_]
  exact g.2
theorem rxdICW_1_2 {S0 : Nat → Int → Int} {ws : List Int} {S : Nat → Int → Int} {k x9 x10 : Int} (hP : rxPICW S0 ws) (hin : bx_same rxL (bx_mdl rxCICW.2.2.1) S0 S) (hin2 : bx_same rxL (bx_mdl rxCICW.2.2.1) S S) (I0 : bx_Inv rxL S) (I1 : bx_Inv rxL S) (hinv : rxIICW_1 S0 ws S k) (l8 : 0 ≤ k) (u8 : k ≤ 399) (l9 : 0 ≤ x9) (u9 : x9 ≤ 19) (l10 : 25 ≤ x10) (u10 : x10 ≤ 27) (e1 : S 489 k = x9) (e0 : S 489 k = x10) : (True) ∧ rxPSICW S0 ws S (some 1) := by
  obtain ⟨hI, hx⟩ := hinv
  obtain ⟨a_, c_⟩ := rxdIC_1_2 hP hin hin2 I0 I1 hI l8 u8 l9 u9 l10 u10 e1 e0
  exact ⟨a_, c_, (by
    have e : S = S0 := hI
    subst e
    exact Or.inl ⟨rfl, hx.mpr (rzCm_c (by omega) (by omega) (by omega))⟩)⟩
theorem rxfICW_1_2 {X : (Nat → Int → Int) → Prop} {S0 : Nat → Int → Int} {ws : List Int} (hP : rxPICW S0 ws) : bx_obE rxL X S0 rxCICW.2.2.1 (rxIICW S0 ws) (rxPSICW S0 ws) 1 rxzICW_1 rxeICW_1_2 := by
  intro S S_p r r_p hinv hX hin hsm_ hseg
  obtain ⟨I0, I1, h0_, hr_, b_, f_, d_⟩ := bx_cl (evs := [(0, (0, 489), (8, 0), .inr (0, (10, 0))), (0, (0, 489), (8, 0), .inr (0, (9, 0)))]) (fvs := []) hseg (by decide +kernel) (by decide +kernel)
  have hinv : rxIICW_1 S0 ws S (r 8) := hinv
  rw [← hr_ 8 (by decide)] at hinv
  obtain ⟨⟨l8, u8⟩, ⟨l9, u9⟩, ⟨l10, u10⟩, -⟩ := b_
  obtain ⟨e0, ⟨e1, w_⟩⟩ := d_
  subst w_
  have g := rxdICW_1_2 hP hin hsm_ I0 I1 hinv l8 u8 l9 u9 l10 u10 e1 e0
  refine ⟨bx_narP_ok (l := []) g.1, ?_⟩
  show rxPSICW S0 ws S_p (some (bx_num r_p (.inr (0, (0, 1)))))
  rw [bx_xv_ok h0_]
  exact g.2
theorem rxdICW_1_3 {S0 : Nat → Int → Int} {ws : List Int} {S : Nat → Int → Int} {k x9 x10 : Int} (hP : rxPICW S0 ws) (hin : bx_same rxL (bx_mdl rxCICW.2.2.1) S0 S) (hin2 : bx_same rxL (bx_mdl rxCICW.2.2.1) S S) (I0 : bx_Inv rxL S) (I1 : bx_Inv rxL S) (hinv : rxIICW_1 S0 ws S k) (l8 : 0 ≤ k) (u8 : k ≤ 399) (l9 : 25 ≤ x9) (u9 : x9 ≤ 32) (l10 : 0 ≤ x10) (u10 : x10 ≤ 24) (e1 : S 489 k = x9) (e0 : S 489 k = x10) : (True) ∧ rxPSICW S0 ws S (some 0) := by
  obtain ⟨hI, hx⟩ := hinv
  obtain ⟨a_, c_⟩ := rxdIC_1_3 hP hin hin2 I0 I1 hI l8 u8 l9 u9 l10 u10 e1 e0
  exact ⟨a_, c_, (by
    have e : S = S0 := hI
    subst e
    first
    | exact Or.inr ⟨rfl, fun g => rzCm_0 (by omega) (hx.mp g)⟩
    | exact Or.inr ⟨rfl, fun g => by
        have q := rzCm_n (hx.mp g)
        omega⟩)⟩
theorem rxfICW_1_3 {X : (Nat → Int → Int) → Prop} {S0 : Nat → Int → Int} {ws : List Int} (hP : rxPICW S0 ws) : bx_obE rxL X S0 rxCICW.2.2.1 (rxIICW S0 ws) (rxPSICW S0 ws) 1 rxzICW_1 rxeICW_1_3 := by
  intro S S_p r r_p hinv hX hin hsm_ hseg
  obtain ⟨I0, I1, h0_, hr_, b_, f_, d_⟩ := bx_cl (evs := [(0, (0, 489), (8, 0), .inr (0, (10, 0))), (0, (0, 489), (8, 0), .inr (0, (9, 0)))]) (fvs := []) hseg (by decide +kernel) (by decide +kernel)
  have hinv : rxIICW_1 S0 ws S (r 8) := hinv
  rw [← hr_ 8 (by decide)] at hinv
  obtain ⟨⟨l8, u8⟩, ⟨l9, u9⟩, ⟨l10, u10⟩, -⟩ := b_
  obtain ⟨e0, ⟨e1, w_⟩⟩ := d_
  subst w_
  have g := rxdICW_1_3 hP hin hsm_ I0 I1 hinv l8 u8 l9 u9 l10 u10 e1 e0
  refine ⟨bx_narP_ok (l := []) g.1, ?_⟩
  show rxPSICW S0 ws S_p (some (bx_num r_p (.inr (0, (0, 0)))))
  rw [bx_xv_ok h0_]
  exact g.2
theorem rxdICW_1_4 {S0 : Nat → Int → Int} {ws : List Int} {S : Nat → Int → Int} {k x9 x10 : Int} (hP : rxPICW S0 ws) (hin : bx_same rxL (bx_mdl rxCICW.2.2.1) S0 S) (hin2 : bx_same rxL (bx_mdl rxCICW.2.2.1) S S) (I0 : bx_Inv rxL S) (I1 : bx_Inv rxL S) (hinv : rxIICW_1 S0 ws S k) (l8 : 0 ≤ k) (u8 : k ≤ 399) (l9 : 25 ≤ x9) (u9 : x9 ≤ 32) (l10 : 28 ≤ x10) (u10 : x10 ≤ 32) (e1 : S 489 k = x9) (e0 : S 489 k = x10) : (True) ∧ rxPSICW S0 ws S (some 0) := by
  obtain ⟨hI, hx⟩ := hinv
  obtain ⟨a_, c_⟩ := rxdIC_1_4 hP hin hin2 I0 I1 hI l8 u8 l9 u9 l10 u10 e1 e0
  exact ⟨a_, c_, (by
    have e : S = S0 := hI
    subst e
    first
    | exact Or.inr ⟨rfl, fun g => rzCm_0 (by omega) (hx.mp g)⟩
    | exact Or.inr ⟨rfl, fun g => by
        have q := rzCm_n (hx.mp g)
        omega⟩)⟩
theorem rxfICW_1_4 {X : (Nat → Int → Int) → Prop} {S0 : Nat → Int → Int} {ws : List Int} (hP : rxPICW S0 ws) : bx_obE rxL X S0 rxCICW.2.2.1 (rxIICW S0 ws) (rxPSICW S0 ws) 1 rxzICW_1 rxeICW_1_4 := by
  intro S S_p r r_p hinv hX hin hsm_ hseg
  obtain ⟨I0, I1, h0_, hr_, b_, f_, d_⟩ := bx_cl (evs := [(0, (0, 489), (8, 0), .inr (0, (10, 0))), (0, (0, 489), (8, 0), .inr (0, (9, 0)))]) (fvs := []) hseg (by decide +kernel) (by decide +kernel)
  have hinv : rxIICW_1 S0 ws S (r 8) := hinv
  rw [← hr_ 8 (by decide)] at hinv
  obtain ⟨⟨l8, u8⟩, ⟨l9, u9⟩, ⟨l10, u10⟩, -⟩ := b_
  obtain ⟨e0, ⟨e1, w_⟩⟩ := d_
  subst w_
  have g := rxdICW_1_4 hP hin hsm_ I0 I1 hinv l8 u8 l9 u9 l10 u10 e1 e0
  refine ⟨bx_narP_ok (l := []) g.1, ?_⟩
  show rxPSICW S0 ws S_p (some (bx_num r_p (.inr (0, (0, 0)))))
  rw [bx_xv_ok h0_]
  exact g.2
theorem rxdICW_1_5 {S0 : Nat → Int → Int} {ws : List Int} {S : Nat → Int → Int} {k x9 x10 : Int} (hP : rxPICW S0 ws) (hin : bx_same rxL (bx_mdl rxCICW.2.2.1) S0 S) (hin2 : bx_same rxL (bx_mdl rxCICW.2.2.1) S S) (I0 : bx_Inv rxL S) (I1 : bx_Inv rxL S) (hinv : rxIICW_1 S0 ws S k) (l8 : 0 ≤ k) (u8 : k ≤ 399) (l9 : 25 ≤ x9) (u9 : x9 ≤ 32) (l10 : 25 ≤ x10) (u10 : x10 ≤ 27) (e1 : S 489 k = x9) (e0 : S 489 k = x10) : (True) ∧ rxPSICW S0 ws S (some 1) := by
  obtain ⟨hI, hx⟩ := hinv
  obtain ⟨a_, c_⟩ := rxdIC_1_5 hP hin hin2 I0 I1 hI l8 u8 l9 u9 l10 u10 e1 e0
  exact ⟨a_, c_, (by
    have e : S = S0 := hI
    subst e
    exact Or.inl ⟨rfl, hx.mpr (rzCm_c (by omega) (by omega) (by omega))⟩)⟩
theorem rxfICW_1_5 {X : (Nat → Int → Int) → Prop} {S0 : Nat → Int → Int} {ws : List Int} (hP : rxPICW S0 ws) : bx_obE rxL X S0 rxCICW.2.2.1 (rxIICW S0 ws) (rxPSICW S0 ws) 1 rxzICW_1 rxeICW_1_5 := by
  intro S S_p r r_p hinv hX hin hsm_ hseg
  obtain ⟨I0, I1, h0_, hr_, b_, f_, d_⟩ := bx_cl (evs := [(0, (0, 489), (8, 0), .inr (0, (10, 0))), (0, (0, 489), (8, 0), .inr (0, (9, 0)))]) (fvs := []) hseg (by decide +kernel) (by decide +kernel)
  have hinv : rxIICW_1 S0 ws S (r 8) := hinv
  rw [← hr_ 8 (by decide)] at hinv
  obtain ⟨⟨l8, u8⟩, ⟨l9, u9⟩, ⟨l10, u10⟩, -⟩ := b_
  obtain ⟨e0, ⟨e1, w_⟩⟩ := d_
  subst w_
  have g := rxdICW_1_5 hP hin hsm_ I0 I1 hinv l8 u8 l9 u9 l10 u10 e1 e0
  refine ⟨bx_narP_ok (l := []) g.1, ?_⟩
  show rxPSICW S0 ws S_p (some (bx_num r_p (.inr (0, (0, 1)))))
  rw [bx_xv_ok h0_]
  exact g.2
theorem rxdICW_1_6 {S0 : Nat → Int → Int} {ws : List Int} {S : Nat → Int → Int} {k : Int} (hP : rxPICW S0 ws) (hin : bx_same rxL (bx_mdl rxCICW.2.2.1) S0 S) (hin2 : bx_same rxL (bx_mdl rxCICW.2.2.1) S S) (I0 : bx_Inv rxL S) (I1 : bx_Inv rxL S) (hinv : rxIICW_1 S0 ws S k) (l8 : (-1) ≤ k) (u8 : k ≤ (-1)) : (True) ∧ rxPSICW S0 ws S (some 0) := by
  obtain ⟨hI, hx⟩ := hinv
  obtain ⟨a_, c_⟩ := rxdIC_1_6 hP hin hin2 I0 I1 hI l8 u8
  exact ⟨a_, c_, (by
    have e : S = S0 := hI
    subst e
    first
    | exact Or.inr ⟨rfl, fun g => rzCm_0 (by omega) (hx.mp g)⟩
    | exact Or.inr ⟨rfl, fun g => by
        have q := rzCm_n (hx.mp g)
        omega⟩)⟩
theorem rxfICW_1_6 {X : (Nat → Int → Int) → Prop} {S0 : Nat → Int → Int} {ws : List Int} (hP : rxPICW S0 ws) : bx_obE rxL X S0 rxCICW.2.2.1 (rxIICW S0 ws) (rxPSICW S0 ws) 1 rxzICW_1 rxeICW_1_6 := by
  intro S S_p r r_p hinv hX hin hsm_ hseg
  obtain ⟨I0, I1, h0_, hr_, b_, f_, d_⟩ := bx_cl (evs := []) (fvs := []) hseg (by decide +kernel) (by decide +kernel)
  have hinv : rxIICW_1 S0 ws S (r 8) := hinv
  rw [← hr_ 8 (by decide)] at hinv
  obtain ⟨⟨l8, u8⟩, -⟩ := b_
  have w_ := d_
  subst w_
  have g := rxdICW_1_6 hP hin hsm_ I0 I1 hinv l8 u8
  refine ⟨bx_narP_ok (l := []) g.1, ?_⟩
  show rxPSICW S0 ws S_p (some (bx_num r_p (.inr (0, (0, 0)))))
  rw [bx_xv_ok h0_]
  exact g.2
theorem rxgCICW {X : (Nat → Int → Int) → Prop} {S0 : Nat → Int → Int} {ws : List Int} (hP : rxPICW S0 ws) : bx_allI (fun i q => rxUICW q = true ∨ bx_allP (fun o => bx_obC rxL X S0 rxCICW.2.2.1 (rxIICW S0 ws) (rxmICW S0 ws) i q.1 o) q.2.1) 0 rxYICW := ⟨Or.inr ⟨rxgICW_0_0 hP, trivial⟩, Or.inr ⟨rxgICW_1_0 hP, trivial⟩, trivial⟩
theorem rxgEICW {X : (Nat → Int → Int) → Prop} {S0 : Nat → Int → Int} {ws : List Int} (hP : rxPICW S0 ws) : bx_allI (fun i q => rxUICW q = true ∨ bx_allP (fun E => bx_obE rxL X S0 rxCICW.2.2.1 (rxIICW S0 ws) (rxPSICW S0 ws) i q.1 E) q.2.2) 0 rxYICW := ⟨Or.inr trivial, Or.inr ⟨rxfICW_1_0 hP, rxfICW_1_1 hP, rxfICW_1_2 hP, rxfICW_1_3 hP, rxfICW_1_4 hP, rxfICW_1_5 hP, rxfICW_1_6 hP, trivial⟩, trivial⟩
theorem rxQICW {PX : State → Prop} {Dg : va_G} {A : Nat → Prop} {ad xa : Nat → Nat} {l : Launch} {X : (Nat → Int → Int) → Prop} (hPX : rx_PXOK rxNW A PX) (hsl : ∀ s : State, PX s → ∀ o idx n : Nat, rxSl o idx = some n → ∃ tx : String, vk_R (rxNm o) idx tx (ad n) s)
    (hX : ∀ S S_p : Nat → Int → Int, X S → bx_same rxL (bx_mdl rxCICW.2.2.1) S S_p → X S_p)
    (ih : ∀ (j2 : Nat) (ct2 : bx_Ct) (M2 : rx_Mt), ct2 ∈ rxCnE j2 → ct2.2.2.2.1 + 1 ≤ rxCICW.2.2.2.1 → rxT.2.2.2.2.2 j2 = some M2 → bx_Con rxG rxNW rxAO PX Dg rxL X vwCl A ad l M2 ct2) : bx_ConP rxG rxNW rxAO PX Dg rxL X vwCl A ad l rxM277 rxCICW rxPICW rxPSICW :=
  rxQof (xa := xa) (Cn := rxCnE) (f := 30000) (j := 277) (tab := rxYICW) (us := rxUICW) hPX hsl hX ih rfl rxYcICW rxIICW rxmICW
    (fun S0 ws r I0 I ht0 ht as he he1 hX0 hI0 hP hs ha => by
      have e := he.symm.trans (show bx_ent0 rxNP rxCICW.1 bx_I0 [] = some ([(0, 0), (0, 0), (0, 0), (0, 0), (0, 0), (0, 0), (0, 0), (0, 0)], [], [.inr (3, (0, 480))]) from rfl)
      cases e
      subst ha
      have h0 : r 0 = 0 := hs.1
      show rxIICW_0 S0 _ S0
      refine ⟨⟨rfl, ?_⟩, trivial⟩
      simp only [List.map_cons, List.map_nil, bx_xv_ok h0]
      rfl)
    (fun S0 ws hP => fun i q hq hus => absurd (show false = true from hus) Bool.false_ne_true) (fun S0 ws hP => rxgCICW hP) (fun S0 ws hP => rxgEICW hP)
noncomputable def rxCBSW : bx_Ct := ([(3, (1, 480, 0)), (0, (0, 0, 1))], some (0, (0, 0, 4)), [(12, 9), (12, 10), (12, 11), (12, 12), (12, 13), (12, 14), (12, 18), (12, 21), (12, 24), (12, 25), (1068, 0), (1069, 0), (1070, 0), (1071, 0)], 5, [])
noncomputable def rxIBSW_0 (S0 : Nat → Int → Int) (ws : List Int) (S : Nat → Int → Int) (test : Int) : Prop := rxIBS_0 S0 ws S test ∧ True
noncomputable def rxmBSW_0 (S0 : Nat → Int → Int) (ws : List Int) (S : Nat → Int → Int) (test : Int) : Nat := rxmBS_0 S0 ws S test
noncomputable def rxzBSW_0 : rx_Z := ([(0, 0), (0, 0), (0, 0), (0, 0), (0, 0), (0, 0), (0, 0), (0, 0), (0, 1)], [], [], 0, 0, 0, [(0, .inr (3, (0, 480))), (1, .inr (0, (8, 0)))], [])
noncomputable def rxIBSW_1 (S0 : Nat → Int → Int) (ws : List Int) (S : Nat → Int → Int) (test op : Int) : Prop := rxIBS_1 S0 ws S test op ∧ (ws = [480, test] ∧ (rzDq S0 → (op = -1 ∧ ¬ rzSm (rzCut (S0 485)) (S0 480 8) (S0 480 9)) ∨ (20 ≤ op ∧ rzSm (rzCut (S0 485)) (S0 480 8) (S0 480 9))))
noncomputable def rxmBSW_1 (S0 : Nat → Int → Int) (ws : List Int) (S : Nat → Int → Int) (test op : Int) : Nat := rxmBS_1 S0 ws S test op
noncomputable def rxzBSW_1 : rx_Z := ([(0, 0), (0, 0), (0, 0), (0, 0), (0, 0), (0, 0), (0, 0), (0, 0), (0, 1), ((-1), 24)], [], [], 0, 0, 72, [(0, .inr (3, (0, 480))), (1, .inr (0, (8, 0))), (2, .inr (0, (9, 0)))], [])
noncomputable def rxIBSW_2 (S0 : Nat → Int → Int) (ws : List Int) (S : Nat → Int → Int) (test op op2 : Int) : Prop := rxIBS_2 S0 ws S test op op2 ∧ (rzDq S0 → rzSm (rzCut (S0 485)) (S0 480 8) (S0 480 9))
noncomputable def rxmBSW_2 (S0 : Nat → Int → Int) (ws : List Int) (S : Nat → Int → Int) (test op op2 : Int) : Nat := rxmBS_2 S0 ws S test op op2
noncomputable def rxzBSW_2 : rx_Z := ([(0, 0), (0, 0), (0, 0), (0, 0), (0, 0), (0, 0), (0, 0), (0, 0), (0, 1), (20, 24), (20, 24)], [], [], 0, 0, 79, [(0, .inr (3, (0, 480))), (1, .inr (0, (8, 0))), (2, .inr (0, (9, 0)))], [.inr (0, (10, 0)), .inr (3, (0, 480))])
noncomputable def rxIBSW_3 (S0 : Nat → Int → Int) (ws : List Int) (S : Nat → Int → Int) (test op op2 bd : Int) : Prop := rxIBS_3 S0 ws S test op op2 bd ∧ (rzDq S0 → rzSm (rzCut (S0 485)) (S0 480 8) (S0 480 9))
noncomputable def rxmBSW_3 (S0 : Nat → Int → Int) (ws : List Int) (S : Nat → Int → Int) (test op op2 bd : Int) : Nat := rxmBS_3 S0 ws S test op op2 bd
noncomputable def rxzBSW_3 : rx_Z := ([(0, 0), (0, 0), (0, 0), (0, 0), (0, 0), (0, 0), (0, 0), (0, 0), (0, 1), (20, 24), (20, 24), (5, 6)], [], [], 0, 0, 82, [(0, .inr (3, (0, 480))), (1, .inr (0, (8, 0))), (2, .inr (0, (9, 0)))], [.inr (0, (11, 0)), .inr (3, (0, 480))])
noncomputable def rxIBSW_4 (S0 : Nat → Int → Int) (ws : List Int) (S : Nat → Int → Int) (test op op2 bd : Int) : Prop := rxIBS_4 S0 ws S test op op2 bd ∧ (S 480 14 = 0 ∧ rzKr S0 S ∧ rzTs S0 S ∧ rzSd S0 S 5 (S 480 24) 0 ∧ (rzDq S0 → rzSm (rzCut (S0 485)) (S0 480 8) (S0 480 9)))
noncomputable def rxmBSW_4 (S0 : Nat → Int → Int) (ws : List Int) (S : Nat → Int → Int) (test op op2 bd : Int) : Nat := rxmBS_4 S0 ws S test op op2 bd
noncomputable def rxzBSW_4 : rx_Z := ([(0, 0), (0, 0), (0, 0), (0, 0), (0, 0), (0, 0), (0, 0), (0, 0), (0, 1), (20, 24), (20, 24), (5, 6)], [], [], 0, 0, 85, [(0, .inr (3, (0, 480))), (1, .inr (0, (8, 0))), (2, .inr (0, (9, 0)))], [])
noncomputable def rxIBSW_5 (S0 : Nat → Int → Int) (ws : List Int) (S : Nat → Int → Int) (test op op2 : Int) : Prop := rxIBS_5 S0 ws S test op op2 ∧ (S 480 14 = 0 ∧ rzKr S0 S ∧ rzTs S0 S ∧ rzSd S0 S 5 (S 480 24) 0 ∧ (rzDq S0 → rzSm (rzCut (S0 485)) (S0 480 8) (S0 480 9)))
noncomputable def rxmBSW_5 (S0 : Nat → Int → Int) (ws : List Int) (S : Nat → Int → Int) (test op op2 : Int) : Nat := rxmBS_5 S0 ws S test op op2
noncomputable def rxzBSW_5 : rx_Z := ([(0, 0), (0, 0), (0, 0), (0, 0), (0, 0), (0, 0), (0, 0), (0, 0), (0, 1), (20, 24), (20, 24)], [], [], 0, 0, 88, [(0, .inr (3, (0, 480))), (1, .inr (0, (8, 0))), (2, .inr (0, (9, 0)))], [.inr (0, (0, 0)), .inr (0, (10, 0)), .inr (3, (0, 480))])
noncomputable def rxIBSW_6 (S0 : Nat → Int → Int) (ws : List Int) (S : Nat → Int → Int) (test op op2 : Int) : Prop := rxIBS_6 S0 ws S test op op2 ∧ (S 480 14 = 0 ∧ rzKr S0 S ∧ rzTs S0 S ∧ (∃ m : Int, rzSd S0 S 5 m 0 ∧ S 480 24 = m + 1 ∧ S 489 m = op2) ∧ (rzDq S0 → rzSm (rzCut (S0 485)) (S0 480 8) (S0 480 9)))
noncomputable def rxmBSW_6 (S0 : Nat → Int → Int) (ws : List Int) (S : Nat → Int → Int) (test op op2 : Int) : Nat := rxmBS_6 S0 ws S test op op2
noncomputable def rxzBSW_6 : rx_Z := ([(0, 0), (0, 0), (0, 0), (0, 0), (0, 0), (0, 0), (0, 0), (0, 0), (0, 1), (20, 24), (20, 24)], [], [], 0, 0, 91, [(0, .inr (3, (0, 480))), (1, .inr (0, (8, 0))), (2, .inr (0, (9, 0)))], [])
noncomputable def rxIBSW_7 (S0 : Nat → Int → Int) (ws : List Int) (S : Nat → Int → Int) (test op : Int) : Prop := rxIBS_7 S0 ws S test op ∧ (S 480 14 = 0 ∧ rzKr S0 S ∧ rzTs S0 S ∧ (∃ m : Int, rzSd S0 S 5 m 0 ∧ S 480 24 = m + 1 ∧ 20 ≤ S 489 m ∧ S 489 m ≤ 24) ∧ (rzDq S0 → rzSm (rzCut (S0 485)) (S0 480 8) (S0 480 9)))
noncomputable def rxmBSW_7 (S0 : Nat → Int → Int) (ws : List Int) (S : Nat → Int → Int) (test op : Int) : Nat := rxmBS_7 S0 ws S test op
noncomputable def rxzBSW_7 : rx_Z := ([(0, 0), (0, 0), (0, 0), (0, 0), (0, 0), (0, 0), (0, 0), (0, 0), (0, 1), (20, 24)], [], [], 0, 0, 92, [(0, .inr (3, (0, 480))), (1, .inr (0, (8, 0))), (2, .inr (0, (9, 0)))], [.inr (3, (0, 480))])
noncomputable def rxIBSW_8 (S0 : Nat → Int → Int) (ws : List Int) (S : Nat → Int → Int) (test op : Int) : Prop := rxIBS_8 S0 ws S test op ∧ (rzCk S0 → rzDq S0 → ∀ (tst s : Int) (rest : List Int), ws = [480, tst] → rzSr S0 tst (s :: rest) → (s = 0 ∨ s = 2 ∨ s = 3) → rzTo S0 S tst s rest (some 1))
noncomputable def rxmBSW_8 (S0 : Nat → Int → Int) (ws : List Int) (S : Nat → Int → Int) (test op : Int) : Nat := rxmBS_8 S0 ws S test op
noncomputable def rxzBSW_8 : rx_Z := ([(0, 0), (0, 0), (0, 0), (0, 0), (0, 0), (0, 0), (0, 0), (0, 0), (0, 1), (20, 24)], [], [], 0, 0, 95, [(0, .inr (3, (0, 480))), (1, .inr (0, (8, 0))), (2, .inr (0, (9, 0)))], [])
noncomputable def rxIBSW_9 (S0 : Nat → Int → Int) (ws : List Int) (S : Nat → Int → Int) (test : Int) : Prop := rxIBS_9 S0 ws S test ∧ (ws = [480, test] ∧ (rzDq S0 → ¬ rzSm (rzCut (S0 485)) (S0 480 8) (S0 480 9)))
noncomputable def rxmBSW_9 (S0 : Nat → Int → Int) (ws : List Int) (S : Nat → Int → Int) (test : Int) : Nat := rxmBS_9 S0 ws S test
noncomputable def rxzBSW_9 : rx_Z := ([(0, 0), (0, 0), (0, 0), (0, 0), (0, 0), (0, 0), (0, 0), (0, 0), (0, 1)], [], [], 0, 0, 98, [(0, .inr (3, (0, 480))), (1, .inr (0, (8, 0)))], [.inr (3, (0, 480))])
noncomputable def rxIBSW_10 (S0 : Nat → Int → Int) (ws : List Int) (S : Nat → Int → Int) (test its : Int) : Prop := rxIBS_10 S0 ws S test its ∧ (ws = [480, test] ∧ (rzDq S0 → ¬ rzSm (rzCut (S0 485)) (S0 480 8) (S0 480 9)))
noncomputable def rxmBSW_10 (S0 : Nat → Int → Int) (ws : List Int) (S : Nat → Int → Int) (test its : Int) : Nat := rxmBS_10 S0 ws S test its
noncomputable def rxzBSW_10 : rx_Z := ([(0, 0), (0, 0), (0, 0), (0, 0), (0, 0), (0, 0), (0, 0), (0, 0), (0, 1), ((-1), 32)], [], [], 0, 0, 101, [(0, .inr (3, (0, 480))), (1, .inr (0, (8, 0)))], [.inr (0, (9, 0))])
noncomputable def rxIBSW_11 (S0 : Nat → Int → Int) (ws : List Int) (S : Nat → Int → Int) (test : Int) : Prop := rxIBS_11 S0 ws S test ∧ (rzDq S0 → ¬ rzSm (rzCut (S0 485)) (S0 480 8) (S0 480 9))
noncomputable def rxmBSW_11 (S0 : Nat → Int → Int) (ws : List Int) (S : Nat → Int → Int) (test : Int) : Nat := rxmBS_11 S0 ws S test
noncomputable def rxzBSW_11 : rx_Z := ([(0, 0), (0, 0), (0, 0), (0, 0), (0, 0), (0, 0), (0, 0), (0, 0), (0, 1)], [], [], 0, 0, 112, [(0, .inr (3, (0, 480))), (1, .inr (0, (8, 0)))], [.inr (0, (0, 93)), .inr (3, (0, 480)), .inr (3, (0, 480))])
noncomputable def rxIBSW_12 (S0 : Nat → Int → Int) (ws : List Int) (S : Nat → Int → Int) (test is : Int) : Prop := rxIBS_12 S0 ws S test is ∧ (rzDq S0 → ¬ rzSm (rzCut (S0 485)) (S0 480 8) (S0 480 9) ∧ ((is = 1 ∧ rzSg (rzCut (S0 485)) (S0 480 8) 93 (S0 480 9) = true) ∨ (is = 0 ∧ rzSg (rzCut (S0 485)) (S0 480 8) 93 (S0 480 9) = false)))
noncomputable def rxmBSW_12 (S0 : Nat → Int → Int) (ws : List Int) (S : Nat → Int → Int) (test is : Int) : Nat := rxmBS_12 S0 ws S test is
noncomputable def rxzBSW_12 : rx_Z := ([(0, 0), (0, 0), (0, 0), (0, 0), (0, 0), (0, 0), (0, 0), (0, 0), (0, 1), (0, 1)], [], [], 0, 0, 115, [(0, .inr (3, (0, 480))), (1, .inr (0, (8, 0)))], [.inr (0, (9, 0)), .inr (3, (0, 480))])
noncomputable def rxIBSW_13 (S0 : Nat → Int → Int) (ws : List Int) (S : Nat → Int → Int) (test is : Int) : Prop := rxIBS_13 S0 ws S test is ∧ (rzIn S0 32 ∧ (rzDq S0 → ¬ rzSm (rzCut (S0 485)) (S0 480 8) (S0 480 9) ∧ (S 480 14 = 0 → rzSg (rzCut (S0 485)) (S0 480 8) 93 (S0 480 9) = true ∧ rzNw S0 S ∧ rzPl S0 S 0 0 0) ∧ (S 480 14 ≠ 0 → rzSg (rzCut (S0 485)) (S0 480 8) 93 (S0 480 9) = false ∧ S 480 13 = S0 480 9)))
noncomputable def rxmBSW_13 (S0 : Nat → Int → Int) (ws : List Int) (S : Nat → Int → Int) (test is : Int) : Nat := rxmBS_13 S0 ws S test is
noncomputable def rxzBSW_13 : rx_Z := ([(0, 0), (0, 0), (0, 0), (0, 0), (0, 0), (0, 0), (0, 0), (0, 0), (0, 1), (0, 1)], [], [], 0, 0, 118, [(0, .inr (3, (0, 480))), (1, .inr (0, (8, 0)))], [])
noncomputable def rxIBSW_14 (S0 : Nat → Int → Int) (ws : List Int) (S : Nat → Int → Int) (test : Int) : Prop := rxIBS_14 S0 ws S test ∧ (rzIn S0 32 ∧ (rzDq S0 → rzSg (rzCut (S0 485)) (S0 480 8) 93 (S0 480 9) = true ∧ rzNw S0 S ∧ rzPl S0 S 0 0 0))
noncomputable def rxmBSW_14 (S0 : Nat → Int → Int) (ws : List Int) (S : Nat → Int → Int) (test : Int) : Nat := rxmBS_14 S0 ws S test
noncomputable def rxzBSW_14 : rx_Z := ([(0, 0), (0, 0), (0, 0), (0, 0), (0, 0), (0, 0), (0, 0), (0, 0), (0, 1)], [], [], 0, 0, 127, [(0, .inr (3, (0, 480))), (1, .inr (0, (8, 0)))], [.inr (0, (0, 5)), .inr (3, (0, 480))])
noncomputable def rxIBSW_15 (S0 : Nat → Int → Int) (ws : List Int) (S : Nat → Int → Int) (test : Int) : Prop := rxIBS_15 S0 ws S test ∧ (rzIn S0 32 ∧ S 480 14 = 0 ∧ (rzDq S0 → rzSg (rzCut (S0 485)) (S0 480 8) 93 (S0 480 9) = true ∧ rzNw S0 S ∧ rzSd S0 S 5 (S 480 24) 0))
noncomputable def rxmBSW_15 (S0 : Nat → Int → Int) (ws : List Int) (S : Nat → Int → Int) (test : Int) : Nat := rxmBS_15 S0 ws S test
noncomputable def rxzBSW_15 : rx_Z := ([(0, 0), (0, 0), (0, 0), (0, 0), (0, 0), (0, 0), (0, 0), (0, 0), (0, 1)], [], [], 0, 0, 130, [(0, .inr (3, (0, 480))), (1, .inr (0, (8, 0)))], [])
noncomputable def rxIBSW_16 (S0 : Nat → Int → Int) (ws : List Int) (S : Nat → Int → Int) (test pn : Int) : Prop := rxIBS_16 S0 ws S test pn ∧ (rzIn S0 32 ∧ S 480 14 = 0 ∧ (rzDq S0 → rzSg (rzCut (S0 485)) (S0 480 8) 93 (S0 480 9) = true ∧ rzNw S0 S ∧ rzSd S0 S 5 (S 480 24) 0))
noncomputable def rxmBSW_16 (S0 : Nat → Int → Int) (ws : List Int) (S : Nat → Int → Int) (test pn : Int) : Nat := rxmBS_16 S0 ws S test pn
noncomputable def rxzBSW_16 : rx_Z := ([(0, 0), (0, 0), (0, 0), (0, 0), (0, 0), (0, 0), (0, 0), (0, 0), (0, 1), (1, 400)], [], [], 0, 0, 135, [(0, .inr (3, (0, 480))), (1, .inr (0, (8, 0)))], [.inr (0, (9, 0)), .inr (3, (0, 480))])
noncomputable def rxIBSW_17 (S0 : Nat → Int → Int) (ws : List Int) (S : Nat → Int → Int) (test q : Int) : Prop := rxIBS_17 S0 ws S test q ∧ (rzIn S0 32 ∧ S 480 14 = 0 ∧ (rzDq S0 → rzSg (rzCut (S0 485)) (S0 480 8) 93 (S0 480 9) = true ∧ rzNw S0 S ∧ ∃ m : Int, rzSd S0 S 5 m 0 ∧ S 480 24 = m - 1 ∧ 1 ≤ m ∧ S0 489 (m - 1) = 32))
noncomputable def rxmBSW_17 (S0 : Nat → Int → Int) (ws : List Int) (S : Nat → Int → Int) (test q : Int) : Nat := rxmBS_17 S0 ws S test q
noncomputable def rxzBSW_17 : rx_Z := ([(0, 0), (0, 0), (0, 0), (0, 0), (0, 0), (0, 0), (0, 0), (0, 0), (0, 1), (1, 8)], [], [], 0, 0, 145, [(0, .inr (3, (0, 480))), (1, .inr (0, (8, 0)))], [.inr (0, (9, 0)), .inr (3, (0, 480))])
noncomputable def rxIBSW_18 (S0 : Nat → Int → Int) (ws : List Int) (S : Nat → Int → Int) (test : Int) : Prop := rxIBS_18 S0 ws S test ∧ (ws = [480, test] ∧ (rzDq S0 → ¬ rzSm (rzCut (S0 485)) (S0 480 8) (S0 480 9)) ∧ ∃ its : Int, rzIn S0 its ∧ its ≠ 32 ∧ ¬ (its = -1 ∧ test = 0))
noncomputable def rxmBSW_18 (S0 : Nat → Int → Int) (ws : List Int) (S : Nat → Int → Int) (test : Int) : Nat := rxmBS_18 S0 ws S test
noncomputable def rxzBSW_18 : rx_Z := ([(0, 0), (0, 0), (0, 0), (0, 0), (0, 0), (0, 0), (0, 0), (0, 0), (0, 1)], [], [], 0, 0, 164, [(0, .inr (3, (0, 480))), (1, .inr (0, (8, 0)))], [.inr (3, (0, 480))])
noncomputable def rxIBSW_19 (S0 : Nat → Int → Int) (ws : List Int) (S : Nat → Int → Int) (test cmp : Int) : Prop := rxIBS_19 S0 ws S test cmp ∧ ((ws = [480, test] ∧ (rzDq S0 → ¬ rzSm (rzCut (S0 485)) (S0 480 8) (S0 480 9)) ∧ ∃ its : Int, rzIn S0 its ∧ its ≠ 32 ∧ ¬ (its = -1 ∧ test = 0)) ∧ ((cmp = 1 ∧ rzCm (S0 489) (S0 480 24)) ∨ (cmp = 0 ∧ ¬ rzCm (S0 489) (S0 480 24))))
noncomputable def rxmBSW_19 (S0 : Nat → Int → Int) (ws : List Int) (S : Nat → Int → Int) (test cmp : Int) : Nat := rxmBS_19 S0 ws S test cmp
noncomputable def rxzBSW_19 : rx_Z := ([(0, 0), (0, 0), (0, 0), (0, 0), (0, 0), (0, 0), (0, 0), (0, 0), (0, 1), (0, 1)], [], [], 0, 0, 167, [(0, .inr (3, (0, 480))), (1, .inr (0, (8, 0)))], [.inr (0, (9, 0))])
noncomputable def rxIBSW_20 (S0 : Nat → Int → Int) (ws : List Int) (S : Nat → Int → Int) (test op is : Int) : Prop := rxIBS_20 S0 ws S test op is ∧ ((ws = [480, test] ∧ (rzDq S0 → ¬ rzSm (rzCut (S0 485)) (S0 480 8) (S0 480 9)) ∧ ∃ its : Int, rzIn S0 its ∧ its ≠ 32 ∧ ¬ (its = -1 ∧ test = 0)) ∧ ¬ rzCm (S0 489) (S0 480 24) ∧ (rzDq S0 → (is = 1 ∧ rzCp (rzCut (S0 485)) (S0 480 8) (S0 480 9)) ∨ (is = 0 ∧ ¬ rzCp (rzCut (S0 485)) (S0 480 8) (S0 480 9))))
noncomputable def rxmBSW_20 (S0 : Nat → Int → Int) (ws : List Int) (S : Nat → Int → Int) (test op is : Int) : Nat := rxmBS_20 S0 ws S test op is
noncomputable def rxzBSW_20 : rx_Z := ([(0, 0), (0, 0), (0, 0), (0, 0), (0, 0), (0, 0), (0, 0), (0, 0), (0, 1), (25, 27), (0, 1)], [], [], 0, 0, 224, [(0, .inr (3, (0, 480))), (1, .inr (0, (8, 0))), (2, .inr (0, (9, 0)))], [.inr (0, (10, 0)), .inr (3, (0, 480))])
noncomputable def rxIBSW_21 (S0 : Nat → Int → Int) (ws : List Int) (S : Nat → Int → Int) (test op is : Int) : Prop := rxIBS_21 S0 ws S test op is ∧ ((ws = [480, test] ∧ (rzDq S0 → ¬ rzSm (rzCut (S0 485)) (S0 480 8) (S0 480 9)) ∧ ∃ its : Int, rzIn S0 its ∧ its ≠ 32 ∧ ¬ (its = -1 ∧ test = 0)) ∧ ¬ rzCm (S0 489) (S0 480 24) ∧ (rzDq S0 → (S 480 14 = 0 → rzCp (rzCut (S0 485)) (S0 480 8) (S0 480 9) ∧ rzNw S0 S ∧ rzPl S0 S 0 0 0) ∧ (S 480 14 ≠ 0 → ¬ rzCp (rzCut (S0 485)) (S0 480 8) (S0 480 9) ∧ S 480 13 = S0 480 9)))
noncomputable def rxmBSW_21 (S0 : Nat → Int → Int) (ws : List Int) (S : Nat → Int → Int) (test op is : Int) : Nat := rxmBS_21 S0 ws S test op is
noncomputable def rxzBSW_21 : rx_Z := ([(0, 0), (0, 0), (0, 0), (0, 0), (0, 0), (0, 0), (0, 0), (0, 0), (0, 1), (25, 27), (0, 1)], [], [], 0, 0, 227, [(0, .inr (3, (0, 480))), (1, .inr (0, (8, 0))), (2, .inr (0, (9, 0)))], [])
noncomputable def rxIBSW_22 (S0 : Nat → Int → Int) (ws : List Int) (S : Nat → Int → Int) (test op : Int) : Prop := rxIBS_22 S0 ws S test op ∧ ((ws = [480, test] ∧ (rzDq S0 → ¬ rzSm (rzCut (S0 485)) (S0 480 8) (S0 480 9)) ∧ ∃ its : Int, rzIn S0 its ∧ its ≠ 32 ∧ ¬ (its = -1 ∧ test = 0)) ∧ ¬ rzCm (S0 489) (S0 480 24) ∧ (rzDq S0 → rzCp (rzCut (S0 485)) (S0 480 8) (S0 480 9) ∧ rzNw S0 S ∧ rzPl S0 S 0 0 0))
noncomputable def rxmBSW_22 (S0 : Nat → Int → Int) (ws : List Int) (S : Nat → Int → Int) (test op : Int) : Nat := rxmBS_22 S0 ws S test op
noncomputable def rxzBSW_22 : rx_Z := ([(0, 0), (0, 0), (0, 0), (0, 0), (0, 0), (0, 0), (0, 0), (0, 0), (0, 1), (25, 27)], [], [], 0, 0, 236, [(0, .inr (3, (0, 480))), (1, .inr (0, (8, 0))), (2, .inr (0, (9, 0)))], [.inr (0, (0, 5)), .inr (3, (0, 480))])
noncomputable def rxIBSW_23 (S0 : Nat → Int → Int) (ws : List Int) (S : Nat → Int → Int) (test op : Int) : Prop := rxIBS_23 S0 ws S test op ∧ ((ws = [480, test] ∧ (rzDq S0 → ¬ rzSm (rzCut (S0 485)) (S0 480 8) (S0 480 9)) ∧ ∃ its : Int, rzIn S0 its ∧ its ≠ 32 ∧ ¬ (its = -1 ∧ test = 0)) ∧ ¬ rzCm (S0 489) (S0 480 24) ∧ S 480 14 = 0 ∧ (rzDq S0 → rzCp (rzCut (S0 485)) (S0 480 8) (S0 480 9) ∧ rzNw S0 S ∧ rzSd S0 S 5 (S 480 24) 0))
noncomputable def rxmBSW_23 (S0 : Nat → Int → Int) (ws : List Int) (S : Nat → Int → Int) (test op : Int) : Nat := rxmBS_23 S0 ws S test op
noncomputable def rxzBSW_23 : rx_Z := ([(0, 0), (0, 0), (0, 0), (0, 0), (0, 0), (0, 0), (0, 0), (0, 0), (0, 1), (25, 27)], [], [], 0, 0, 239, [(0, .inr (3, (0, 480))), (1, .inr (0, (8, 0))), (2, .inr (0, (9, 0)))], [])
noncomputable def rxIBSW_24 (S0 : Nat → Int → Int) (ws : List Int) (S : Nat → Int → Int) (test op op2 : Int) : Prop := rxIBS_24 S0 ws S test op op2 ∧ ((ws = [480, test] ∧ (rzDq S0 → ¬ rzSm (rzCut (S0 485)) (S0 480 8) (S0 480 9)) ∧ ∃ its : Int, rzIn S0 its ∧ its ≠ 32 ∧ ¬ (its = -1 ∧ test = 0)) ∧ ¬ rzCm (S0 489) (S0 480 24) ∧ S 480 14 = 0 ∧ (rzDq S0 → rzCp (rzCut (S0 485)) (S0 480 8) (S0 480 9) ∧ rzNw S0 S ∧ rzSd S0 S 5 (S 480 24) 0))
noncomputable def rxmBSW_24 (S0 : Nat → Int → Int) (ws : List Int) (S : Nat → Int → Int) (test op op2 : Int) : Nat := rxmBS_24 S0 ws S test op op2
noncomputable def rxzBSW_24 : rx_Z := ([(0, 0), (0, 0), (0, 0), (0, 0), (0, 0), (0, 0), (0, 0), (0, 0), (0, 1), (25, 27), (25, 27)], [], [], 0, 0, 242, [(0, .inr (3, (0, 480))), (1, .inr (0, (8, 0))), (2, .inr (0, (9, 0)))], [.inr (0, (0, 0)), .inr (0, (10, 0)), .inr (3, (0, 480))])
noncomputable def rxIBSW_25 (S0 : Nat → Int → Int) (ws : List Int) (S : Nat → Int → Int) (test op op2 : Int) : Prop := rxIBS_25 S0 ws S test op op2 ∧ (rzCk S0 → rzDq S0 → ∀ (tst s : Int) (rest : List Int), ws = [480, tst] → rzSr S0 tst (s :: rest) → (s = 0 ∨ s = 2 ∨ s = 3) → rzTo S0 S tst s rest (some 1))
noncomputable def rxmBSW_25 (S0 : Nat → Int → Int) (ws : List Int) (S : Nat → Int → Int) (test op op2 : Int) : Nat := rxmBS_25 S0 ws S test op op2
noncomputable def rxzBSW_25 : rx_Z := ([(0, 0), (0, 0), (0, 0), (0, 0), (0, 0), (0, 0), (0, 0), (0, 0), (0, 1), (25, 27), (25, 27)], [], [], 0, 0, 245, [(0, .inr (3, (0, 480))), (1, .inr (0, (8, 0))), (2, .inr (0, (9, 0)))], [])
noncomputable def rxoBSW_0_0 : bx_HO := (([(0, 0), (0, 0), (0, 0), (0, 0), (0, 0), (0, 0), (0, 0), (0, 0), (0, 1), (0, 2)], [(3, (9, 0), (0, 3)), (3, (9, 0), (0, 3)), (3, (9, 0), (0, 3)), (3, (9, 0), (0, 3)), (3, (9, 0), (0, 3))], [(((0, 0), 1851192626986356799632114105031551009123054124018230966928539648000000), .inr (0, (9, 0))), (((0, 480), 11), .inr (0, (9, 0)))], 0, 0, 72, [(2, .inr (0, (0, (-1)))), (0, .inr (3, (0, 480))), (1, .inr (0, (8, 0)))], []), [], [], [(0, 0), (0, 0), (0, 0), (0, 0), (0, 0), (0, 0), (0, 0), (0, 0), (8, 0), (0, (-1))], 1)
noncomputable def rxoBSW_0_1 : bx_HO := (([(0, 0), (0, 0), (0, 0), (0, 0), (0, 0), (0, 0), (0, 0), (0, 0), (0, 1), (3, 3), ((-9223372036854775808), 9223372036854775807)], [(3, (10, 0), (0, 37)), (3, (10, 0), (0, 47)), (3, (10, 0), (0, 42)), (3, (10, 0), (0, 45)), (3, (10, 0), (0, 43))], [(((0, 0), 1851192626986356799832820811818326617396875588472066220482363392000000), .inr (1, (10, 0))), (((0, 480), 12), .inr (1, (10, 0))), (((0, 0), 1851192626986356799632114105031551009123054124018230966928539648000000), .inr (0, (9, 0))), (((0, 480), 11), .inr (0, (9, 0)))], 0, 0, 72, [(2, .inr (0, (0, (-1)))), (0, .inr (3, (0, 480))), (1, .inr (0, (8, 0)))], []), [], [], [(0, 0), (0, 0), (0, 0), (0, 0), (0, 0), (0, 0), (0, 0), (0, 0), (8, 0), (0, (-1))], 1)
noncomputable def rxoBSW_0_2 : bx_HO := (([(0, 0), (0, 0), (0, 0), (0, 0), (0, 0), (0, 0), (0, 0), (0, 0), (0, 1), (3, 3), (37, 37)], [(3, (10, 0), (0, 47)), (3, (10, 0), (0, 42)), (3, (10, 0), (0, 45)), (3, (10, 0), (0, 43))], [(((0, 0), 1851192626986356799832820811818326617396875588472066220482363392000000), .inr (1, (10, 0))), (((0, 480), 12), .inr (1, (10, 0))), (((0, 0), 1851192626986356799632114105031551009123054124018230966928539648000000), .inr (0, (9, 0))), (((0, 480), 11), .inr (0, (9, 0)))], 0, 0, 72, [(2, .inr (0, (0, 24))), (0, .inr (3, (0, 480))), (1, .inr (0, (8, 0)))], []), [], [], [(0, 0), (0, 0), (0, 0), (0, 0), (0, 0), (0, 0), (0, 0), (0, 0), (8, 0), (0, 24)], 1)
noncomputable def rxoBSW_0_3 : bx_HO := (([(0, 0), (0, 0), (0, 0), (0, 0), (0, 0), (0, 0), (0, 0), (0, 0), (0, 1), (3, 3), (47, 47)], [(3, (10, 0), (0, 42)), (3, (10, 0), (0, 45)), (3, (10, 0), (0, 43))], [(((0, 0), 1851192626986356799832820811818326617396875588472066220482363392000000), .inr (1, (10, 0))), (((0, 480), 12), .inr (1, (10, 0))), (((0, 0), 1851192626986356799632114105031551009123054124018230966928539648000000), .inr (0, (9, 0))), (((0, 480), 11), .inr (0, (9, 0)))], 0, 0, 72, [(2, .inr (0, (0, 23))), (0, .inr (3, (0, 480))), (1, .inr (0, (8, 0)))], []), [], [], [(0, 0), (0, 0), (0, 0), (0, 0), (0, 0), (0, 0), (0, 0), (0, 0), (8, 0), (0, 23)], 1)
noncomputable def rxoBSW_0_4 : bx_HO := (([(0, 0), (0, 0), (0, 0), (0, 0), (0, 0), (0, 0), (0, 0), (0, 0), (0, 1), (3, 3), (42, 42)], [(3, (10, 0), (0, 45)), (3, (10, 0), (0, 43))], [(((0, 0), 1851192626986356799832820811818326617396875588472066220482363392000000), .inr (1, (10, 0))), (((0, 480), 12), .inr (1, (10, 0))), (((0, 0), 1851192626986356799632114105031551009123054124018230966928539648000000), .inr (0, (9, 0))), (((0, 480), 11), .inr (0, (9, 0)))], 0, 0, 72, [(2, .inr (0, (0, 22))), (0, .inr (3, (0, 480))), (1, .inr (0, (8, 0)))], []), [], [], [(0, 0), (0, 0), (0, 0), (0, 0), (0, 0), (0, 0), (0, 0), (0, 0), (8, 0), (0, 22)], 1)
noncomputable def rxoBSW_0_5 : bx_HO := (([(0, 0), (0, 0), (0, 0), (0, 0), (0, 0), (0, 0), (0, 0), (0, 0), (0, 1), (3, 3), (45, 45)], [(3, (10, 0), (0, 43))], [(((0, 0), 1851192626986356799832820811818326617396875588472066220482363392000000), .inr (1, (10, 0))), (((0, 480), 12), .inr (1, (10, 0))), (((0, 0), 1851192626986356799632114105031551009123054124018230966928539648000000), .inr (0, (9, 0))), (((0, 480), 11), .inr (0, (9, 0)))], 0, 0, 72, [(2, .inr (0, (0, 21))), (0, .inr (3, (0, 480))), (1, .inr (0, (8, 0)))], []), [], [], [(0, 0), (0, 0), (0, 0), (0, 0), (0, 0), (0, 0), (0, 0), (0, 0), (8, 0), (0, 21)], 1)
noncomputable def rxoBSW_0_6 : bx_HO := (([(0, 0), (0, 0), (0, 0), (0, 0), (0, 0), (0, 0), (0, 0), (0, 0), (0, 1), (3, 3), (43, 43)], [], [(((0, 0), 1851192626986356799832820811818326617396875588472066220482363392000000), .inr (1, (10, 0))), (((0, 480), 12), .inr (1, (10, 0))), (((0, 0), 1851192626986356799632114105031551009123054124018230966928539648000000), .inr (0, (9, 0))), (((0, 480), 11), .inr (0, (9, 0)))], 0, 0, 72, [(2, .inr (0, (0, 20))), (0, .inr (3, (0, 480))), (1, .inr (0, (8, 0)))], []), [], [], [(0, 0), (0, 0), (0, 0), (0, 0), (0, 0), (0, 0), (0, 0), (0, 0), (8, 0), (0, 20)], 1)
noncomputable def rxoBSW_1_0 : bx_HO := (([(0, 0), (0, 0), (0, 0), (0, 0), (0, 0), (0, 0), (0, 0), (0, 0), (0, 1), (0, 24)], [(3, (9, 0), (0, (-1)))], [], 0, 0, 79, [(0, .inr (3, (0, 480))), (1, .inr (0, (8, 0))), (2, .inr (0, (9, 0)))], [.inr (0, (9, 0)), .inr (3, (0, 480))]), [(9, 20, 24), (9, 20, 24)], [], [(0, 0), (0, 0), (0, 0), (0, 0), (0, 0), (0, 0), (0, 0), (0, 0), (8, 0), (9, 0), (9, 0)], 2)
noncomputable def rxoBSW_1_1 : bx_HO := (([(0, 0), (0, 0), (0, 0), (0, 0), (0, 0), (0, 0), (0, 0), (0, 0), (0, 1), ((-1), (-1))], [], [], 0, 0, 98, [(0, .inr (3, (0, 480))), (1, .inr (0, (8, 0))), (2, .inr (0, (9, 0)))], [.inr (3, (0, 480))]), [], [], [(0, 0), (0, 0), (0, 0), (0, 0), (0, 0), (0, 0), (0, 0), (0, 0), (8, 0)], 9)
noncomputable def rxoBSW_4_0 : bx_HO := (([(0, 0), (0, 0), (0, 0), (0, 0), (0, 0), (0, 0), (0, 0), (0, 0), (0, 1), (20, 24), (20, 24), (5, 6)], [], [], 0, 0, 88, [(0, .inr (3, (0, 480))), (1, .inr (0, (8, 0))), (2, .inr (0, (9, 0)))], [.inr (0, (0, 0)), .inr (0, (9, 0)), .inr (3, (0, 480))]), [], [], [(0, 0), (0, 0), (0, 0), (0, 0), (0, 0), (0, 0), (0, 0), (0, 0), (8, 0), (9, 0), (9, 0)], 5)
noncomputable def rxoBSW_6_0 : bx_HO := (([(0, 0), (0, 0), (0, 0), (0, 0), (0, 0), (0, 0), (0, 0), (0, 0), (0, 1), (20, 24), (20, 24)], [], [], 0, 0, 92, [(0, .inr (3, (0, 480))), (1, .inr (0, (8, 0))), (2, .inr (0, (9, 0)))], [.inr (3, (0, 480))]), [], [], [(0, 0), (0, 0), (0, 0), (0, 0), (0, 0), (0, 0), (0, 0), (0, 0), (8, 0), (9, 0)], 7)
noncomputable def rxeBSW_8_0 : rx_End × List (Nat × Int × Int) := (([(0, 0), (0, 0), (0, 0), (0, 0), (0, 0), (0, 0), (0, 0), (0, 0), (0, 1), (20, 24)], [], [], some (.inr (0, (0, 1)))), [])
noncomputable def rxoBSW_10_0 : bx_HO := (([(0, 0), (0, 0), (0, 0), (0, 0), (0, 0), (0, 0), (0, 0), (0, 0), (0, 1), (32, 32)], [], [], 0, 0, 112, [(3, .inr (0, (9, 0))), (0, .inr (3, (0, 480))), (1, .inr (0, (8, 0)))], [.inr (0, (0, 93)), .inr (3, (0, 480)), .inr (3, (0, 480))]), [], [], [(0, 0), (0, 0), (0, 0), (0, 0), (0, 0), (0, 0), (0, 0), (0, 0), (8, 0)], 11)
noncomputable def rxoBSW_10_1 : bx_HO := (([(0, 0), (0, 0), (0, 0), (0, 0), (0, 0), (0, 0), (0, 0), (0, 0), (1, 1), ((-1), (-1))], [(3, (8, 0), (0, 0)), (3, (9, 0), (0, 32))], [], 0, 0, 164, [(3, .inr (0, (9, 0))), (0, .inr (3, (0, 480))), (1, .inr (0, (8, 0)))], [.inr (3, (0, 480))]), [], [], [(0, 0), (0, 0), (0, 0), (0, 0), (0, 0), (0, 0), (0, 0), (0, 0), (8, 0)], 18)
noncomputable def rxoBSW_10_2 : bx_HO := (([(0, 0), (0, 0), (0, 0), (0, 0), (0, 0), (0, 0), (0, 0), (0, 0), (0, 1), (0, 31)], [(3, (9, 0), (0, (-1))), (3, (9, 0), (0, 32))], [], 0, 0, 164, [(3, .inr (0, (9, 0))), (0, .inr (3, (0, 480))), (1, .inr (0, (8, 0)))], [.inr (3, (0, 480))]), [], [], [(0, 0), (0, 0), (0, 0), (0, 0), (0, 0), (0, 0), (0, 0), (0, 0), (8, 0)], 18)
noncomputable def rxeBSW_10_0 : rx_End × List (Nat × Int × Int) := (([(0, 0), (0, 0), (0, 0), (0, 0), (0, 0), (0, 0), (0, 0), (0, 0), (0, 0), ((-1), (-1))], [(3, (9, 0), (0, 32))], [], some (.inr (0, (0, 4)))), [])
noncomputable def rxoBSW_13_0 : bx_HO := (([(0, 0), (0, 0), (0, 0), (0, 0), (0, 0), (0, 0), (0, 0), (0, 0), (0, 1), (0, 1), (0, 0)], [], [(((0, 0), 1851192626986356800234234225391877833944518517379736727590010880000000), .inr (0, (10, 0))), (((0, 480), 14), .inr (0, (10, 0)))], 0, 0, 127, [(0, .inr (3, (0, 480))), (1, .inr (0, (8, 0)))], [.inr (0, (0, 5)), .inr (3, (0, 480))]), [], [], [(0, 0), (0, 0), (0, 0), (0, 0), (0, 0), (0, 0), (0, 0), (0, 0), (8, 0)], 14)
noncomputable def rxeBSW_13_0 : rx_End × List (Nat × Int × Int) := (([(0, 0), (0, 0), (0, 0), (0, 0), (0, 0), (0, 0), (0, 0), (0, 0), (0, 1), (0, 1), (1, 1)], [(3, (10, 0), (0, 0))], [(((0, 0), 1851192626986356800234234225391877833944518517379736727590010880000000), .inr (0, (10, 0))), (((0, 480), 14), .inr (0, (10, 0)))], some (.inr (0, (0, 3)))), [])
noncomputable def rxoBSW_15_0 : bx_HO := (([(0, 0), (0, 0), (0, 0), (0, 0), (0, 0), (0, 0), (0, 0), (0, 0), (0, 1), (0, 400)], [], [(((0, 0), 1851192626986356802241301293259633916682733161918089263128248320000000), .inr (0, (9, 0))), (((0, 480), 24), .inr (0, (9, 0)))], 0, 0, 135, [(0, .inr (3, (0, 480))), (1, .inr (0, (8, 0)))], [.inr (0, (9, 0)), .inr (3, (0, 480))]), [(9, 1, 400)], [], [(0, 0), (0, 0), (0, 0), (0, 0), (0, 0), (0, 0), (0, 0), (0, 0), (8, 0), (9, 0)], 16)
noncomputable def rxoBSW_16_0 : bx_HO := (([(0, 0), (0, 0), (0, 0), (0, 0), (0, 0), (0, 0), (0, 0), (0, 0), (0, 1), (1, 400), (0, 8)], [], [(((0, 0), 1851192626986356802442008000046409524956554626371924516682072064000000), .inr (0, (10, 0))), (((0, 480), 25), .inr (0, (10, 0))), (((0, 0), 1851192626986356802241301293259633916682733161918089263128248323000000), .inr (0, (9, (-1)))), (((0, 480), 24), .inr (0, (9, (-1))))], 0, 0, 145, [(0, .inr (3, (0, 480))), (1, .inr (0, (8, 0)))], [.inr (0, (10, 0)), .inr (3, (0, 480))]), [(10, 1, 8)], [], [(0, 0), (0, 0), (0, 0), (0, 0), (0, 0), (0, 0), (0, 0), (0, 0), (8, 0), (10, 0)], 17)
noncomputable def rxeBSW_17_0 : rx_End × List (Nat × Int × Int) := (([(0, 0), (0, 0), (0, 0), (0, 0), (0, 0), (0, 0), (0, 0), (0, 0), (0, 1), (1, 8)], [], [(((0, 0), 1851192626986356802442008000046409524956554626371924516682072067000000), .inr (0, (9, (-1)))), (((0, 480), 25), .inr (0, (9, (-1))))], some (.inr (0, (0, 3)))), [])
noncomputable def rxoBSW_19_0 : bx_HO := (([(0, 0), (0, 0), (0, 0), (0, 0), (0, 0), (0, 0), (0, 0), (0, 0), (0, 1), (0, 0), (0, 2)], [(3, (10, 0), (0, 3)), (3, (10, 0), (0, 3)), (3, (10, 0), (0, 3))], [(((0, 0), 1851192626986356799632114105031551009123054124018230966928539648000000), .inr (0, (10, 0))), (((0, 480), 11), .inr (0, (10, 0)))], 0, 0, 224, [(2, .inr (0, (0, 27))), (0, .inr (3, (0, 480))), (1, .inr (0, (8, 0)))], [.inr (0, (0, 0)), .inr (3, (0, 480))]), [], [], [(0, 0), (0, 0), (0, 0), (0, 0), (0, 0), (0, 0), (0, 0), (0, 0), (8, 0), (0, 27), (0, 0)], 20)
noncomputable def rxoBSW_19_1 : bx_HO := (([(0, 0), (0, 0), (0, 0), (0, 0), (0, 0), (0, 0), (0, 0), (0, 0), (0, 1), (0, 0), (3, 3), ((-9223372036854775808), 9223372036854775807)], [(3, (11, 0), (0, 61)), (3, (11, 0), (0, 62)), (3, (11, 0), (0, 60))], [(((0, 0), 1851192626986356799832820811818326617396875588472066220482363392000000), .inr (1, (11, 0))), (((0, 480), 12), .inr (1, (11, 0))), (((0, 0), 1851192626986356799632114105031551009123054124018230966928539648000000), .inr (0, (10, 0))), (((0, 480), 11), .inr (0, (10, 0)))], 0, 0, 224, [(2, .inr (0, (0, 27))), (0, .inr (3, (0, 480))), (1, .inr (0, (8, 0)))], [.inr (0, (0, 0)), .inr (3, (0, 480))]), [], [], [(0, 0), (0, 0), (0, 0), (0, 0), (0, 0), (0, 0), (0, 0), (0, 0), (8, 0), (0, 27), (0, 0)], 20)
noncomputable def rxoBSW_19_2 : bx_HO := (([(0, 0), (0, 0), (0, 0), (0, 0), (0, 0), (0, 0), (0, 0), (0, 0), (0, 1), (0, 0), (3, 3), (61, 61)], [(3, (11, 0), (0, 62)), (3, (11, 0), (0, 60))], [(((0, 0), 1851192626986356799832820811818326617396875588472066220482363392000000), .inr (1, (11, 0))), (((0, 480), 12), .inr (1, (11, 0))), (((0, 0), 1851192626986356799632114105031551009123054124018230966928539648000000), .inr (0, (10, 0))), (((0, 480), 11), .inr (0, (10, 0)))], 0, 0, 224, [(2, .inr (0, (0, 27))), (0, .inr (3, (0, 480))), (1, .inr (0, (8, 0)))], [.inr (0, (0, 1)), .inr (3, (0, 480))]), [], [], [(0, 0), (0, 0), (0, 0), (0, 0), (0, 0), (0, 0), (0, 0), (0, 0), (8, 0), (0, 27), (0, 1)], 20)
noncomputable def rxoBSW_19_3 : bx_HO := (([(0, 0), (0, 0), (0, 0), (0, 0), (0, 0), (0, 0), (0, 0), (0, 0), (0, 1), (0, 0), (3, 3), (62, 62)], [(3, (11, 0), (0, 60))], [(((0, 0), 1851192626986356799832820811818326617396875588472066220482363392000000), .inr (1, (11, 0))), (((0, 480), 12), .inr (1, (11, 0))), (((0, 0), 1851192626986356799632114105031551009123054124018230966928539648000000), .inr (0, (10, 0))), (((0, 480), 11), .inr (0, (10, 0)))], 0, 0, 224, [(2, .inr (0, (0, 26))), (0, .inr (3, (0, 480))), (1, .inr (0, (8, 0)))], [.inr (0, (0, 1)), .inr (3, (0, 480))]), [], [], [(0, 0), (0, 0), (0, 0), (0, 0), (0, 0), (0, 0), (0, 0), (0, 0), (8, 0), (0, 26), (0, 1)], 20)
noncomputable def rxoBSW_19_4 : bx_HO := (([(0, 0), (0, 0), (0, 0), (0, 0), (0, 0), (0, 0), (0, 0), (0, 0), (0, 1), (0, 0), (3, 3), (60, 60)], [], [(((0, 0), 1851192626986356799832820811818326617396875588472066220482363392000000), .inr (1, (11, 0))), (((0, 480), 12), .inr (1, (11, 0))), (((0, 0), 1851192626986356799632114105031551009123054124018230966928539648000000), .inr (0, (10, 0))), (((0, 480), 11), .inr (0, (10, 0)))], 0, 0, 224, [(2, .inr (0, (0, 25))), (0, .inr (3, (0, 480))), (1, .inr (0, (8, 0)))], [.inr (0, (0, 1)), .inr (3, (0, 480))]), [], [], [(0, 0), (0, 0), (0, 0), (0, 0), (0, 0), (0, 0), (0, 0), (0, 0), (8, 0), (0, 25), (0, 1)], 20)
noncomputable def rxeBSW_19_0 : rx_End × List (Nat × Int × Int) := (([(0, 0), (0, 0), (0, 0), (0, 0), (0, 0), (0, 0), (0, 0), (0, 0), (0, 1), (1, 1)], [(3, (9, 0), (0, 0))], [], some (.inr (0, (0, 2)))), [])
noncomputable def rxoBSW_21_0 : bx_HO := (([(0, 0), (0, 0), (0, 0), (0, 0), (0, 0), (0, 0), (0, 0), (0, 0), (0, 1), (25, 27), (0, 1), (0, 0)], [], [(((0, 0), 1851192626986356800234234225391877833944518517379736727590010880000000), .inr (0, (11, 0))), (((0, 480), 14), .inr (0, (11, 0)))], 0, 0, 236, [(0, .inr (3, (0, 480))), (1, .inr (0, (8, 0))), (2, .inr (0, (9, 0)))], [.inr (0, (0, 5)), .inr (3, (0, 480))]), [], [], [(0, 0), (0, 0), (0, 0), (0, 0), (0, 0), (0, 0), (0, 0), (0, 0), (8, 0), (9, 0)], 22)
noncomputable def rxeBSW_21_0 : rx_End × List (Nat × Int × Int) := (([(0, 0), (0, 0), (0, 0), (0, 0), (0, 0), (0, 0), (0, 0), (0, 0), (0, 1), (25, 27), (0, 1), (1, 1)], [(3, (11, 0), (0, 0))], [(((0, 0), 1851192626986356800234234225391877833944518517379736727590010880000000), .inr (0, (11, 0))), (((0, 480), 14), .inr (0, (11, 0)))], some (.inr (0, (0, 1)))), [])
noncomputable def rxoBSW_23_0 : bx_HO := (([(0, 0), (0, 0), (0, 0), (0, 0), (0, 0), (0, 0), (0, 0), (0, 0), (0, 1), (25, 27)], [], [], 0, 0, 242, [(0, .inr (3, (0, 480))), (1, .inr (0, (8, 0))), (2, .inr (0, (9, 0)))], [.inr (0, (0, 0)), .inr (0, (9, 0)), .inr (3, (0, 480))]), [], [], [(0, 0), (0, 0), (0, 0), (0, 0), (0, 0), (0, 0), (0, 0), (0, 0), (8, 0), (9, 0), (9, 0)], 24)
noncomputable def rxeBSW_25_0 : rx_End × List (Nat × Int × Int) := (([(0, 0), (0, 0), (0, 0), (0, 0), (0, 0), (0, 0), (0, 0), (0, 0), (0, 1), (25, 27), (25, 27)], [], [], some (.inr (0, (0, 1)))), [])
noncomputable def rxYBSW : List bx_HE := [(rxzBSW_0, [rxoBSW_0_0, rxoBSW_0_1, rxoBSW_0_2, rxoBSW_0_3, rxoBSW_0_4, rxoBSW_0_5, rxoBSW_0_6], []), (rxzBSW_1, [rxoBSW_1_0, rxoBSW_1_1], []), (rxzBSW_2, [], []), (rxzBSW_3, [], []), (rxzBSW_4, [rxoBSW_4_0], []), (rxzBSW_5, [], []), (rxzBSW_6, [rxoBSW_6_0], []), (rxzBSW_7, [], []), (rxzBSW_8, [], [rxeBSW_8_0]), (rxzBSW_9, [], []), (rxzBSW_10, [rxoBSW_10_0, rxoBSW_10_1, rxoBSW_10_2], [rxeBSW_10_0]), (rxzBSW_11, [], []), (rxzBSW_12, [], []), (rxzBSW_13, [rxoBSW_13_0], [rxeBSW_13_0]), (rxzBSW_14, [], []), (rxzBSW_15, [rxoBSW_15_0], []), (rxzBSW_16, [rxoBSW_16_0], []), (rxzBSW_17, [], [rxeBSW_17_0]), (rxzBSW_18, [], []), (rxzBSW_19, [rxoBSW_19_0, rxoBSW_19_1, rxoBSW_19_2, rxoBSW_19_3, rxoBSW_19_4], [rxeBSW_19_0]), (rxzBSW_20, [], []), (rxzBSW_21, [rxoBSW_21_0], [rxeBSW_21_0]), (rxzBSW_22, [], []), (rxzBSW_23, [rxoBSW_23_0], []), (rxzBSW_24, [], []), (rxzBSW_25, [], [rxeBSW_25_0])]
noncomputable def rxUBSW (q : bx_HE) : Bool := Nat.beq (rx_zpc q.1) 79 || Nat.beq (rx_zpc q.1) 82 || Nat.beq (rx_zpc q.1) 88 || Nat.beq (rx_zpc q.1) 92 || Nat.beq (rx_zpc q.1) 98 || Nat.beq (rx_zpc q.1) 112 || Nat.beq (rx_zpc q.1) 115 || Nat.beq (rx_zpc q.1) 127 || Nat.beq (rx_zpc q.1) 164 || Nat.beq (rx_zpc q.1) 224 || Nat.beq (rx_zpc q.1) 236 || Nat.beq (rx_zpc q.1) 242
noncomputable def rxYBBSW : bx_B := (rxV, rxNP, rxDmf, bx_mdH rxCBSW.2.2.1)
set_option maxRecDepth 100000 in
theorem rxYcBSW : bx_chkH rxYBBSW rxM279 rxCBSW rxYBSW (rxUBSW, fun cut z => rx_ex2 (rxCT rxYBBSW rxCnE) cut 30000 rxCBSW.2.2.2.1 279 z) = true := by decide +kernel
noncomputable def rxIBSW (S0 : Nat → Int → Int) (ws : List Int) (i : Nat) : bx_SP := fun S r => match i with | 0 => rxIBSW_0 S0 ws S (r 8) | 1 => rxIBSW_1 S0 ws S (r 8) (r 9) | 2 => rxIBSW_2 S0 ws S (r 8) (r 9) (r 10) | 3 => rxIBSW_3 S0 ws S (r 8) (r 9) (r 10) (r 11) | 4 => rxIBSW_4 S0 ws S (r 8) (r 9) (r 10) (r 11) | 5 => rxIBSW_5 S0 ws S (r 8) (r 9) (r 10) | 6 => rxIBSW_6 S0 ws S (r 8) (r 9) (r 10) | 7 => rxIBSW_7 S0 ws S (r 8) (r 9) | 8 => rxIBSW_8 S0 ws S (r 8) (r 9) | 9 => rxIBSW_9 S0 ws S (r 8) | 10 => rxIBSW_10 S0 ws S (r 8) (r 9) | 11 => rxIBSW_11 S0 ws S (r 8) | 12 => rxIBSW_12 S0 ws S (r 8) (r 9) | 13 => rxIBSW_13 S0 ws S (r 8) (r 9) | 14 => rxIBSW_14 S0 ws S (r 8) | 15 => rxIBSW_15 S0 ws S (r 8) | 16 => rxIBSW_16 S0 ws S (r 8) (r 9) | 17 => rxIBSW_17 S0 ws S (r 8) (r 9) | 18 => rxIBSW_18 S0 ws S (r 8) | 19 => rxIBSW_19 S0 ws S (r 8) (r 9) | 20 => rxIBSW_20 S0 ws S (r 8) (r 9) (r 10) | 21 => rxIBSW_21 S0 ws S (r 8) (r 9) (r 10) | 22 => rxIBSW_22 S0 ws S (r 8) (r 9) | 23 => rxIBSW_23 S0 ws S (r 8) (r 9) | 24 => rxIBSW_24 S0 ws S (r 8) (r 9) (r 10) | 25 => rxIBSW_25 S0 ws S (r 8) (r 9) (r 10) | _ => False
noncomputable def rxmBSW (S0 : Nat → Int → Int) (ws : List Int) (i : Nat) (S : Nat → Int → Int) (r : Nat → Int) : Nat := match i with | 0 => rxmBSW_0 S0 ws S (r 8) | 1 => rxmBSW_1 S0 ws S (r 8) (r 9) | 2 => rxmBSW_2 S0 ws S (r 8) (r 9) (r 10) | 3 => rxmBSW_3 S0 ws S (r 8) (r 9) (r 10) (r 11) | 4 => rxmBSW_4 S0 ws S (r 8) (r 9) (r 10) (r 11) | 5 => rxmBSW_5 S0 ws S (r 8) (r 9) (r 10) | 6 => rxmBSW_6 S0 ws S (r 8) (r 9) (r 10) | 7 => rxmBSW_7 S0 ws S (r 8) (r 9) | 8 => rxmBSW_8 S0 ws S (r 8) (r 9) | 9 => rxmBSW_9 S0 ws S (r 8) | 10 => rxmBSW_10 S0 ws S (r 8) (r 9) | 11 => rxmBSW_11 S0 ws S (r 8) | 12 => rxmBSW_12 S0 ws S (r 8) (r 9) | 13 => rxmBSW_13 S0 ws S (r 8) (r 9) | 14 => rxmBSW_14 S0 ws S (r 8) | 15 => rxmBSW_15 S0 ws S (r 8) | 16 => rxmBSW_16 S0 ws S (r 8) (r 9) | 17 => rxmBSW_17 S0 ws S (r 8) (r 9) | 18 => rxmBSW_18 S0 ws S (r 8) | 19 => rxmBSW_19 S0 ws S (r 8) (r 9) | 20 => rxmBSW_20 S0 ws S (r 8) (r 9) (r 10) | 21 => rxmBSW_21 S0 ws S (r 8) (r 9) (r 10) | 22 => rxmBSW_22 S0 ws S (r 8) (r 9) | 23 => rxmBSW_23 S0 ws S (r 8) (r 9) | 24 => rxmBSW_24 S0 ws S (r 8) (r 9) (r 10) | 25 => rxmBSW_25 S0 ws S (r 8) (r 9) (r 10) | _ => 0
noncomputable def rxPBSW (S0 : Nat → Int → Int) (ws : List Int) : Prop := rxPBS S0 ws
noncomputable def rxPSBSW (S0 : Nat → Int → Int) (ws : List Int) (S : Nat → Int → Int) (w : Option Int) : Prop := rxPSBS S0 ws S w ∧ (rzCk S0 → rzDq S0 → ∀ (tst s : Int) (rest : List Int), ws = [480, tst] → rzSr S0 tst (s :: rest) → (s = 0 ∨ s = 2 ∨ s = 3) → rzTo S0 S tst s rest w)
theorem rxkBSW_2 {S0 : Nat → Int → Int} {ws : List Int} {S : Nat → Int → Int} {test op op2 : Int} (hP : rxPBSW S0 ws) (hin : bx_same rxL (bx_mdl rxCBSW.2.2.1) S0 S) (I0 : bx_Inv rxL S) (hinv : rxIBSW_2 S0 ws S test op op2) (l8 : 0 ≤ test) (u8 : test ≤ 1) (l9 : 20 ≤ op) (u9 : op ≤ 24) (l10 : 20 ≤ op2) (u10 : op2 ≤ 24) : rxPBI S [op2] ∧ ∀ (S_p : Nat → Int → Int) (bd : Int), 5 ≤ bd → bd ≤ 6 → rxPSBI S [op2] S_p (some bd) → bx_Inv rxL S_p → bx_same rxL (bx_mdl rxCBI.2.2.1) S S_p → rxIBSW_3 S0 ws S_p test op op2 bd ∧ rxmBSW_3 S0 ws S_p test op op2 bd < rxmBSW_2 S0 ws S test op op2 := by
  obtain ⟨hI, hx⟩ := hinv
  have g_ := rxkBS_2 hP hin I0 hI l8 u8 l9 u9 l10 u10
  exact ⟨g_.1, fun S_p bd l_ u_ hq I1 hsm => ⟨⟨(g_.2 S_p bd l_ u_ hq I1 hsm).1, hx⟩, (g_.2 S_p bd l_ u_ hq I1 hsm).2⟩⟩
theorem rxsBSW_2 {X : (Nat → Int → Int) → Prop} {S0 : Nat → Int → Int} {ws : List Int} (hP : rxPBSW S0 ws) : rx_obK X S0 rxCBSW.2.2.1 rxCBI.2.2.1 (rxIBSW S0 ws) (rxmBSW S0 ws) 2 3 rxzBSW_2 rxzBSW_3 [.inr (0, (10, 0))] (some 11) rxPBI rxPSBI := by
  intro S r hinv hXS I0 hin hs_ hf_
  have b_ := bx_bds_sat hs_
  have f_ := bx_fcl_ok hs_.1 hf_
  obtain ⟨⟨l8, u8⟩, ⟨l9, u9⟩, ⟨l10, u10⟩, -⟩ := b_
  have g := rxkBSW_2 hP hin I0 hinv l8 u8 l9 u9 l10 u10
  have ea : List.map (bx_num r) [.inr (0, (10, 0))] = [(r 10)] := by
    simp only [List.map_cons, List.map_nil, bx_xv_ok hs_.1]
    rfl
  rw [ea]
  refine ⟨g.1, fun S_p w r_p hPS hX_p I1 hsm hr hw hs_p => ?_⟩
  have hw := hw _ rfl
  subst hw
  have b_p := hs_p.2.2 11 _ _ rfl
  have g2 := g.2 S_p (r_p 11) b_p.1 b_p.2 hPS I1 hsm
  show rxIBSW_3 S0 ws S_p (r_p 8) (r_p 9) (r_p 10) (r_p 11) ∧ rxmBSW_3 S0 ws S_p (r_p 8) (r_p 9) (r_p 10) (r_p 11) < _
  rw [hr 8 (by decide), hr 9 (by decide), hr 10 (by decide)]
  exact g2
theorem rxkBSW_3 {S0 : Nat → Int → Int} {ws : List Int} {S : Nat → Int → Int} {test op op2 bd : Int} (hP : rxPBSW S0 ws) (hin : bx_same rxL (bx_mdl rxCBSW.2.2.1) S0 S) (I0 : bx_Inv rxL S) (hinv : rxIBSW_3 S0 ws S test op op2 bd) (l8 : 0 ≤ test) (u8 : test ≤ 1) (l9 : 20 ≤ op) (u9 : op ≤ 24) (l10 : 20 ≤ op2) (u10 : op2 ≤ 24) (l11 : 5 ≤ bd) (u11 : bd ≤ 6) : rxPST S [480, bd] ∧ ∀ (S_p : Nat → Int → Int), rxPSST S [480, bd] S_p none → bx_Inv rxL S_p → bx_same rxL (bx_mdl rxCST.2.2.1) S S_p → rxIBSW_4 S0 ws S_p test op op2 bd ∧ rxmBSW_4 S0 ws S_p test op op2 bd < rxmBSW_3 S0 ws S test op op2 bd := by
  obtain ⟨hI, hx⟩ := hinv
  have g_ := rxkBS_3 hP hin I0 hI l8 u8 l9 u9 l10 u10 l11 u11
  exact ⟨g_.1, fun S_p hq I1 hsm => ⟨⟨(g_.2 S_p hq I1 hsm).1, (by
    have e := hI.1
    subst e
    obtain ⟨-, l2, hw2, hs2, -⟩ := hq
    have e2 : bd = l2 := Option.some.inj (congrArg (fun l : List Int => l[1]?) hw2)
    have sd := rzSd_m (l_p := 5) (by omega) (rzSd_st rzPl_rf hs2 (hsm 480 21 (by decide) (by decide) (by decide +kernel)))
    exact ⟨(show S_p 480 14 = S 480 14 from hsm 480 14 (by decide) (by decide) (by decide +kernel)).trans hP.2.1, rzKr_of hsm (by decide +kernel), rzTs_of hsm (by decide +kernel), sd, hx⟩)⟩, (g_.2 S_p hq I1 hsm).2⟩⟩
theorem rxsBSW_3 {X : (Nat → Int → Int) → Prop} {S0 : Nat → Int → Int} {ws : List Int} (hP : rxPBSW S0 ws) : rx_obK X S0 rxCBSW.2.2.1 rxCST.2.2.1 (rxIBSW S0 ws) (rxmBSW S0 ws) 3 4 rxzBSW_3 rxzBSW_4 [.inr (3, (0, 480)), .inr (0, (11, 0))] none rxPST rxPSST := by
  intro S r hinv hXS I0 hin hs_ hf_
  have b_ := bx_bds_sat hs_
  have f_ := bx_fcl_ok hs_.1 hf_
  obtain ⟨⟨l8, u8⟩, ⟨l9, u9⟩, ⟨l10, u10⟩, ⟨l11, u11⟩, -⟩ := b_
  have g := rxkBSW_3 hP hin I0 hinv l8 u8 l9 u9 l10 u10 l11 u11
  have ea : List.map (bx_num r) [.inr (3, (0, 480)), .inr (0, (11, 0))] = [480, (r 11)] := by
    simp only [List.map_cons, List.map_nil, bx_xv_ok hs_.1]
    rfl
  rw [ea]
  refine ⟨g.1, fun S_p w r_p hPS hX_p I1 hsm hr hw hs_p => ?_⟩
  have hw : w = none := hPS.1
  subst hw
  have g2 := g.2 S_p hPS I1 hsm
  show rxIBSW_4 S0 ws S_p (r_p 8) (r_p 9) (r_p 10) (r_p 11) ∧ rxmBSW_4 S0 ws S_p (r_p 8) (r_p 9) (r_p 10) (r_p 11) < _
  rw [hr 8 (by decide), hr 9 (by decide), hr 10 (by decide), hr 11 (by decide)]
  exact g2
theorem rxkBSW_5 {S0 : Nat → Int → Int} {ws : List Int} {S : Nat → Int → Int} {test op op2 : Int} (hP : rxPBSW S0 ws) (hin : bx_same rxL (bx_mdl rxCBSW.2.2.1) S0 S) (I0 : bx_Inv rxL S) (hinv : rxIBSW_5 S0 ws S test op op2) (l8 : 0 ≤ test) (u8 : test ≤ 1) (l9 : 20 ≤ op) (u9 : op ≤ 24) (l10 : 20 ≤ op2) (u10 : op2 ≤ 24) : rxPPU S [480, op2, 0] ∧ ∀ (S_p : Nat → Int → Int), rxPSPU S [480, op2, 0] S_p none → bx_Inv rxL S_p → bx_same rxL (bx_mdl rxCPU.2.2.1) S S_p → rxIBSW_6 S0 ws S_p test op op2 ∧ rxmBSW_6 S0 ws S_p test op op2 < rxmBSW_5 S0 ws S test op op2 := by
  obtain ⟨hI, hx⟩ := hinv
  have g_ := rxkBS_5 hP hin I0 hI l8 u8 l9 u9 l10 u10
  exact ⟨g_.1, fun S_p hq I1 hsm => ⟨⟨(g_.2 S_p hq I1 hsm).1, (by
    obtain ⟨h14, k0, t0, sd, hs⟩ := hx
    obtain ⟨-, o2, a2, hw3, e3⟩ := hq
    have he : op2 = o2 := Option.some.inj (congrArg (fun l : List Int => l[1]?) hw3)
    have pp := rzPl_pu (S := S) (o := o2) (a := a2)
    rw [← e3] at pp
    obtain ⟨p1, p2, p3, p4⟩ := pp.1
    exact ⟨pp.2.2.trans h14, k0.tr (rzKr_of hsm (by decide +kernel)), ⟨(hsm 480 9 (by decide) (by decide) (by decide +kernel)).trans t0.1, (hsm 480 10 (by decide) (by decide) (by decide +kernel)).trans t0.2.1, (hsm 480 11 (by decide) (by decide) (by decide +kernel)).trans t0.2.2.1, (hsm 480 12 (by decide) (by decide) (by decide +kernel)).trans t0.2.2.2⟩, ⟨S 480 24, rzSd_c sd (by omega) (by omega) p4, by omega, by rw [pp.2.1]; omega⟩, hs⟩)⟩, (g_.2 S_p hq I1 hsm).2⟩⟩
theorem rxsBSW_5 {X : (Nat → Int → Int) → Prop} {S0 : Nat → Int → Int} {ws : List Int} (hP : rxPBSW S0 ws) : rx_obK X S0 rxCBSW.2.2.1 rxCPU.2.2.1 (rxIBSW S0 ws) (rxmBSW S0 ws) 5 6 rxzBSW_5 rxzBSW_6 [.inr (3, (0, 480)), .inr (0, (10, 0)), .inr (0, (0, 0))] none rxPPU rxPSPU := by
  intro S r hinv hXS I0 hin hs_ hf_
  have b_ := bx_bds_sat hs_
  have f_ := bx_fcl_ok hs_.1 hf_
  obtain ⟨⟨l8, u8⟩, ⟨l9, u9⟩, ⟨l10, u10⟩, -⟩ := b_
  have g := rxkBSW_5 hP hin I0 hinv l8 u8 l9 u9 l10 u10
  have ea : List.map (bx_num r) [.inr (3, (0, 480)), .inr (0, (10, 0)), .inr (0, (0, 0))] = [480, (r 10), 0] := by
    simp only [List.map_cons, List.map_nil, bx_xv_ok hs_.1]
    rfl
  rw [ea]
  refine ⟨g.1, fun S_p w r_p hPS hX_p I1 hsm hr hw hs_p => ?_⟩
  have hw : w = none := hPS.1
  subst hw
  have g2 := g.2 S_p hPS I1 hsm
  show rxIBSW_6 S0 ws S_p (r_p 8) (r_p 9) (r_p 10) ∧ rxmBSW_6 S0 ws S_p (r_p 8) (r_p 9) (r_p 10) < _
  rw [hr 8 (by decide), hr 9 (by decide), hr 10 (by decide)]
  exact g2
theorem rxkBSW_7 {S0 : Nat → Int → Int} {ws : List Int} {S : Nat → Int → Int} {test op : Int} (hP : rxPBSW S0 ws) (hin : bx_same rxL (bx_mdl rxCBSW.2.2.1) S0 S) (I0 : bx_Inv rxL S) (hinv : rxIBSW_7 S0 ws S test op) (l8 : 0 ≤ test) (u8 : test ≤ 1) (l9 : 20 ≤ op) (u9 : op ≤ 24) : rxPNXX S [480] ∧ ∀ (S_p : Nat → Int → Int), rxPSNXX S [480] S_p none → bx_Inv rxL S_p → bx_same rxL (bx_mdl rxCNXX.2.2.1) S S_p → rxIBSW_8 S0 ws S_p test op ∧ rxmBSW_8 S0 ws S_p test op < rxmBSW_7 S0 ws S test op := by
  obtain ⟨hI, hx⟩ := hinv
  have g_ := rxkBS_7 hP hin I0 hI l8 u8 l9 u9
  exact ⟨g_.1, fun S_p hq I1 hsm => ⟨⟨(g_.2 S_p hq.2.1 I1 hsm).1, (fun c hD tst s rest hw r hc => by
    obtain ⟨h14, k0, t0, ⟨m, sd, e24, hm⟩, hs⟩ := hx
    have z14 : S_p 480 14 = 0 := (show S_p 480 14 = S 480 14 from hsm 480 14 (by decide) (by decide) (by decide +kernel)).trans h14
    have nw := rzNw_b k0 t0 (rzNw_nx (rzDq_c hD k0 t0) (rzKr_of hsm (by decide +kernel)) hq.2.2.1 hq.2.2.2)
    have b := rxBox24 I0
    have d0 := sd.1
    have r24 : S_p 480 24 = S 480 24 := hsm 480 24 (by decide) (by decide) (by decide +kernel)
    have rm := rz_fd hsm (p := 489) (n := 400) (c := 1070) (k := 0) (by decide +kernel) (by decide) (by decide +kernel) m d0 (by omega)
    exact Or.inl (rzTn_sum hP.1.2.1.2.2.2 (hs hD) r (by omega) z14 nw (rzSd_c sd (hsm 480 25 (by decide) (by decide) (by decide +kernel)) (hsm 480 21 (by decide) (by decide) (by decide +kernel)) fun j a b => rz_fd hsm (p := 489) (n := 400) (c := 1070) (k := 0) (by decide +kernel) (by decide) (by decide +kernel) j a (by omega)) (by omega) (by omega) hc))⟩, (g_.2 S_p hq.2.1 I1 hsm).2⟩⟩
theorem rxsBSW_7 {X : (Nat → Int → Int) → Prop} {S0 : Nat → Int → Int} {ws : List Int} (hP : rxPBSW S0 ws) : rx_obK X S0 rxCBSW.2.2.1 rxCNXX.2.2.1 (rxIBSW S0 ws) (rxmBSW S0 ws) 7 8 rxzBSW_7 rxzBSW_8 [.inr (3, (0, 480))] none rxPNXX rxPSNXX := by
  intro S r hinv hXS I0 hin hs_ hf_
  have b_ := bx_bds_sat hs_
  have f_ := bx_fcl_ok hs_.1 hf_
  obtain ⟨⟨l8, u8⟩, ⟨l9, u9⟩, -⟩ := b_
  have g := rxkBSW_7 hP hin I0 hinv l8 u8 l9 u9
  have ea : List.map (bx_num r) [.inr (3, (0, 480))] = [480] := by
    simp only [List.map_cons, List.map_nil, bx_xv_ok hs_.1]
    rfl
  rw [ea]
  refine ⟨g.1, fun S_p w r_p hPS hX_p I1 hsm hr hw hs_p => ?_⟩
  have hw : w = none := hPS.1
  subst hw
  have g2 := g.2 S_p hPS I1 hsm
  show rxIBSW_8 S0 ws S_p (r_p 8) (r_p 9) ∧ rxmBSW_8 S0 ws S_p (r_p 8) (r_p 9) < _
  rw [hr 8 (by decide), hr 9 (by decide)]
  exact g2
theorem rxkBSW_9 {S0 : Nat → Int → Int} {ws : List Int} {S : Nat → Int → Int} {test : Int} (hP : rxPBSW S0 ws) (hin : bx_same rxL (bx_mdl rxCBSW.2.2.1) S0 S) (I0 : bx_Inv rxL S) (hinv : rxIBSW_9 S0 ws S test) (l8 : 0 ≤ test) (u8 : test ≤ 1) : rxPIN S [480] ∧ ∀ (S_p : Nat → Int → Int) (its : Int), (-1) ≤ its → its ≤ 32 → rxPSIN S [480] S_p (some its) → bx_Inv rxL S_p → bx_same rxL (bx_mdl rxCIN.2.2.1) S S_p → rxIBSW_10 S0 ws S_p test its ∧ rxmBSW_10 S0 ws S_p test its < rxmBSW_9 S0 ws S test := by
  obtain ⟨hI, hx⟩ := hinv
  have g_ := rxkBS_9 hP hin I0 hI l8 u8
  exact ⟨g_.1, fun S_p its l_ u_ hq I1 hsm => ⟨⟨(g_.2 S_p its l_ u_ hq I1 hsm).1, (by
    obtain ⟨e2, -⟩ := hq
    subst e2
    exact hx)⟩, (g_.2 S_p its l_ u_ hq I1 hsm).2⟩⟩
theorem rxsBSW_9 {X : (Nat → Int → Int) → Prop} {S0 : Nat → Int → Int} {ws : List Int} (hP : rxPBSW S0 ws) : rx_obK X S0 rxCBSW.2.2.1 rxCIN.2.2.1 (rxIBSW S0 ws) (rxmBSW S0 ws) 9 10 rxzBSW_9 rxzBSW_10 [.inr (3, (0, 480))] (some 9) rxPIN rxPSIN := by
  intro S r hinv hXS I0 hin hs_ hf_
  have b_ := bx_bds_sat hs_
  have f_ := bx_fcl_ok hs_.1 hf_
  obtain ⟨⟨l8, u8⟩, -⟩ := b_
  have g := rxkBSW_9 hP hin I0 hinv l8 u8
  have ea : List.map (bx_num r) [.inr (3, (0, 480))] = [480] := by
    simp only [List.map_cons, List.map_nil, bx_xv_ok hs_.1]
    rfl
  rw [ea]
  refine ⟨g.1, fun S_p w r_p hPS hX_p I1 hsm hr hw hs_p => ?_⟩
  have hw := hw _ rfl
  subst hw
  have b_p := hs_p.2.2 9 _ _ rfl
  have g2 := g.2 S_p (r_p 9) b_p.1 b_p.2 hPS I1 hsm
  show rxIBSW_10 S0 ws S_p (r_p 8) (r_p 9) ∧ rxmBSW_10 S0 ws S_p (r_p 8) (r_p 9) < _
  rw [hr 8 (by decide)]
  exact g2
theorem rxkBSW_11 {S0 : Nat → Int → Int} {ws : List Int} {S : Nat → Int → Int} {test : Int} (hP : rxPBSW S0 ws) (hin : bx_same rxL (bx_mdl rxCBSW.2.2.1) S0 S) (I0 : bx_Inv rxL S) (hinv : rxIBSW_11 S0 ws S test) (l8 : 0 ≤ test) (u8 : test ≤ 1) : rxPISW S [480, 93] ∧ ∀ (S_p : Nat → Int → Int) (is : Int), 0 ≤ is → is ≤ 1 → rxPSISW S [480, 93] S_p (some is) → bx_Inv rxL S_p → bx_same rxL (bx_mdl rxCISW.2.2.1) S S_p → rxIBSW_12 S0 ws S_p test is ∧ rxmBSW_12 S0 ws S_p test is < rxmBSW_11 S0 ws S test := by
  obtain ⟨hI, hx⟩ := hinv
  have g_ := rxkBS_11 hP hin I0 hI l8 u8
  exact ⟨g_.1, fun S_p is l_ u_ hq I1 hsm => ⟨⟨(g_.2 S_p is l_ u_ hq.1 I1 hsm).1, (fun hD => by
    have e := hI.1
    subst e
    obtain ⟨e2, -⟩ := hq.1
    subst e2
    obtain ⟨x, hw2, hc⟩ := hq.2
    have e3 : (93 : Int) = x := Option.some.inj (congrArg (fun l : List Int => l[1]?) hw2)
    subst e3
    refine ⟨hx hD, ?_⟩
    rcases hc with ⟨c1, c2⟩ | ⟨c1, c2⟩
    · exact Or.inl ⟨Option.some.inj c1, (rzDq_sg hD (by decide) (by decide)).mp c2⟩
    · exact Or.inr ⟨Option.some.inj c1, rzDq_ns hD (by decide) (by decide) c2⟩)⟩, (g_.2 S_p is l_ u_ hq.1 I1 hsm).2⟩⟩
theorem rxsBSW_11 {X : (Nat → Int → Int) → Prop} {S0 : Nat → Int → Int} {ws : List Int} (hP : rxPBSW S0 ws) : rx_obK X S0 rxCBSW.2.2.1 rxCISW.2.2.1 (rxIBSW S0 ws) (rxmBSW S0 ws) 11 12 rxzBSW_11 rxzBSW_12 [.inr (3, (0, 480)), .inr (0, (0, 93))] (some 9) rxPISW rxPSISW := by
  intro S r hinv hXS I0 hin hs_ hf_
  have b_ := bx_bds_sat hs_
  have f_ := bx_fcl_ok hs_.1 hf_
  obtain ⟨⟨l8, u8⟩, -⟩ := b_
  have g := rxkBSW_11 hP hin I0 hinv l8 u8
  have ea : List.map (bx_num r) [.inr (3, (0, 480)), .inr (0, (0, 93))] = [480, 93] := by
    simp only [List.map_cons, List.map_nil, bx_xv_ok hs_.1]
    rfl
  rw [ea]
  refine ⟨g.1, fun S_p w r_p hPS hX_p I1 hsm hr hw hs_p => ?_⟩
  have hw := hw _ rfl
  subst hw
  have b_p := hs_p.2.2 9 _ _ rfl
  have g2 := g.2 S_p (r_p 9) b_p.1 b_p.2 hPS I1 hsm
  show rxIBSW_12 S0 ws S_p (r_p 8) (r_p 9) ∧ rxmBSW_12 S0 ws S_p (r_p 8) (r_p 9) < _
  rw [hr 8 (by decide)]
  exact g2
theorem rxkBSW_12 {S0 : Nat → Int → Int} {ws : List Int} {S : Nat → Int → Int} {test is : Int} (hP : rxPBSW S0 ws) (hin : bx_same rxL (bx_mdl rxCBSW.2.2.1) S0 S) (I0 : bx_Inv rxL S) (hinv : rxIBSW_12 S0 ws S test is) (l8 : 0 ≤ test) (u8 : test ≤ 1) (l9 : 0 ≤ is) (u9 : is ≤ 1) : rxPMUW S [480, is] ∧ ∀ (S_p : Nat → Int → Int), rxPSMUW S [480, is] S_p none → bx_Inv rxL S_p → bx_same rxL (bx_mdl rxCMUW.2.2.1) S S_p → rxIBSW_13 S0 ws S_p test is ∧ rxmBSW_13 S0 ws S_p test is < rxmBSW_12 S0 ws S test is := by
  obtain ⟨hI, hx⟩ := hinv
  have g_ := rxkBS_12 hP hin I0 hI l8 u8 l9 u9
  exact ⟨g_.1, fun S_p hq I1 hsm => ⟨⟨(g_.2 S_p hq.2.1 I1 hsm).1, (by
    have e := hI.1
    have hb := hI.2.1
    subst e
    refine ⟨Or.inr ⟨by decide, hb⟩, fun hD => ?_⟩
    obtain ⟨-, -, is2, hw2, hc⟩ := hq.2.1
    have he : is = is2 := Option.some.inj (congrArg (fun l : List Int => l[1]?) hw2)
    have p14 := hP.2.1
    have g := hq.2.2.1 p14 hD
    have y := hx hD
    refine ⟨y.1, fun z => ⟨?_, g.1 z, rzPl_of hsm (rxBox24 I0).2 (by decide +kernel)⟩, fun z => ⟨?_, g.2 z⟩⟩
    · rcases y.2 with v | v
      · exact v.2
      · omega
    · rcases y.2 with v | v
      · omega
      · exact v.2)⟩, (g_.2 S_p hq.2.1 I1 hsm).2⟩⟩
theorem rxsBSW_12 {X : (Nat → Int → Int) → Prop} {S0 : Nat → Int → Int} {ws : List Int} (hP : rxPBSW S0 ws) : rx_obK X S0 rxCBSW.2.2.1 rxCMUW.2.2.1 (rxIBSW S0 ws) (rxmBSW S0 ws) 12 13 rxzBSW_12 rxzBSW_13 [.inr (3, (0, 480)), .inr (0, (9, 0))] none rxPMUW rxPSMUW := by
  intro S r hinv hXS I0 hin hs_ hf_
  have b_ := bx_bds_sat hs_
  have f_ := bx_fcl_ok hs_.1 hf_
  obtain ⟨⟨l8, u8⟩, ⟨l9, u9⟩, -⟩ := b_
  have g := rxkBSW_12 hP hin I0 hinv l8 u8 l9 u9
  have ea : List.map (bx_num r) [.inr (3, (0, 480)), .inr (0, (9, 0))] = [480, (r 9)] := by
    simp only [List.map_cons, List.map_nil, bx_xv_ok hs_.1]
    rfl
  rw [ea]
  refine ⟨g.1, fun S_p w r_p hPS hX_p I1 hsm hr hw hs_p => ?_⟩
  have hw : w = none := hPS.1
  subst hw
  have g2 := g.2 S_p hPS I1 hsm
  show rxIBSW_13 S0 ws S_p (r_p 8) (r_p 9) ∧ rxmBSW_13 S0 ws S_p (r_p 8) (r_p 9) < _
  rw [hr 8 (by decide), hr 9 (by decide)]
  exact g2
theorem rxkBSW_14 {S0 : Nat → Int → Int} {ws : List Int} {S : Nat → Int → Int} {test : Int} (hP : rxPBSW S0 ws) (hin : bx_same rxL (bx_mdl rxCBSW.2.2.1) S0 S) (I0 : bx_Inv rxL S) (hinv : rxIBSW_14 S0 ws S test) (l8 : 0 ≤ test) (u8 : test ≤ 1) : rxPST S [480, 5] ∧ ∀ (S_p : Nat → Int → Int), rxPSST S [480, 5] S_p none → bx_Inv rxL S_p → bx_same rxL (bx_mdl rxCST.2.2.1) S S_p → rxIBSW_15 S0 ws S_p test ∧ rxmBSW_15 S0 ws S_p test < rxmBSW_14 S0 ws S test := by
  obtain ⟨hI, hx⟩ := hinv
  have g_ := rxkBS_14 hP hin I0 hI l8 u8
  exact ⟨g_.1, fun S_p hq I1 hsm => ⟨⟨(g_.2 S_p hq I1 hsm).1, (by
    have z14 := hI.2.2.1
    refine ⟨hx.1, (show S_p 480 14 = S 480 14 from hsm 480 14 (by decide) (by decide) (by decide +kernel)).trans z14, fun hD => ?_⟩
    have g := hx.2 hD
    obtain ⟨-, l2, hw2, hs2, -⟩ := hq
    have e2 : (5 : Int) = l2 := Option.some.inj (congrArg (fun l : List Int => l[1]?) hw2)
    subst e2
    exact ⟨g.1, rzNw_c g.2.1 (rzKr_of hsm (by decide +kernel)) (rzTs_of hsm (by decide +kernel)), rzSd_st g.2.2 hs2 (hsm 480 21 (by decide) (by decide) (by decide +kernel))⟩)⟩, (g_.2 S_p hq I1 hsm).2⟩⟩
theorem rxsBSW_14 {X : (Nat → Int → Int) → Prop} {S0 : Nat → Int → Int} {ws : List Int} (hP : rxPBSW S0 ws) : rx_obK X S0 rxCBSW.2.2.1 rxCST.2.2.1 (rxIBSW S0 ws) (rxmBSW S0 ws) 14 15 rxzBSW_14 rxzBSW_15 [.inr (3, (0, 480)), .inr (0, (0, 5))] none rxPST rxPSST := by
  intro S r hinv hXS I0 hin hs_ hf_
  have b_ := bx_bds_sat hs_
  have f_ := bx_fcl_ok hs_.1 hf_
  obtain ⟨⟨l8, u8⟩, -⟩ := b_
  have g := rxkBSW_14 hP hin I0 hinv l8 u8
  have ea : List.map (bx_num r) [.inr (3, (0, 480)), .inr (0, (0, 5))] = [480, 5] := by
    simp only [List.map_cons, List.map_nil, bx_xv_ok hs_.1]
    rfl
  rw [ea]
  refine ⟨g.1, fun S_p w r_p hPS hX_p I1 hsm hr hw hs_p => ?_⟩
  have hw : w = none := hPS.1
  subst hw
  have g2 := g.2 S_p hPS I1 hsm
  show rxIBSW_15 S0 ws S_p (r_p 8) ∧ rxmBSW_15 S0 ws S_p (r_p 8) < _
  rw [hr 8 (by decide)]
  exact g2
theorem rxkBSW_18 {S0 : Nat → Int → Int} {ws : List Int} {S : Nat → Int → Int} {test : Int} (hP : rxPBSW S0 ws) (hin : bx_same rxL (bx_mdl rxCBSW.2.2.1) S0 S) (I0 : bx_Inv rxL S) (hinv : rxIBSW_18 S0 ws S test) (l8 : 0 ≤ test) (u8 : test ≤ 1) : rxPICW S [480] ∧ ∀ (S_p : Nat → Int → Int) (cmp : Int), 0 ≤ cmp → cmp ≤ 1 → rxPSICW S [480] S_p (some cmp) → bx_Inv rxL S_p → bx_same rxL (bx_mdl rxCICW.2.2.1) S S_p → rxIBSW_19 S0 ws S_p test cmp ∧ rxmBSW_19 S0 ws S_p test cmp < rxmBSW_18 S0 ws S test := by
  obtain ⟨hI, hx⟩ := hinv
  have g_ := rxkBS_18 hP hin I0 hI l8 u8
  exact ⟨g_.1, fun S_p cmp l_ u_ hq I1 hsm => ⟨⟨(g_.2 S_p cmp l_ u_ hq.1 I1 hsm).1, (by
    have e := hI.1
    subst e
    have e2 : S_p = S := hq.1
    subst e2
    refine ⟨hx, ?_⟩
    rcases hq.2 with ⟨c1, c2⟩ | ⟨c1, c2⟩
    · exact Or.inl ⟨Option.some.inj c1, c2⟩
    · exact Or.inr ⟨Option.some.inj c1, c2⟩)⟩, (g_.2 S_p cmp l_ u_ hq.1 I1 hsm).2⟩⟩
theorem rxsBSW_18 {X : (Nat → Int → Int) → Prop} {S0 : Nat → Int → Int} {ws : List Int} (hP : rxPBSW S0 ws) : rx_obK X S0 rxCBSW.2.2.1 rxCICW.2.2.1 (rxIBSW S0 ws) (rxmBSW S0 ws) 18 19 rxzBSW_18 rxzBSW_19 [.inr (3, (0, 480))] (some 9) rxPICW rxPSICW := by
  intro S r hinv hXS I0 hin hs_ hf_
  have b_ := bx_bds_sat hs_
  have f_ := bx_fcl_ok hs_.1 hf_
  obtain ⟨⟨l8, u8⟩, -⟩ := b_
  have g := rxkBSW_18 hP hin I0 hinv l8 u8
  have ea : List.map (bx_num r) [.inr (3, (0, 480))] = [480] := by
    simp only [List.map_cons, List.map_nil, bx_xv_ok hs_.1]
    rfl
  rw [ea]
  refine ⟨g.1, fun S_p w r_p hPS hX_p I1 hsm hr hw hs_p => ?_⟩
  have hw := hw _ rfl
  subst hw
  have b_p := hs_p.2.2 9 _ _ rfl
  have g2 := g.2 S_p (r_p 9) b_p.1 b_p.2 hPS I1 hsm
  show rxIBSW_19 S0 ws S_p (r_p 8) (r_p 9) ∧ rxmBSW_19 S0 ws S_p (r_p 8) (r_p 9) < _
  rw [hr 8 (by decide)]
  exact g2
theorem rxkBSW_20 {S0 : Nat → Int → Int} {ws : List Int} {S : Nat → Int → Int} {test op is : Int} (hP : rxPBSW S0 ws) (hin : bx_same rxL (bx_mdl rxCBSW.2.2.1) S0 S) (I0 : bx_Inv rxL S) (hinv : rxIBSW_20 S0 ws S test op is) (l8 : 0 ≤ test) (u8 : test ≤ 1) (l9 : 25 ≤ op) (u9 : op ≤ 27) (l10 : 0 ≤ is) (u10 : is ≤ 1) : rxPMUW S [480, is] ∧ ∀ (S_p : Nat → Int → Int), rxPSMUW S [480, is] S_p none → bx_Inv rxL S_p → bx_same rxL (bx_mdl rxCMUW.2.2.1) S S_p → rxIBSW_21 S0 ws S_p test op is ∧ rxmBSW_21 S0 ws S_p test op is < rxmBSW_20 S0 ws S test op is := by
  obtain ⟨hI, hx⟩ := hinv
  have g_ := rxkBS_20 hP hin I0 hI l8 u8 l9 u9 l10 u10
  exact ⟨g_.1, fun S_p hq I1 hsm => ⟨⟨(g_.2 S_p hq.2.1 I1 hsm).1, (by
    have e := hI.1
    subst e
    refine ⟨hx.1, hx.2.1, fun hD => ?_⟩
    obtain ⟨-, -, is2, hw2, hc⟩ := hq.2.1
    have he : is = is2 := Option.some.inj (congrArg (fun l : List Int => l[1]?) hw2)
    have p14 := hP.2.1
    have g := hq.2.2.1 p14 hD
    have y := hx.2.2 hD
    refine ⟨fun z => ⟨?_, g.1 z, rzPl_of hsm (rxBox24 I0).2 (by decide +kernel)⟩, fun z => ⟨?_, g.2 z⟩⟩
    · rcases y with v | v
      · exact v.2
      · omega
    · rcases y with v | v
      · omega
      · exact v.2)⟩, (g_.2 S_p hq.2.1 I1 hsm).2⟩⟩
theorem rxsBSW_20 {X : (Nat → Int → Int) → Prop} {S0 : Nat → Int → Int} {ws : List Int} (hP : rxPBSW S0 ws) : rx_obK X S0 rxCBSW.2.2.1 rxCMUW.2.2.1 (rxIBSW S0 ws) (rxmBSW S0 ws) 20 21 rxzBSW_20 rxzBSW_21 [.inr (3, (0, 480)), .inr (0, (10, 0))] none rxPMUW rxPSMUW := by
  intro S r hinv hXS I0 hin hs_ hf_
  have b_ := bx_bds_sat hs_
  have f_ := bx_fcl_ok hs_.1 hf_
  obtain ⟨⟨l8, u8⟩, ⟨l9, u9⟩, ⟨l10, u10⟩, -⟩ := b_
  have g := rxkBSW_20 hP hin I0 hinv l8 u8 l9 u9 l10 u10
  have ea : List.map (bx_num r) [.inr (3, (0, 480)), .inr (0, (10, 0))] = [480, (r 10)] := by
    simp only [List.map_cons, List.map_nil, bx_xv_ok hs_.1]
    rfl
  rw [ea]
  refine ⟨g.1, fun S_p w r_p hPS hX_p I1 hsm hr hw hs_p => ?_⟩
  have hw : w = none := hPS.1
  subst hw
  have g2 := g.2 S_p hPS I1 hsm
  show rxIBSW_21 S0 ws S_p (r_p 8) (r_p 9) (r_p 10) ∧ rxmBSW_21 S0 ws S_p (r_p 8) (r_p 9) (r_p 10) < _
  rw [hr 8 (by decide), hr 9 (by decide), hr 10 (by decide)]
  exact g2
theorem rxkBSW_22 {S0 : Nat → Int → Int} {ws : List Int} {S : Nat → Int → Int} {test op : Int} (hP : rxPBSW S0 ws) (hin : bx_same rxL (bx_mdl rxCBSW.2.2.1) S0 S) (I0 : bx_Inv rxL S) (hinv : rxIBSW_22 S0 ws S test op) (l8 : 0 ≤ test) (u8 : test ≤ 1) (l9 : 25 ≤ op) (u9 : op ≤ 27) : rxPST S [480, 5] ∧ ∀ (S_p : Nat → Int → Int), rxPSST S [480, 5] S_p none → bx_Inv rxL S_p → bx_same rxL (bx_mdl rxCST.2.2.1) S S_p → rxIBSW_23 S0 ws S_p test op ∧ rxmBSW_23 S0 ws S_p test op < rxmBSW_22 S0 ws S test op := by
  obtain ⟨hI, hx⟩ := hinv
  have g_ := rxkBS_22 hP hin I0 hI l8 u8 l9 u9
  exact ⟨g_.1, fun S_p hq I1 hsm => ⟨⟨(g_.2 S_p hq I1 hsm).1, (by
    have z14 := hI.2.2.1
    refine ⟨hx.1, hx.2.1, (show S_p 480 14 = S 480 14 from hsm 480 14 (by decide) (by decide) (by decide +kernel)).trans z14, fun hD => ?_⟩
    have g := hx.2.2 hD
    obtain ⟨-, l2, hw2, hs2, -⟩ := hq
    have e2 : (5 : Int) = l2 := Option.some.inj (congrArg (fun l : List Int => l[1]?) hw2)
    subst e2
    exact ⟨g.1, rzNw_c g.2.1 (rzKr_of hsm (by decide +kernel)) (rzTs_of hsm (by decide +kernel)), rzSd_st g.2.2 hs2 (hsm 480 21 (by decide) (by decide) (by decide +kernel))⟩)⟩, (g_.2 S_p hq I1 hsm).2⟩⟩
theorem rxsBSW_22 {X : (Nat → Int → Int) → Prop} {S0 : Nat → Int → Int} {ws : List Int} (hP : rxPBSW S0 ws) : rx_obK X S0 rxCBSW.2.2.1 rxCST.2.2.1 (rxIBSW S0 ws) (rxmBSW S0 ws) 22 23 rxzBSW_22 rxzBSW_23 [.inr (3, (0, 480)), .inr (0, (0, 5))] none rxPST rxPSST := by
  intro S r hinv hXS I0 hin hs_ hf_
  have b_ := bx_bds_sat hs_
  have f_ := bx_fcl_ok hs_.1 hf_
  obtain ⟨⟨l8, u8⟩, ⟨l9, u9⟩, -⟩ := b_
  have g := rxkBSW_22 hP hin I0 hinv l8 u8 l9 u9
  have ea : List.map (bx_num r) [.inr (3, (0, 480)), .inr (0, (0, 5))] = [480, 5] := by
    simp only [List.map_cons, List.map_nil, bx_xv_ok hs_.1]
    rfl
  rw [ea]
  refine ⟨g.1, fun S_p w r_p hPS hX_p I1 hsm hr hw hs_p => ?_⟩
  have hw : w = none := hPS.1
  subst hw
  have g2 := g.2 S_p hPS I1 hsm
  show rxIBSW_23 S0 ws S_p (r_p 8) (r_p 9) ∧ rxmBSW_23 S0 ws S_p (r_p 8) (r_p 9) < _
  rw [hr 8 (by decide), hr 9 (by decide)]
  exact g2
theorem rxkBSW_24 {S0 : Nat → Int → Int} {ws : List Int} {S : Nat → Int → Int} {test op op2 : Int} (hP : rxPBSW S0 ws) (hin : bx_same rxL (bx_mdl rxCBSW.2.2.1) S0 S) (I0 : bx_Inv rxL S) (hinv : rxIBSW_24 S0 ws S test op op2) (l8 : 0 ≤ test) (u8 : test ≤ 1) (l9 : 25 ≤ op) (u9 : op ≤ 27) (l10 : 25 ≤ op2) (u10 : op2 ≤ 27) : rxPPU S [480, op2, 0] ∧ ∀ (S_p : Nat → Int → Int), rxPSPU S [480, op2, 0] S_p none → bx_Inv rxL S_p → bx_same rxL (bx_mdl rxCPU.2.2.1) S S_p → rxIBSW_25 S0 ws S_p test op op2 ∧ rxmBSW_25 S0 ws S_p test op op2 < rxmBSW_24 S0 ws S test op op2 := by
  obtain ⟨hI, hx⟩ := hinv
  have g_ := rxkBS_24 hP hin I0 hI l8 u8 l9 u9 l10 u10
  exact ⟨g_.1, fun S_p hq I1 hsm => ⟨⟨(g_.2 S_p hq I1 hsm).1, (fun c hD tst s rest hw r hc => by
    obtain ⟨⟨hw1, ns, its, hi, i1, i2⟩, hcm, h14, hh⟩ := hx
    have g := hh hD
    have ht : test = tst := Option.some.inj (congrArg (fun l : List Int => l[1]?) (hw1.symm.trans hw))
    obtain ⟨-, o2, a2, hw3, e3⟩ := hq
    have he : op2 = o2 := Option.some.inj (congrArg (fun l : List Int => l[1]?) hw3)
    have pp := rzPl_pu (S := S) (o := o2) (a := a2)
    rw [← e3] at pp
    obtain ⟨p1, p2, p3, p4⟩ := pp.1
    have q := rzBr_in r.2.2 r.1 hi
    have hs : s = 2 := by
      by_cases h3 : s = 3
      · exact absurd ((rzBr_cm r.2.2 r.1 (Or.inr h3)).mpr h3) hcm
      · omega
    subst hs
    exact Or.inl (rzTn_cmp hP.1.2.1.2.2.2 (ns hD) g.1 r (pp.2.2.trans h14) (rzNw_c g.2.1 (rzKr_of hsm (by decide +kernel)) (rzTs_of hsm (by decide +kernel))) (rzSd_c g.2.2 (by omega) (by omega) p4) (by omega) (by rw [pp.2.1]; omega)))⟩, (g_.2 S_p hq I1 hsm).2⟩⟩
theorem rxsBSW_24 {X : (Nat → Int → Int) → Prop} {S0 : Nat → Int → Int} {ws : List Int} (hP : rxPBSW S0 ws) : rx_obK X S0 rxCBSW.2.2.1 rxCPU.2.2.1 (rxIBSW S0 ws) (rxmBSW S0 ws) 24 25 rxzBSW_24 rxzBSW_25 [.inr (3, (0, 480)), .inr (0, (10, 0)), .inr (0, (0, 0))] none rxPPU rxPSPU := by
  intro S r hinv hXS I0 hin hs_ hf_
  have b_ := bx_bds_sat hs_
  have f_ := bx_fcl_ok hs_.1 hf_
  obtain ⟨⟨l8, u8⟩, ⟨l9, u9⟩, ⟨l10, u10⟩, -⟩ := b_
  have g := rxkBSW_24 hP hin I0 hinv l8 u8 l9 u9 l10 u10
  have ea : List.map (bx_num r) [.inr (3, (0, 480)), .inr (0, (10, 0)), .inr (0, (0, 0))] = [480, (r 10), 0] := by
    simp only [List.map_cons, List.map_nil, bx_xv_ok hs_.1]
    rfl
  rw [ea]
  refine ⟨g.1, fun S_p w r_p hPS hX_p I1 hsm hr hw hs_p => ?_⟩
  have hw : w = none := hPS.1
  subst hw
  have g2 := g.2 S_p hPS I1 hsm
  show rxIBSW_25 S0 ws S_p (r_p 8) (r_p 9) (r_p 10) ∧ rxmBSW_25 S0 ws S_p (r_p 8) (r_p 9) (r_p 10) < _
  rw [hr 8 (by decide), hr 9 (by decide), hr 10 (by decide)]
  exact g2
theorem rxcBSW_0_0 {S0 : Nat → Int → Int} {ws : List Int} {S : Nat → Int → Int} {test x9 : Int} (hP : rxPBSW S0 ws) (hin : bx_same rxL (bx_mdl rxCBSW.2.2.1) S0 S) (I0 : bx_Inv rxL S) (hinv : rxIBSW_0 S0 ws S test) (l8 : 0 ≤ test) (u8 : test ≤ 1) (l9 : 0 ≤ x9) (u9 : x9 ≤ 2) (f0 : x9 ≠ 3) (f1 : x9 ≠ 3) (f2 : x9 ≠ 3) (f3 : x9 ≠ 3) (f4 : x9 ≠ 3) (e0 : S 480 11 = x9) : (True) ∧ (True) ∧ rxIBSW_1 S0 ws S test ((-1)) ∧ rxmBSW_1 S0 ws S test ((-1)) < rxmBSW_0 S0 ws S test := by
  obtain ⟨hI, hx⟩ := hinv
  obtain ⟨a_, b_, c_, d_⟩ := rxcBS_0_0 hP hin I0 hI l8 u8 l9 u9 f0 f1 f2 f3 f4 e0
  exact ⟨a_, b_, ⟨c_, (by
    have e := hI.1
    have hw := hI.2
    subst e
    exact ⟨hw, fun hD => Or.inl ⟨rfl, fun g => by
      have q := (rzSm_iff hD).mp g
      omega⟩⟩)⟩, d_⟩
theorem rxgBSW_0_0 {X : (Nat → Int → Int) → Prop} {S0 : Nat → Int → Int} {ws : List Int} (hP : rxPBSW S0 ws) : bx_obC rxL X S0 rxCBSW.2.2.1 (rxIBSW S0 ws) (rxmBSW S0 ws) 0 rxzBSW_0 rxoBSW_0_0 := by
  intro S S_p r r_p hinv hX hin hsm_ hseg
  obtain ⟨I0, I1, h0_, hr_, b_, f_, d_⟩ := bx_cl (evs := [(0, (0, 480), (0, 11), .inr (0, (9, 0)))]) (fvs := [(3, (9, 0), (0, 3), (0, 0)), (3, (9, 0), (0, 3), (0, 0)), (3, (9, 0), (0, 3), (0, 0)), (3, (9, 0), (0, 3), (0, 0)), (3, (9, 0), (0, 3), (0, 0))]) hseg (by decide +kernel) (by decide +kernel)
  have hinv : rxIBSW_0 S0 ws S (r 8) := hinv
  rw [← hr_ 8 (by decide)] at hinv
  obtain ⟨⟨l8, u8⟩, ⟨l9, u9⟩, -⟩ := b_
  obtain ⟨f0, f1, f2, f3, f4, -⟩ := f_
  obtain ⟨e0, w_⟩ := d_
  subst w_
  have g := rxcBSW_0_0 hP hin I0 hinv l8 u8 l9 u9 f0 f1 f2 f3 f4 e0
  refine ⟨bx_narP_ok (l := []) g.1, bx_nfP_ok h0_ (fvs := []) (by decide +kernel) g.2.1, ?_, ?_⟩
  · show rxIBSW_1 S0 ws S_p (bx_val [(0, 0), (0, 0), (0, 0), (0, 0), (0, 0), (0, 0), (0, 0), (0, 0), (8, 0), (0, (-1))] r_p 8) (bx_val [(0, 0), (0, 0), (0, 0), (0, 0), (0, 0), (0, 0), (0, 0), (0, 0), (8, 0), (0, (-1))] r_p 9)
    rw [bx_val_x (n := 8) (e := (8, 0)) h0_ rfl, bx_val_x (n := 9) (e := (0, (-1))) h0_ rfl]
    exact g.2.2.1
  · show rxmBSW_1 S0 ws S_p (bx_val [(0, 0), (0, 0), (0, 0), (0, 0), (0, 0), (0, 0), (0, 0), (0, 0), (8, 0), (0, (-1))] r_p 8) (bx_val [(0, 0), (0, 0), (0, 0), (0, 0), (0, 0), (0, 0), (0, 0), (0, 0), (8, 0), (0, (-1))] r_p 9) < rxmBSW_0 S0 ws S_p (r 8)
    rw [bx_val_x (n := 8) (e := (8, 0)) h0_ rfl, bx_val_x (n := 9) (e := (0, (-1))) h0_ rfl, ← hr_ 8 (by decide)]
    exact g.2.2.2
theorem rxcBSW_0_1 {S0 : Nat → Int → Int} {ws : List Int} {S : Nat → Int → Int} {test x9 x10 : Int} (hP : rxPBSW S0 ws) (hin : bx_same rxL (bx_mdl rxCBSW.2.2.1) S0 S) (I0 : bx_Inv rxL S) (hinv : rxIBSW_0 S0 ws S test) (l8 : 0 ≤ test) (u8 : test ≤ 1) (l9 : 3 ≤ x9) (u9 : x9 ≤ 3) (l10 : (-9223372036854775808) ≤ x10) (u10 : x10 ≤ 9223372036854775807) (f0 : x10 ≠ 37) (f1 : x10 ≠ 47) (f2 : x10 ≠ 42) (f3 : x10 ≠ 45) (f4 : x10 ≠ 43) (e1 : S 480 11 = x9) (e0 : S 480 12 = x10) : (True) ∧ (True) ∧ rxIBSW_1 S0 ws S test ((-1)) ∧ rxmBSW_1 S0 ws S test ((-1)) < rxmBSW_0 S0 ws S test := by
  obtain ⟨hI, hx⟩ := hinv
  obtain ⟨a_, b_, c_, d_⟩ := rxcBS_0_1 hP hin I0 hI l8 u8 l9 u9 l10 u10 f0 f1 f2 f3 f4 e1 e0
  exact ⟨a_, b_, ⟨c_, (by
    have e := hI.1
    have hw := hI.2
    subst e
    exact ⟨hw, fun hD => Or.inl ⟨rfl, fun g => by
      have q := (rzSm_iff hD).mp g
      omega⟩⟩)⟩, d_⟩
theorem rxgBSW_0_1 {X : (Nat → Int → Int) → Prop} {S0 : Nat → Int → Int} {ws : List Int} (hP : rxPBSW S0 ws) : bx_obC rxL X S0 rxCBSW.2.2.1 (rxIBSW S0 ws) (rxmBSW S0 ws) 0 rxzBSW_0 rxoBSW_0_1 := by
  intro S S_p r r_p hinv hX hin hsm_ hseg
  obtain ⟨I0, I1, h0_, hr_, b_, f_, d_⟩ := bx_cl (evs := [(0, (0, 480), (0, 12), .inr (1, (10, 0))), (0, (0, 480), (0, 11), .inr (0, (9, 0)))]) (fvs := [(3, (10, 0), (0, 37), (0, 0)), (3, (10, 0), (0, 47), (0, 0)), (3, (10, 0), (0, 42), (0, 0)), (3, (10, 0), (0, 45), (0, 0)), (3, (10, 0), (0, 43), (0, 0))]) hseg (by decide +kernel) (by decide +kernel)
  have hinv : rxIBSW_0 S0 ws S (r 8) := hinv
  rw [← hr_ 8 (by decide)] at hinv
  obtain ⟨⟨l8, u8⟩, ⟨l9, u9⟩, ⟨l10, u10⟩, -⟩ := b_
  obtain ⟨f0, f1, f2, f3, f4, -⟩ := f_
  obtain ⟨e0, ⟨e1, w_⟩⟩ := d_
  subst w_
  have g := rxcBSW_0_1 hP hin I0 hinv l8 u8 l9 u9 l10 u10 f0 f1 f2 f3 f4 e1 e0
  refine ⟨bx_narP_ok (l := []) g.1, bx_nfP_ok h0_ (fvs := []) (by decide +kernel) g.2.1, ?_, ?_⟩
  · show rxIBSW_1 S0 ws S_p (bx_val [(0, 0), (0, 0), (0, 0), (0, 0), (0, 0), (0, 0), (0, 0), (0, 0), (8, 0), (0, (-1))] r_p 8) (bx_val [(0, 0), (0, 0), (0, 0), (0, 0), (0, 0), (0, 0), (0, 0), (0, 0), (8, 0), (0, (-1))] r_p 9)
    rw [bx_val_x (n := 8) (e := (8, 0)) h0_ rfl, bx_val_x (n := 9) (e := (0, (-1))) h0_ rfl]
    exact g.2.2.1
  · show rxmBSW_1 S0 ws S_p (bx_val [(0, 0), (0, 0), (0, 0), (0, 0), (0, 0), (0, 0), (0, 0), (0, 0), (8, 0), (0, (-1))] r_p 8) (bx_val [(0, 0), (0, 0), (0, 0), (0, 0), (0, 0), (0, 0), (0, 0), (0, 0), (8, 0), (0, (-1))] r_p 9) < rxmBSW_0 S0 ws S_p (r 8)
    rw [bx_val_x (n := 8) (e := (8, 0)) h0_ rfl, bx_val_x (n := 9) (e := (0, (-1))) h0_ rfl, ← hr_ 8 (by decide)]
    exact g.2.2.2
theorem rxcBSW_0_2 {S0 : Nat → Int → Int} {ws : List Int} {S : Nat → Int → Int} {test x9 x10 : Int} (hP : rxPBSW S0 ws) (hin : bx_same rxL (bx_mdl rxCBSW.2.2.1) S0 S) (I0 : bx_Inv rxL S) (hinv : rxIBSW_0 S0 ws S test) (l8 : 0 ≤ test) (u8 : test ≤ 1) (l9 : 3 ≤ x9) (u9 : x9 ≤ 3) (l10 : 37 ≤ x10) (u10 : x10 ≤ 37) (f0 : x10 ≠ 47) (f1 : x10 ≠ 42) (f2 : x10 ≠ 45) (f3 : x10 ≠ 43) (e1 : S 480 11 = x9) (e0 : S 480 12 = x10) : (True) ∧ (True) ∧ rxIBSW_1 S0 ws S test 24 ∧ rxmBSW_1 S0 ws S test 24 < rxmBSW_0 S0 ws S test := by
  obtain ⟨hI, hx⟩ := hinv
  obtain ⟨a_, b_, c_, d_⟩ := rxcBS_0_2 hP hin I0 hI l8 u8 l9 u9 l10 u10 f0 f1 f2 f3 e1 e0
  exact ⟨a_, b_, ⟨c_, (by
    have e := hI.1
    have hw := hI.2
    subst e
    exact ⟨hw, fun hD => Or.inr ⟨by omega, (rzSm_iff hD).mpr ⟨by omega, by omega⟩⟩⟩)⟩, d_⟩
theorem rxgBSW_0_2 {X : (Nat → Int → Int) → Prop} {S0 : Nat → Int → Int} {ws : List Int} (hP : rxPBSW S0 ws) : bx_obC rxL X S0 rxCBSW.2.2.1 (rxIBSW S0 ws) (rxmBSW S0 ws) 0 rxzBSW_0 rxoBSW_0_2 := by
  intro S S_p r r_p hinv hX hin hsm_ hseg
  obtain ⟨I0, I1, h0_, hr_, b_, f_, d_⟩ := bx_cl (evs := [(0, (0, 480), (0, 12), .inr (1, (10, 0))), (0, (0, 480), (0, 11), .inr (0, (9, 0)))]) (fvs := [(3, (10, 0), (0, 47), (0, 0)), (3, (10, 0), (0, 42), (0, 0)), (3, (10, 0), (0, 45), (0, 0)), (3, (10, 0), (0, 43), (0, 0))]) hseg (by decide +kernel) (by decide +kernel)
  have hinv : rxIBSW_0 S0 ws S (r 8) := hinv
  rw [← hr_ 8 (by decide)] at hinv
  obtain ⟨⟨l8, u8⟩, ⟨l9, u9⟩, ⟨l10, u10⟩, -⟩ := b_
  obtain ⟨f0, f1, f2, f3, -⟩ := f_
  obtain ⟨e0, ⟨e1, w_⟩⟩ := d_
  subst w_
  have g := rxcBSW_0_2 hP hin I0 hinv l8 u8 l9 u9 l10 u10 f0 f1 f2 f3 e1 e0
  refine ⟨bx_narP_ok (l := []) g.1, bx_nfP_ok h0_ (fvs := []) (by decide +kernel) g.2.1, ?_, ?_⟩
  · show rxIBSW_1 S0 ws S_p (bx_val [(0, 0), (0, 0), (0, 0), (0, 0), (0, 0), (0, 0), (0, 0), (0, 0), (8, 0), (0, 24)] r_p 8) (bx_val [(0, 0), (0, 0), (0, 0), (0, 0), (0, 0), (0, 0), (0, 0), (0, 0), (8, 0), (0, 24)] r_p 9)
    rw [bx_val_x (n := 8) (e := (8, 0)) h0_ rfl, bx_val_x (n := 9) (e := (0, 24)) h0_ rfl]
    exact g.2.2.1
  · show rxmBSW_1 S0 ws S_p (bx_val [(0, 0), (0, 0), (0, 0), (0, 0), (0, 0), (0, 0), (0, 0), (0, 0), (8, 0), (0, 24)] r_p 8) (bx_val [(0, 0), (0, 0), (0, 0), (0, 0), (0, 0), (0, 0), (0, 0), (0, 0), (8, 0), (0, 24)] r_p 9) < rxmBSW_0 S0 ws S_p (r 8)
    rw [bx_val_x (n := 8) (e := (8, 0)) h0_ rfl, bx_val_x (n := 9) (e := (0, 24)) h0_ rfl, ← hr_ 8 (by decide)]
    exact g.2.2.2
theorem rxcBSW_0_3 {S0 : Nat → Int → Int} {ws : List Int} {S : Nat → Int → Int} {test x9 x10 : Int} (hP : rxPBSW S0 ws) (hin : bx_same rxL (bx_mdl rxCBSW.2.2.1) S0 S) (I0 : bx_Inv rxL S) (hinv : rxIBSW_0 S0 ws S test) (l8 : 0 ≤ test) (u8 : test ≤ 1) (l9 : 3 ≤ x9) (u9 : x9 ≤ 3) (l10 : 47 ≤ x10) (u10 : x10 ≤ 47) (f0 : x10 ≠ 42) (f1 : x10 ≠ 45) (f2 : x10 ≠ 43) (e1 : S 480 11 = x9) (e0 : S 480 12 = x10) : (True) ∧ (True) ∧ rxIBSW_1 S0 ws S test 23 ∧ rxmBSW_1 S0 ws S test 23 < rxmBSW_0 S0 ws S test := by
  obtain ⟨hI, hx⟩ := hinv
  obtain ⟨a_, b_, c_, d_⟩ := rxcBS_0_3 hP hin I0 hI l8 u8 l9 u9 l10 u10 f0 f1 f2 e1 e0
  exact ⟨a_, b_, ⟨c_, (by
    have e := hI.1
    have hw := hI.2
    subst e
    exact ⟨hw, fun hD => Or.inr ⟨by omega, (rzSm_iff hD).mpr ⟨by omega, by omega⟩⟩⟩)⟩, d_⟩
theorem rxgBSW_0_3 {X : (Nat → Int → Int) → Prop} {S0 : Nat → Int → Int} {ws : List Int} (hP : rxPBSW S0 ws) : bx_obC rxL X S0 rxCBSW.2.2.1 (rxIBSW S0 ws) (rxmBSW S0 ws) 0 rxzBSW_0 rxoBSW_0_3 := by
  intro S S_p r r_p hinv hX hin hsm_ hseg
  obtain ⟨I0, I1, h0_, hr_, b_, f_, d_⟩ := bx_cl (evs := [(0, (0, 480), (0, 12), .inr (1, (10, 0))), (0, (0, 480), (0, 11), .inr (0, (9, 0)))]) (fvs := [(3, (10, 0), (0, 42), (0, 0)), (3, (10, 0), (0, 45), (0, 0)), (3, (10, 0), (0, 43), (0, 0))]) hseg (by decide +kernel) (by decide +kernel)
  have hinv : rxIBSW_0 S0 ws S (r 8) := hinv
  rw [← hr_ 8 (by decide)] at hinv
  obtain ⟨⟨l8, u8⟩, ⟨l9, u9⟩, ⟨l10, u10⟩, -⟩ := b_
  obtain ⟨f0, f1, f2, -⟩ := f_
  obtain ⟨e0, ⟨e1, w_⟩⟩ := d_
  subst w_
  have g := rxcBSW_0_3 hP hin I0 hinv l8 u8 l9 u9 l10 u10 f0 f1 f2 e1 e0
  refine ⟨bx_narP_ok (l := []) g.1, bx_nfP_ok h0_ (fvs := []) (by decide +kernel) g.2.1, ?_, ?_⟩
  · show rxIBSW_1 S0 ws S_p (bx_val [(0, 0), (0, 0), (0, 0), (0, 0), (0, 0), (0, 0), (0, 0), (0, 0), (8, 0), (0, 23)] r_p 8) (bx_val [(0, 0), (0, 0), (0, 0), (0, 0), (0, 0), (0, 0), (0, 0), (0, 0), (8, 0), (0, 23)] r_p 9)
    rw [bx_val_x (n := 8) (e := (8, 0)) h0_ rfl, bx_val_x (n := 9) (e := (0, 23)) h0_ rfl]
    exact g.2.2.1
  · show rxmBSW_1 S0 ws S_p (bx_val [(0, 0), (0, 0), (0, 0), (0, 0), (0, 0), (0, 0), (0, 0), (0, 0), (8, 0), (0, 23)] r_p 8) (bx_val [(0, 0), (0, 0), (0, 0), (0, 0), (0, 0), (0, 0), (0, 0), (0, 0), (8, 0), (0, 23)] r_p 9) < rxmBSW_0 S0 ws S_p (r 8)
    rw [bx_val_x (n := 8) (e := (8, 0)) h0_ rfl, bx_val_x (n := 9) (e := (0, 23)) h0_ rfl, ← hr_ 8 (by decide)]
    exact g.2.2.2
theorem rxcBSW_0_4 {S0 : Nat → Int → Int} {ws : List Int} {S : Nat → Int → Int} {test x9 x10 : Int} (hP : rxPBSW S0 ws) (hin : bx_same rxL (bx_mdl rxCBSW.2.2.1) S0 S) (I0 : bx_Inv rxL S) (hinv : rxIBSW_0 S0 ws S test) (l8 : 0 ≤ test) (u8 : test ≤ 1) (l9 : 3 ≤ x9) (u9 : x9 ≤ 3) (l10 : 42 ≤ x10) (u10 : x10 ≤ 42) (f0 : x10 ≠ 45) (f1 : x10 ≠ 43) (e1 : S 480 11 = x9) (e0 : S 480 12 = x10) : (True) ∧ (True) ∧ rxIBSW_1 S0 ws S test 22 ∧ rxmBSW_1 S0 ws S test 22 < rxmBSW_0 S0 ws S test := by
  obtain ⟨hI, hx⟩ := hinv
  obtain ⟨a_, b_, c_, d_⟩ := rxcBS_0_4 hP hin I0 hI l8 u8 l9 u9 l10 u10 f0 f1 e1 e0
  exact ⟨a_, b_, ⟨c_, (by
    have e := hI.1
    have hw := hI.2
    subst e
    exact ⟨hw, fun hD => Or.inr ⟨by omega, (rzSm_iff hD).mpr ⟨by omega, by omega⟩⟩⟩)⟩, d_⟩
theorem rxgBSW_0_4 {X : (Nat → Int → Int) → Prop} {S0 : Nat → Int → Int} {ws : List Int} (hP : rxPBSW S0 ws) : bx_obC rxL X S0 rxCBSW.2.2.1 (rxIBSW S0 ws) (rxmBSW S0 ws) 0 rxzBSW_0 rxoBSW_0_4 := by
  intro S S_p r r_p hinv hX hin hsm_ hseg
  obtain ⟨I0, I1, h0_, hr_, b_, f_, d_⟩ := bx_cl (evs := [(0, (0, 480), (0, 12), .inr (1, (10, 0))), (0, (0, 480), (0, 11), .inr (0, (9, 0)))]) (fvs := [(3, (10, 0), (0, 45), (0, 0)), (3, (10, 0), (0, 43), (0, 0))]) hseg (by decide +kernel) (by decide +kernel)
  have hinv : rxIBSW_0 S0 ws S (r 8) := hinv
  rw [← hr_ 8 (by decide)] at hinv
  obtain ⟨⟨l8, u8⟩, ⟨l9, u9⟩, ⟨l10, u10⟩, -⟩ := b_
  obtain ⟨f0, f1, -⟩ := f_
  obtain ⟨e0, ⟨e1, w_⟩⟩ := d_
  subst w_
  have g := rxcBSW_0_4 hP hin I0 hinv l8 u8 l9 u9 l10 u10 f0 f1 e1 e0
  refine ⟨bx_narP_ok (l := []) g.1, bx_nfP_ok h0_ (fvs := []) (by decide +kernel) g.2.1, ?_, ?_⟩
  · show rxIBSW_1 S0 ws S_p (bx_val [(0, 0), (0, 0), (0, 0), (0, 0), (0, 0), (0, 0), (0, 0), (0, 0), (8, 0), (0, 22)] r_p 8) (bx_val [(0, 0), (0, 0), (0, 0), (0, 0), (0, 0), (0, 0), (0, 0), (0, 0), (8, 0), (0, 22)] r_p 9)
    rw [bx_val_x (n := 8) (e := (8, 0)) h0_ rfl, bx_val_x (n := 9) (e := (0, 22)) h0_ rfl]
    exact g.2.2.1
  · show rxmBSW_1 S0 ws S_p (bx_val [(0, 0), (0, 0), (0, 0), (0, 0), (0, 0), (0, 0), (0, 0), (0, 0), (8, 0), (0, 22)] r_p 8) (bx_val [(0, 0), (0, 0), (0, 0), (0, 0), (0, 0), (0, 0), (0, 0), (0, 0), (8, 0), (0, 22)] r_p 9) < rxmBSW_0 S0 ws S_p (r 8)
    rw [bx_val_x (n := 8) (e := (8, 0)) h0_ rfl, bx_val_x (n := 9) (e := (0, 22)) h0_ rfl, ← hr_ 8 (by decide)]
    exact g.2.2.2
theorem rxcBSW_0_5 {S0 : Nat → Int → Int} {ws : List Int} {S : Nat → Int → Int} {test x9 x10 : Int} (hP : rxPBSW S0 ws) (hin : bx_same rxL (bx_mdl rxCBSW.2.2.1) S0 S) (I0 : bx_Inv rxL S) (hinv : rxIBSW_0 S0 ws S test) (l8 : 0 ≤ test) (u8 : test ≤ 1) (l9 : 3 ≤ x9) (u9 : x9 ≤ 3) (l10 : 45 ≤ x10) (u10 : x10 ≤ 45) (f0 : x10 ≠ 43) (e1 : S 480 11 = x9) (e0 : S 480 12 = x10) : (True) ∧ (True) ∧ rxIBSW_1 S0 ws S test 21 ∧ rxmBSW_1 S0 ws S test 21 < rxmBSW_0 S0 ws S test := by
  obtain ⟨hI, hx⟩ := hinv
  obtain ⟨a_, b_, c_, d_⟩ := rxcBS_0_5 hP hin I0 hI l8 u8 l9 u9 l10 u10 f0 e1 e0
  exact ⟨a_, b_, ⟨c_, (by
    have e := hI.1
    have hw := hI.2
    subst e
    exact ⟨hw, fun hD => Or.inr ⟨by omega, (rzSm_iff hD).mpr ⟨by omega, by omega⟩⟩⟩)⟩, d_⟩
theorem rxgBSW_0_5 {X : (Nat → Int → Int) → Prop} {S0 : Nat → Int → Int} {ws : List Int} (hP : rxPBSW S0 ws) : bx_obC rxL X S0 rxCBSW.2.2.1 (rxIBSW S0 ws) (rxmBSW S0 ws) 0 rxzBSW_0 rxoBSW_0_5 := by
  intro S S_p r r_p hinv hX hin hsm_ hseg
  obtain ⟨I0, I1, h0_, hr_, b_, f_, d_⟩ := bx_cl (evs := [(0, (0, 480), (0, 12), .inr (1, (10, 0))), (0, (0, 480), (0, 11), .inr (0, (9, 0)))]) (fvs := [(3, (10, 0), (0, 43), (0, 0))]) hseg (by decide +kernel) (by decide +kernel)
  have hinv : rxIBSW_0 S0 ws S (r 8) := hinv
  rw [← hr_ 8 (by decide)] at hinv
  obtain ⟨⟨l8, u8⟩, ⟨l9, u9⟩, ⟨l10, u10⟩, -⟩ := b_
  obtain ⟨f0, -⟩ := f_
  obtain ⟨e0, ⟨e1, w_⟩⟩ := d_
  subst w_
  have g := rxcBSW_0_5 hP hin I0 hinv l8 u8 l9 u9 l10 u10 f0 e1 e0
  refine ⟨bx_narP_ok (l := []) g.1, bx_nfP_ok h0_ (fvs := []) (by decide +kernel) g.2.1, ?_, ?_⟩
  · show rxIBSW_1 S0 ws S_p (bx_val [(0, 0), (0, 0), (0, 0), (0, 0), (0, 0), (0, 0), (0, 0), (0, 0), (8, 0), (0, 21)] r_p 8) (bx_val [(0, 0), (0, 0), (0, 0), (0, 0), (0, 0), (0, 0), (0, 0), (0, 0), (8, 0), (0, 21)] r_p 9)
    rw [bx_val_x (n := 8) (e := (8, 0)) h0_ rfl, bx_val_x (n := 9) (e := (0, 21)) h0_ rfl]
    exact g.2.2.1
  · show rxmBSW_1 S0 ws S_p (bx_val [(0, 0), (0, 0), (0, 0), (0, 0), (0, 0), (0, 0), (0, 0), (0, 0), (8, 0), (0, 21)] r_p 8) (bx_val [(0, 0), (0, 0), (0, 0), (0, 0), (0, 0), (0, 0), (0, 0), (0, 0), (8, 0), (0, 21)] r_p 9) < rxmBSW_0 S0 ws S_p (r 8)
    rw [bx_val_x (n := 8) (e := (8, 0)) h0_ rfl, bx_val_x (n := 9) (e := (0, 21)) h0_ rfl, ← hr_ 8 (by decide)]
    exact g.2.2.2
theorem rxcBSW_0_6 {S0 : Nat → Int → Int} {ws : List Int} {S : Nat → Int → Int} {test x9 x10 : Int} (hP : rxPBSW S0 ws) (hin : bx_same rxL (bx_mdl rxCBSW.2.2.1) S0 S) (I0 : bx_Inv rxL S) (hinv : rxIBSW_0 S0 ws S test) (l8 : 0 ≤ test) (u8 : test ≤ 1) (l9 : 3 ≤ x9) (u9 : x9 ≤ 3) (l10 : 43 ≤ x10) (u10 : x10 ≤ 43) (e1 : S 480 11 = x9) (e0 : S 480 12 = x10) : (True) ∧ (True) ∧ rxIBSW_1 S0 ws S test 20 ∧ rxmBSW_1 S0 ws S test 20 < rxmBSW_0 S0 ws S test := by
  obtain ⟨hI, hx⟩ := hinv
  obtain ⟨a_, b_, c_, d_⟩ := rxcBS_0_6 hP hin I0 hI l8 u8 l9 u9 l10 u10 e1 e0
  exact ⟨a_, b_, ⟨c_, (by
    have e := hI.1
    have hw := hI.2
    subst e
    exact ⟨hw, fun hD => Or.inr ⟨by omega, (rzSm_iff hD).mpr ⟨by omega, by omega⟩⟩⟩)⟩, d_⟩
theorem rxgBSW_0_6 {X : (Nat → Int → Int) → Prop} {S0 : Nat → Int → Int} {ws : List Int} (hP : rxPBSW S0 ws) : bx_obC rxL X S0 rxCBSW.2.2.1 (rxIBSW S0 ws) (rxmBSW S0 ws) 0 rxzBSW_0 rxoBSW_0_6 := by
  intro S S_p r r_p hinv hX hin hsm_ hseg
  obtain ⟨I0, I1, h0_, hr_, b_, f_, d_⟩ := bx_cl (evs := [(0, (0, 480), (0, 12), .inr (1, (10, 0))), (0, (0, 480), (0, 11), .inr (0, (9, 0)))]) (fvs := []) hseg (by decide +kernel) (by decide +kernel)
  have hinv : rxIBSW_0 S0 ws S (r 8) := hinv
  rw [← hr_ 8 (by decide)] at hinv
  obtain ⟨⟨l8, u8⟩, ⟨l9, u9⟩, ⟨l10, u10⟩, -⟩ := b_
  obtain ⟨e0, ⟨e1, w_⟩⟩ := d_
  subst w_
  have g := rxcBSW_0_6 hP hin I0 hinv l8 u8 l9 u9 l10 u10 e1 e0
  refine ⟨bx_narP_ok (l := []) g.1, bx_nfP_ok h0_ (fvs := []) (by decide +kernel) g.2.1, ?_, ?_⟩
  · show rxIBSW_1 S0 ws S_p (bx_val [(0, 0), (0, 0), (0, 0), (0, 0), (0, 0), (0, 0), (0, 0), (0, 0), (8, 0), (0, 20)] r_p 8) (bx_val [(0, 0), (0, 0), (0, 0), (0, 0), (0, 0), (0, 0), (0, 0), (0, 0), (8, 0), (0, 20)] r_p 9)
    rw [bx_val_x (n := 8) (e := (8, 0)) h0_ rfl, bx_val_x (n := 9) (e := (0, 20)) h0_ rfl]
    exact g.2.2.1
  · show rxmBSW_1 S0 ws S_p (bx_val [(0, 0), (0, 0), (0, 0), (0, 0), (0, 0), (0, 0), (0, 0), (0, 0), (8, 0), (0, 20)] r_p 8) (bx_val [(0, 0), (0, 0), (0, 0), (0, 0), (0, 0), (0, 0), (0, 0), (0, 0), (8, 0), (0, 20)] r_p 9) < rxmBSW_0 S0 ws S_p (r 8)
    rw [bx_val_x (n := 8) (e := (8, 0)) h0_ rfl, bx_val_x (n := 9) (e := (0, 20)) h0_ rfl, ← hr_ 8 (by decide)]
    exact g.2.2.2
theorem rxcBSW_1_0 {S0 : Nat → Int → Int} {ws : List Int} {S : Nat → Int → Int} {test op : Int} (hP : rxPBSW S0 ws) (hin : bx_same rxL (bx_mdl rxCBSW.2.2.1) S0 S) (I0 : bx_Inv rxL S) (hinv : rxIBSW_1 S0 ws S test op) (l8 : 0 ≤ test) (u8 : test ≤ 1) (l9 : 0 ≤ op) (u9 : op ≤ 24) (f0 : op ≠ (-1)) : ((20 ≤ op ∧ op ≤ 24) ∧ (20 ≤ op ∧ op ≤ 24) ∧ True) ∧ (True) ∧ rxIBSW_2 S0 ws S test op op ∧ rxmBSW_2 S0 ws S test op op < rxmBSW_1 S0 ws S test op := by
  obtain ⟨hI, hx⟩ := hinv
  obtain ⟨a_, b_, c_, d_⟩ := rxcBS_1_0 hP hin I0 hI l8 u8 l9 u9 f0
  exact ⟨a_, b_, ⟨c_, (fun hD => by
    rcases hx.2 hD with q | q
    · omega
    · exact q.2)⟩, d_⟩
theorem rxgBSW_1_0 {X : (Nat → Int → Int) → Prop} {S0 : Nat → Int → Int} {ws : List Int} (hP : rxPBSW S0 ws) : bx_obC rxL X S0 rxCBSW.2.2.1 (rxIBSW S0 ws) (rxmBSW S0 ws) 1 rxzBSW_1 rxoBSW_1_0 := by
  intro S S_p r r_p hinv hX hin hsm_ hseg
  obtain ⟨I0, I1, h0_, hr_, b_, f_, d_⟩ := bx_cl (evs := []) (fvs := [(3, (9, 0), (0, (-1)), (0, 0))]) hseg (by decide +kernel) (by decide +kernel)
  have hinv : rxIBSW_1 S0 ws S (r 8) (r 9) := hinv
  rw [← hr_ 8 (by decide), ← hr_ 9 (by decide)] at hinv
  obtain ⟨⟨l8, u8⟩, ⟨l9, u9⟩, -⟩ := b_
  obtain ⟨f0, -⟩ := f_
  have w_ := d_
  subst w_
  have g := rxcBSW_1_0 hP hin I0 hinv l8 u8 l9 u9 f0
  refine ⟨bx_narP_ok (l := [(9, 20, 24), (9, 20, 24)]) g.1, bx_nfP_ok h0_ (fvs := []) (by decide +kernel) g.2.1, ?_, ?_⟩
  · show rxIBSW_2 S0 ws S_p (bx_val [(0, 0), (0, 0), (0, 0), (0, 0), (0, 0), (0, 0), (0, 0), (0, 0), (8, 0), (9, 0), (9, 0)] r_p 8) (bx_val [(0, 0), (0, 0), (0, 0), (0, 0), (0, 0), (0, 0), (0, 0), (0, 0), (8, 0), (9, 0), (9, 0)] r_p 9) (bx_val [(0, 0), (0, 0), (0, 0), (0, 0), (0, 0), (0, 0), (0, 0), (0, 0), (8, 0), (9, 0), (9, 0)] r_p 10)
    rw [bx_val_x (n := 8) (e := (8, 0)) h0_ rfl, bx_val_x (n := 9) (e := (9, 0)) h0_ rfl, bx_val_x (n := 10) (e := (9, 0)) h0_ rfl]
    exact g.2.2.1
  · show rxmBSW_2 S0 ws S_p (bx_val [(0, 0), (0, 0), (0, 0), (0, 0), (0, 0), (0, 0), (0, 0), (0, 0), (8, 0), (9, 0), (9, 0)] r_p 8) (bx_val [(0, 0), (0, 0), (0, 0), (0, 0), (0, 0), (0, 0), (0, 0), (0, 0), (8, 0), (9, 0), (9, 0)] r_p 9) (bx_val [(0, 0), (0, 0), (0, 0), (0, 0), (0, 0), (0, 0), (0, 0), (0, 0), (8, 0), (9, 0), (9, 0)] r_p 10) < rxmBSW_1 S0 ws S_p (r 8) (r 9)
    rw [bx_val_x (n := 8) (e := (8, 0)) h0_ rfl, bx_val_x (n := 9) (e := (9, 0)) h0_ rfl, bx_val_x (n := 10) (e := (9, 0)) h0_ rfl, ← hr_ 8 (by decide), ← hr_ 9 (by decide)]
    exact g.2.2.2
theorem rxcBSW_1_1 {S0 : Nat → Int → Int} {ws : List Int} {S : Nat → Int → Int} {test op : Int} (hP : rxPBSW S0 ws) (hin : bx_same rxL (bx_mdl rxCBSW.2.2.1) S0 S) (I0 : bx_Inv rxL S) (hinv : rxIBSW_1 S0 ws S test op) (l8 : 0 ≤ test) (u8 : test ≤ 1) (l9 : (-1) ≤ op) (u9 : op ≤ (-1)) : (True) ∧ (True) ∧ rxIBSW_9 S0 ws S test ∧ rxmBSW_9 S0 ws S test < rxmBSW_1 S0 ws S test op := by
  obtain ⟨hI, hx⟩ := hinv
  obtain ⟨a_, b_, c_, d_⟩ := rxcBS_1_1 hP hin I0 hI l8 u8 l9 u9
  exact ⟨a_, b_, ⟨c_, ⟨hx.1, fun hD => by
    rcases hx.2 hD with q | q
    · exact q.2
    · omega⟩⟩, d_⟩
theorem rxgBSW_1_1 {X : (Nat → Int → Int) → Prop} {S0 : Nat → Int → Int} {ws : List Int} (hP : rxPBSW S0 ws) : bx_obC rxL X S0 rxCBSW.2.2.1 (rxIBSW S0 ws) (rxmBSW S0 ws) 1 rxzBSW_1 rxoBSW_1_1 := by
  intro S S_p r r_p hinv hX hin hsm_ hseg
  obtain ⟨I0, I1, h0_, hr_, b_, f_, d_⟩ := bx_cl (evs := []) (fvs := []) hseg (by decide +kernel) (by decide +kernel)
  have hinv : rxIBSW_1 S0 ws S (r 8) (r 9) := hinv
  rw [← hr_ 8 (by decide), ← hr_ 9 (by decide)] at hinv
  obtain ⟨⟨l8, u8⟩, ⟨l9, u9⟩, -⟩ := b_
  have w_ := d_
  subst w_
  have g := rxcBSW_1_1 hP hin I0 hinv l8 u8 l9 u9
  refine ⟨bx_narP_ok (l := []) g.1, bx_nfP_ok h0_ (fvs := []) (by decide +kernel) g.2.1, ?_, ?_⟩
  · show rxIBSW_9 S0 ws S_p (bx_val [(0, 0), (0, 0), (0, 0), (0, 0), (0, 0), (0, 0), (0, 0), (0, 0), (8, 0)] r_p 8)
    rw [bx_val_x (n := 8) (e := (8, 0)) h0_ rfl]
    exact g.2.2.1
  · show rxmBSW_9 S0 ws S_p (bx_val [(0, 0), (0, 0), (0, 0), (0, 0), (0, 0), (0, 0), (0, 0), (0, 0), (8, 0)] r_p 8) < rxmBSW_1 S0 ws S_p (r 8) (r 9)
    rw [bx_val_x (n := 8) (e := (8, 0)) h0_ rfl, ← hr_ 8 (by decide), ← hr_ 9 (by decide)]
    exact g.2.2.2
theorem rxcBSW_4_0 {S0 : Nat → Int → Int} {ws : List Int} {S : Nat → Int → Int} {test op op2 bd : Int} (hP : rxPBSW S0 ws) (hin : bx_same rxL (bx_mdl rxCBSW.2.2.1) S0 S) (I0 : bx_Inv rxL S) (hinv : rxIBSW_4 S0 ws S test op op2 bd) (l8 : 0 ≤ test) (u8 : test ≤ 1) (l9 : 20 ≤ op) (u9 : op ≤ 24) (l10 : 20 ≤ op2) (u10 : op2 ≤ 24) (l11 : 5 ≤ bd) (u11 : bd ≤ 6) : (True) ∧ (True) ∧ rxIBSW_5 S0 ws S test op op ∧ rxmBSW_5 S0 ws S test op op < rxmBSW_4 S0 ws S test op op2 bd := by
  obtain ⟨hI, hx⟩ := hinv
  obtain ⟨a_, b_, c_, d_⟩ := rxcBS_4_0 hP hin I0 hI l8 u8 l9 u9 l10 u10 l11 u11
  exact ⟨a_, b_, ⟨c_, hx⟩, d_⟩
theorem rxgBSW_4_0 {X : (Nat → Int → Int) → Prop} {S0 : Nat → Int → Int} {ws : List Int} (hP : rxPBSW S0 ws) : bx_obC rxL X S0 rxCBSW.2.2.1 (rxIBSW S0 ws) (rxmBSW S0 ws) 4 rxzBSW_4 rxoBSW_4_0 := by
  intro S S_p r r_p hinv hX hin hsm_ hseg
  obtain ⟨I0, I1, h0_, hr_, b_, f_, d_⟩ := bx_cl (evs := []) (fvs := []) hseg (by decide +kernel) (by decide +kernel)
  have hinv : rxIBSW_4 S0 ws S (r 8) (r 9) (r 10) (r 11) := hinv
  rw [← hr_ 8 (by decide), ← hr_ 9 (by decide), ← hr_ 10 (by decide), ← hr_ 11 (by decide)] at hinv
  obtain ⟨⟨l8, u8⟩, ⟨l9, u9⟩, ⟨l10, u10⟩, ⟨l11, u11⟩, -⟩ := b_
  have w_ := d_
  subst w_
  have g := rxcBSW_4_0 hP hin I0 hinv l8 u8 l9 u9 l10 u10 l11 u11
  refine ⟨bx_narP_ok (l := []) g.1, bx_nfP_ok h0_ (fvs := []) (by decide +kernel) g.2.1, ?_, ?_⟩
  · show rxIBSW_5 S0 ws S_p (bx_val [(0, 0), (0, 0), (0, 0), (0, 0), (0, 0), (0, 0), (0, 0), (0, 0), (8, 0), (9, 0), (9, 0)] r_p 8) (bx_val [(0, 0), (0, 0), (0, 0), (0, 0), (0, 0), (0, 0), (0, 0), (0, 0), (8, 0), (9, 0), (9, 0)] r_p 9) (bx_val [(0, 0), (0, 0), (0, 0), (0, 0), (0, 0), (0, 0), (0, 0), (0, 0), (8, 0), (9, 0), (9, 0)] r_p 10)
    rw [bx_val_x (n := 8) (e := (8, 0)) h0_ rfl, bx_val_x (n := 9) (e := (9, 0)) h0_ rfl, bx_val_x (n := 10) (e := (9, 0)) h0_ rfl]
    exact g.2.2.1
  · show rxmBSW_5 S0 ws S_p (bx_val [(0, 0), (0, 0), (0, 0), (0, 0), (0, 0), (0, 0), (0, 0), (0, 0), (8, 0), (9, 0), (9, 0)] r_p 8) (bx_val [(0, 0), (0, 0), (0, 0), (0, 0), (0, 0), (0, 0), (0, 0), (0, 0), (8, 0), (9, 0), (9, 0)] r_p 9) (bx_val [(0, 0), (0, 0), (0, 0), (0, 0), (0, 0), (0, 0), (0, 0), (0, 0), (8, 0), (9, 0), (9, 0)] r_p 10) < rxmBSW_4 S0 ws S_p (r 8) (r 9) (r 10) (r 11)
    rw [bx_val_x (n := 8) (e := (8, 0)) h0_ rfl, bx_val_x (n := 9) (e := (9, 0)) h0_ rfl, bx_val_x (n := 10) (e := (9, 0)) h0_ rfl, ← hr_ 8 (by decide), ← hr_ 9 (by decide), ← hr_ 10 (by decide), ← hr_ 11 (by decide)]
    exact g.2.2.2
theorem rxcBSW_6_0 {S0 : Nat → Int → Int} {ws : List Int} {S : Nat → Int → Int} {test op op2 : Int} (hP : rxPBSW S0 ws) (hin : bx_same rxL (bx_mdl rxCBSW.2.2.1) S0 S) (I0 : bx_Inv rxL S) (hinv : rxIBSW_6 S0 ws S test op op2) (l8 : 0 ≤ test) (u8 : test ≤ 1) (l9 : 20 ≤ op) (u9 : op ≤ 24) (l10 : 20 ≤ op2) (u10 : op2 ≤ 24) : (True) ∧ (True) ∧ rxIBSW_7 S0 ws S test op ∧ rxmBSW_7 S0 ws S test op < rxmBSW_6 S0 ws S test op op2 := by
  obtain ⟨hI, hx⟩ := hinv
  obtain ⟨a_, b_, c_, d_⟩ := rxcBS_6_0 hP hin I0 hI l8 u8 l9 u9 l10 u10
  exact ⟨a_, b_, ⟨c_, (by
    obtain ⟨h14, k0, t0, ⟨m, sd, e24, hm⟩, hs⟩ := hx
    exact ⟨h14, k0, t0, ⟨m, sd, e24, by omega, by omega⟩, hs⟩)⟩, d_⟩
theorem rxgBSW_6_0 {X : (Nat → Int → Int) → Prop} {S0 : Nat → Int → Int} {ws : List Int} (hP : rxPBSW S0 ws) : bx_obC rxL X S0 rxCBSW.2.2.1 (rxIBSW S0 ws) (rxmBSW S0 ws) 6 rxzBSW_6 rxoBSW_6_0 := by
  intro S S_p r r_p hinv hX hin hsm_ hseg
  obtain ⟨I0, I1, h0_, hr_, b_, f_, d_⟩ := bx_cl (evs := []) (fvs := []) hseg (by decide +kernel) (by decide +kernel)
  have hinv : rxIBSW_6 S0 ws S (r 8) (r 9) (r 10) := hinv
  rw [← hr_ 8 (by decide), ← hr_ 9 (by decide), ← hr_ 10 (by decide)] at hinv
  obtain ⟨⟨l8, u8⟩, ⟨l9, u9⟩, ⟨l10, u10⟩, -⟩ := b_
  have w_ := d_
  subst w_
  have g := rxcBSW_6_0 hP hin I0 hinv l8 u8 l9 u9 l10 u10
  refine ⟨bx_narP_ok (l := []) g.1, bx_nfP_ok h0_ (fvs := []) (by decide +kernel) g.2.1, ?_, ?_⟩
  · show rxIBSW_7 S0 ws S_p (bx_val [(0, 0), (0, 0), (0, 0), (0, 0), (0, 0), (0, 0), (0, 0), (0, 0), (8, 0), (9, 0)] r_p 8) (bx_val [(0, 0), (0, 0), (0, 0), (0, 0), (0, 0), (0, 0), (0, 0), (0, 0), (8, 0), (9, 0)] r_p 9)
    rw [bx_val_x (n := 8) (e := (8, 0)) h0_ rfl, bx_val_x (n := 9) (e := (9, 0)) h0_ rfl]
    exact g.2.2.1
  · show rxmBSW_7 S0 ws S_p (bx_val [(0, 0), (0, 0), (0, 0), (0, 0), (0, 0), (0, 0), (0, 0), (0, 0), (8, 0), (9, 0)] r_p 8) (bx_val [(0, 0), (0, 0), (0, 0), (0, 0), (0, 0), (0, 0), (0, 0), (0, 0), (8, 0), (9, 0)] r_p 9) < rxmBSW_6 S0 ws S_p (r 8) (r 9) (r 10)
    rw [bx_val_x (n := 8) (e := (8, 0)) h0_ rfl, bx_val_x (n := 9) (e := (9, 0)) h0_ rfl, ← hr_ 8 (by decide), ← hr_ 9 (by decide), ← hr_ 10 (by decide)]
    exact g.2.2.2
theorem rxdBSW_8_0 {S0 : Nat → Int → Int} {ws : List Int} {S : Nat → Int → Int} {test op : Int} (hP : rxPBSW S0 ws) (hin : bx_same rxL (bx_mdl rxCBSW.2.2.1) S0 S) (hin2 : bx_same rxL (bx_mdl rxCBSW.2.2.1) S S) (I0 : bx_Inv rxL S) (I1 : bx_Inv rxL S) (hinv : rxIBSW_8 S0 ws S test op) (l8 : 0 ≤ test) (u8 : test ≤ 1) (l9 : 20 ≤ op) (u9 : op ≤ 24) : (True) ∧ rxPSBSW S0 ws S (some 1) := by
  obtain ⟨hI, hx⟩ := hinv
  obtain ⟨a_, c_⟩ := rxdBS_8_0 hP hin hin2 I0 I1 hI l8 u8 l9 u9
  exact ⟨a_, c_, hx⟩
theorem rxfBSW_8_0 {X : (Nat → Int → Int) → Prop} {S0 : Nat → Int → Int} {ws : List Int} (hP : rxPBSW S0 ws) : bx_obE rxL X S0 rxCBSW.2.2.1 (rxIBSW S0 ws) (rxPSBSW S0 ws) 8 rxzBSW_8 rxeBSW_8_0 := by
  intro S S_p r r_p hinv hX hin hsm_ hseg
  obtain ⟨I0, I1, h0_, hr_, b_, f_, d_⟩ := bx_cl (evs := []) (fvs := []) hseg (by decide +kernel) (by decide +kernel)
  have hinv : rxIBSW_8 S0 ws S (r 8) (r 9) := hinv
  rw [← hr_ 8 (by decide), ← hr_ 9 (by decide)] at hinv
  obtain ⟨⟨l8, u8⟩, ⟨l9, u9⟩, -⟩ := b_
  have w_ := d_
  subst w_
  have g := rxdBSW_8_0 hP hin hsm_ I0 I1 hinv l8 u8 l9 u9
  refine ⟨bx_narP_ok (l := []) g.1, ?_⟩
  show rxPSBSW S0 ws S_p (some (bx_num r_p (.inr (0, (0, 1)))))
  rw [bx_xv_ok h0_]
  exact g.2
theorem rxcBSW_10_0 {S0 : Nat → Int → Int} {ws : List Int} {S : Nat → Int → Int} {test its : Int} (hP : rxPBSW S0 ws) (hin : bx_same rxL (bx_mdl rxCBSW.2.2.1) S0 S) (I0 : bx_Inv rxL S) (hinv : rxIBSW_10 S0 ws S test its) (l8 : 0 ≤ test) (u8 : test ≤ 1) (l9 : 32 ≤ its) (u9 : its ≤ 32) : (True) ∧ (True) ∧ rxIBSW_11 S0 ws S test ∧ rxmBSW_11 S0 ws S test < rxmBSW_10 S0 ws S test its := by
  obtain ⟨hI, hx⟩ := hinv
  obtain ⟨a_, b_, c_, d_⟩ := rxcBS_10_0 hP hin I0 hI l8 u8 l9 u9
  exact ⟨a_, b_, ⟨c_, hx.2⟩, d_⟩
theorem rxgBSW_10_0 {X : (Nat → Int → Int) → Prop} {S0 : Nat → Int → Int} {ws : List Int} (hP : rxPBSW S0 ws) : bx_obC rxL X S0 rxCBSW.2.2.1 (rxIBSW S0 ws) (rxmBSW S0 ws) 10 rxzBSW_10 rxoBSW_10_0 := by
  intro S S_p r r_p hinv hX hin hsm_ hseg
  obtain ⟨I0, I1, h0_, hr_, b_, f_, d_⟩ := bx_cl (evs := []) (fvs := []) hseg (by decide +kernel) (by decide +kernel)
  have hinv : rxIBSW_10 S0 ws S (r 8) (r 9) := hinv
  rw [← hr_ 8 (by decide), ← hr_ 9 (by decide)] at hinv
  obtain ⟨⟨l8, u8⟩, ⟨l9, u9⟩, -⟩ := b_
  have w_ := d_
  subst w_
  have g := rxcBSW_10_0 hP hin I0 hinv l8 u8 l9 u9
  refine ⟨bx_narP_ok (l := []) g.1, bx_nfP_ok h0_ (fvs := []) (by decide +kernel) g.2.1, ?_, ?_⟩
  · show rxIBSW_11 S0 ws S_p (bx_val [(0, 0), (0, 0), (0, 0), (0, 0), (0, 0), (0, 0), (0, 0), (0, 0), (8, 0)] r_p 8)
    rw [bx_val_x (n := 8) (e := (8, 0)) h0_ rfl]
    exact g.2.2.1
  · show rxmBSW_11 S0 ws S_p (bx_val [(0, 0), (0, 0), (0, 0), (0, 0), (0, 0), (0, 0), (0, 0), (0, 0), (8, 0)] r_p 8) < rxmBSW_10 S0 ws S_p (r 8) (r 9)
    rw [bx_val_x (n := 8) (e := (8, 0)) h0_ rfl, ← hr_ 8 (by decide), ← hr_ 9 (by decide)]
    exact g.2.2.2
theorem rxcBSW_10_1 {S0 : Nat → Int → Int} {ws : List Int} {S : Nat → Int → Int} {test its : Int} (hP : rxPBSW S0 ws) (hin : bx_same rxL (bx_mdl rxCBSW.2.2.1) S0 S) (I0 : bx_Inv rxL S) (hinv : rxIBSW_10 S0 ws S test its) (l8 : 1 ≤ test) (u8 : test ≤ 1) (l9 : (-1) ≤ its) (u9 : its ≤ (-1)) (f0 : test ≠ 0) (f1 : its ≠ 32) : (True) ∧ (True) ∧ rxIBSW_18 S0 ws S test ∧ rxmBSW_18 S0 ws S test < rxmBSW_10 S0 ws S test its := by
  obtain ⟨hI, hx⟩ := hinv
  obtain ⟨a_, b_, c_, d_⟩ := rxcBS_10_1 hP hin I0 hI l8 u8 l9 u9 f0 f1
  exact ⟨a_, b_, ⟨c_, (by
    obtain ⟨e, hn⟩ := hI
    subst e
    exact ⟨hx.1, hx.2, its, hn, by omega, by omega⟩)⟩, d_⟩
theorem rxgBSW_10_1 {X : (Nat → Int → Int) → Prop} {S0 : Nat → Int → Int} {ws : List Int} (hP : rxPBSW S0 ws) : bx_obC rxL X S0 rxCBSW.2.2.1 (rxIBSW S0 ws) (rxmBSW S0 ws) 10 rxzBSW_10 rxoBSW_10_1 := by
  intro S S_p r r_p hinv hX hin hsm_ hseg
  obtain ⟨I0, I1, h0_, hr_, b_, f_, d_⟩ := bx_cl (evs := []) (fvs := [(3, (8, 0), (0, 0), (0, 0)), (3, (9, 0), (0, 32), (0, 0))]) hseg (by decide +kernel) (by decide +kernel)
  have hinv : rxIBSW_10 S0 ws S (r 8) (r 9) := hinv
  rw [← hr_ 8 (by decide), ← hr_ 9 (by decide)] at hinv
  obtain ⟨⟨l8, u8⟩, ⟨l9, u9⟩, -⟩ := b_
  obtain ⟨f0, f1, -⟩ := f_
  have w_ := d_
  subst w_
  have g := rxcBSW_10_1 hP hin I0 hinv l8 u8 l9 u9 f0 f1
  refine ⟨bx_narP_ok (l := []) g.1, bx_nfP_ok h0_ (fvs := []) (by decide +kernel) g.2.1, ?_, ?_⟩
  · show rxIBSW_18 S0 ws S_p (bx_val [(0, 0), (0, 0), (0, 0), (0, 0), (0, 0), (0, 0), (0, 0), (0, 0), (8, 0)] r_p 8)
    rw [bx_val_x (n := 8) (e := (8, 0)) h0_ rfl]
    exact g.2.2.1
  · show rxmBSW_18 S0 ws S_p (bx_val [(0, 0), (0, 0), (0, 0), (0, 0), (0, 0), (0, 0), (0, 0), (0, 0), (8, 0)] r_p 8) < rxmBSW_10 S0 ws S_p (r 8) (r 9)
    rw [bx_val_x (n := 8) (e := (8, 0)) h0_ rfl, ← hr_ 8 (by decide), ← hr_ 9 (by decide)]
    exact g.2.2.2
theorem rxcBSW_10_2 {S0 : Nat → Int → Int} {ws : List Int} {S : Nat → Int → Int} {test its : Int} (hP : rxPBSW S0 ws) (hin : bx_same rxL (bx_mdl rxCBSW.2.2.1) S0 S) (I0 : bx_Inv rxL S) (hinv : rxIBSW_10 S0 ws S test its) (l8 : 0 ≤ test) (u8 : test ≤ 1) (l9 : 0 ≤ its) (u9 : its ≤ 31) (f0 : its ≠ (-1)) (f1 : its ≠ 32) : (True) ∧ (True) ∧ rxIBSW_18 S0 ws S test ∧ rxmBSW_18 S0 ws S test < rxmBSW_10 S0 ws S test its := by
  obtain ⟨hI, hx⟩ := hinv
  obtain ⟨a_, b_, c_, d_⟩ := rxcBS_10_2 hP hin I0 hI l8 u8 l9 u9 f0 f1
  exact ⟨a_, b_, ⟨c_, (by
    obtain ⟨e, hn⟩ := hI
    subst e
    exact ⟨hx.1, hx.2, its, hn, by omega, by omega⟩)⟩, d_⟩
theorem rxgBSW_10_2 {X : (Nat → Int → Int) → Prop} {S0 : Nat → Int → Int} {ws : List Int} (hP : rxPBSW S0 ws) : bx_obC rxL X S0 rxCBSW.2.2.1 (rxIBSW S0 ws) (rxmBSW S0 ws) 10 rxzBSW_10 rxoBSW_10_2 := by
  intro S S_p r r_p hinv hX hin hsm_ hseg
  obtain ⟨I0, I1, h0_, hr_, b_, f_, d_⟩ := bx_cl (evs := []) (fvs := [(3, (9, 0), (0, (-1)), (0, 0)), (3, (9, 0), (0, 32), (0, 0))]) hseg (by decide +kernel) (by decide +kernel)
  have hinv : rxIBSW_10 S0 ws S (r 8) (r 9) := hinv
  rw [← hr_ 8 (by decide), ← hr_ 9 (by decide)] at hinv
  obtain ⟨⟨l8, u8⟩, ⟨l9, u9⟩, -⟩ := b_
  obtain ⟨f0, f1, -⟩ := f_
  have w_ := d_
  subst w_
  have g := rxcBSW_10_2 hP hin I0 hinv l8 u8 l9 u9 f0 f1
  refine ⟨bx_narP_ok (l := []) g.1, bx_nfP_ok h0_ (fvs := []) (by decide +kernel) g.2.1, ?_, ?_⟩
  · show rxIBSW_18 S0 ws S_p (bx_val [(0, 0), (0, 0), (0, 0), (0, 0), (0, 0), (0, 0), (0, 0), (0, 0), (8, 0)] r_p 8)
    rw [bx_val_x (n := 8) (e := (8, 0)) h0_ rfl]
    exact g.2.2.1
  · show rxmBSW_18 S0 ws S_p (bx_val [(0, 0), (0, 0), (0, 0), (0, 0), (0, 0), (0, 0), (0, 0), (0, 0), (8, 0)] r_p 8) < rxmBSW_10 S0 ws S_p (r 8) (r 9)
    rw [bx_val_x (n := 8) (e := (8, 0)) h0_ rfl, ← hr_ 8 (by decide), ← hr_ 9 (by decide)]
    exact g.2.2.2
theorem rxdBSW_10_0 {S0 : Nat → Int → Int} {ws : List Int} {S : Nat → Int → Int} {test its : Int} (hP : rxPBSW S0 ws) (hin : bx_same rxL (bx_mdl rxCBSW.2.2.1) S0 S) (hin2 : bx_same rxL (bx_mdl rxCBSW.2.2.1) S S) (I0 : bx_Inv rxL S) (I1 : bx_Inv rxL S) (hinv : rxIBSW_10 S0 ws S test its) (l8 : 0 ≤ test) (u8 : test ≤ 0) (l9 : (-1) ≤ its) (u9 : its ≤ (-1)) (f0 : its ≠ 32) : (True) ∧ rxPSBSW S0 ws S (some 4) := by
  obtain ⟨hI, hx⟩ := hinv
  obtain ⟨a_, c_⟩ := rxdBS_10_0 hP hin hin2 I0 I1 hI l8 u8 l9 u9 f0
  exact ⟨a_, c_, (fun c hD tst s rest hw r hc => by
    obtain ⟨e, hn⟩ := hI
    subst e
    have ht : test = tst := Option.some.inj (congrArg (fun l : List Int => l[1]?) (hx.1.symm.trans hw))
    rcases rzBr_in r.2.2 r.1 hn with q | q | q
    · obtain ⟨q1, q2, q3⟩ := q
      subst q1
      exact Or.inr (Or.inr ⟨rfl, rfl, rzStep_dn (by omega) (fun _ => hx.2 hD) (by omega)⟩)
    · omega
    · omega)⟩
theorem rxfBSW_10_0 {X : (Nat → Int → Int) → Prop} {S0 : Nat → Int → Int} {ws : List Int} (hP : rxPBSW S0 ws) : bx_obE rxL X S0 rxCBSW.2.2.1 (rxIBSW S0 ws) (rxPSBSW S0 ws) 10 rxzBSW_10 rxeBSW_10_0 := by
  intro S S_p r r_p hinv hX hin hsm_ hseg
  obtain ⟨I0, I1, h0_, hr_, b_, f_, d_⟩ := bx_cl (evs := []) (fvs := [(3, (9, 0), (0, 32), (0, 0))]) hseg (by decide +kernel) (by decide +kernel)
  have hinv : rxIBSW_10 S0 ws S (r 8) (r 9) := hinv
  rw [← hr_ 8 (by decide), ← hr_ 9 (by decide)] at hinv
  obtain ⟨⟨l8, u8⟩, ⟨l9, u9⟩, -⟩ := b_
  obtain ⟨f0, -⟩ := f_
  have w_ := d_
  subst w_
  have g := rxdBSW_10_0 hP hin hsm_ I0 I1 hinv l8 u8 l9 u9 f0
  refine ⟨bx_narP_ok (l := []) g.1, ?_⟩
  show rxPSBSW S0 ws S_p (some (bx_num r_p (.inr (0, (0, 4)))))
  rw [bx_xv_ok h0_]
  exact g.2
theorem rxcBSW_13_0 {S0 : Nat → Int → Int} {ws : List Int} {S : Nat → Int → Int} {test is x10 : Int} (hP : rxPBSW S0 ws) (hin : bx_same rxL (bx_mdl rxCBSW.2.2.1) S0 S) (I0 : bx_Inv rxL S) (hinv : rxIBSW_13 S0 ws S test is) (l8 : 0 ≤ test) (u8 : test ≤ 1) (l9 : 0 ≤ is) (u9 : is ≤ 1) (l10 : 0 ≤ x10) (u10 : x10 ≤ 0) (e0 : S 480 14 = x10) : (True) ∧ (True) ∧ rxIBSW_14 S0 ws S test ∧ rxmBSW_14 S0 ws S test < rxmBSW_13 S0 ws S test is := by
  obtain ⟨hI, hx⟩ := hinv
  obtain ⟨a_, b_, c_, d_⟩ := rxcBS_13_0 hP hin I0 hI l8 u8 l9 u9 l10 u10 e0
  exact ⟨a_, b_, ⟨c_, ⟨hx.1, fun hD => (hx.2 hD).2.1 (by omega)⟩⟩, d_⟩
theorem rxgBSW_13_0 {X : (Nat → Int → Int) → Prop} {S0 : Nat → Int → Int} {ws : List Int} (hP : rxPBSW S0 ws) : bx_obC rxL X S0 rxCBSW.2.2.1 (rxIBSW S0 ws) (rxmBSW S0 ws) 13 rxzBSW_13 rxoBSW_13_0 := by
  intro S S_p r r_p hinv hX hin hsm_ hseg
  obtain ⟨I0, I1, h0_, hr_, b_, f_, d_⟩ := bx_cl (evs := [(0, (0, 480), (0, 14), .inr (0, (10, 0)))]) (fvs := []) hseg (by decide +kernel) (by decide +kernel)
  have hinv : rxIBSW_13 S0 ws S (r 8) (r 9) := hinv
  rw [← hr_ 8 (by decide), ← hr_ 9 (by decide)] at hinv
  obtain ⟨⟨l8, u8⟩, ⟨l9, u9⟩, ⟨l10, u10⟩, -⟩ := b_
  obtain ⟨e0, w_⟩ := d_
  subst w_
  have g := rxcBSW_13_0 hP hin I0 hinv l8 u8 l9 u9 l10 u10 e0
  refine ⟨bx_narP_ok (l := []) g.1, bx_nfP_ok h0_ (fvs := []) (by decide +kernel) g.2.1, ?_, ?_⟩
  · show rxIBSW_14 S0 ws S_p (bx_val [(0, 0), (0, 0), (0, 0), (0, 0), (0, 0), (0, 0), (0, 0), (0, 0), (8, 0)] r_p 8)
    rw [bx_val_x (n := 8) (e := (8, 0)) h0_ rfl]
    exact g.2.2.1
  · show rxmBSW_14 S0 ws S_p (bx_val [(0, 0), (0, 0), (0, 0), (0, 0), (0, 0), (0, 0), (0, 0), (0, 0), (8, 0)] r_p 8) < rxmBSW_13 S0 ws S_p (r 8) (r 9)
    rw [bx_val_x (n := 8) (e := (8, 0)) h0_ rfl, ← hr_ 8 (by decide), ← hr_ 9 (by decide)]
    exact g.2.2.2
theorem rxdBSW_13_0 {S0 : Nat → Int → Int} {ws : List Int} {S : Nat → Int → Int} {test is x10 : Int} (hP : rxPBSW S0 ws) (hin : bx_same rxL (bx_mdl rxCBSW.2.2.1) S0 S) (hin2 : bx_same rxL (bx_mdl rxCBSW.2.2.1) S S) (I0 : bx_Inv rxL S) (I1 : bx_Inv rxL S) (hinv : rxIBSW_13 S0 ws S test is) (l8 : 0 ≤ test) (u8 : test ≤ 1) (l9 : 0 ≤ is) (u9 : is ≤ 1) (l10 : 1 ≤ x10) (u10 : x10 ≤ 1) (f0 : x10 ≠ 0) (e0 : S 480 14 = x10) : (True) ∧ rxPSBSW S0 ws S (some 3) := by
  obtain ⟨hI, hx⟩ := hinv
  obtain ⟨a_, c_⟩ := rxdBS_13_0 hP hin hin2 I0 I1 hI l8 u8 l9 u9 l10 u10 f0 e0
  exact ⟨a_, c_, (fun c hD tst s rest hw r hc => by
    have y := (hx.2 hD)
    have g := y.2.2 (by omega)
    rcases rzBr_in r.2.2 r.1 hx.1 with q | q | q
    · omega
    · obtain ⟨q1, q2, q3⟩ := q
      subst q3
      exact Or.inl (rzTn_csn q1 y.1 g.1 (by omega) g.2)
    · omega)⟩
theorem rxfBSW_13_0 {X : (Nat → Int → Int) → Prop} {S0 : Nat → Int → Int} {ws : List Int} (hP : rxPBSW S0 ws) : bx_obE rxL X S0 rxCBSW.2.2.1 (rxIBSW S0 ws) (rxPSBSW S0 ws) 13 rxzBSW_13 rxeBSW_13_0 := by
  intro S S_p r r_p hinv hX hin hsm_ hseg
  obtain ⟨I0, I1, h0_, hr_, b_, f_, d_⟩ := bx_cl (evs := [(0, (0, 480), (0, 14), .inr (0, (10, 0)))]) (fvs := [(3, (10, 0), (0, 0), (0, 0))]) hseg (by decide +kernel) (by decide +kernel)
  have hinv : rxIBSW_13 S0 ws S (r 8) (r 9) := hinv
  rw [← hr_ 8 (by decide), ← hr_ 9 (by decide)] at hinv
  obtain ⟨⟨l8, u8⟩, ⟨l9, u9⟩, ⟨l10, u10⟩, -⟩ := b_
  obtain ⟨f0, -⟩ := f_
  obtain ⟨e0, w_⟩ := d_
  subst w_
  have g := rxdBSW_13_0 hP hin hsm_ I0 I1 hinv l8 u8 l9 u9 l10 u10 f0 e0
  refine ⟨bx_narP_ok (l := []) g.1, ?_⟩
  show rxPSBSW S0 ws S_p (some (bx_num r_p (.inr (0, (0, 3)))))
  rw [bx_xv_ok h0_]
  exact g.2
theorem rxcBSW_15_0 {S0 : Nat → Int → Int} {ws : List Int} {S : Nat → Int → Int} {test x9 : Int} (hP : rxPBSW S0 ws) (hin : bx_same rxL (bx_mdl rxCBSW.2.2.1) S0 S) (I0 : bx_Inv rxL S) (hinv : rxIBSW_15 S0 ws S test) (l8 : 0 ≤ test) (u8 : test ≤ 1) (l9 : 0 ≤ x9) (u9 : x9 ≤ 400) (e0 : S 480 24 = x9) : ((1 ≤ x9 ∧ x9 ≤ 400) ∧ True) ∧ (True) ∧ rxIBSW_16 S0 ws S test x9 ∧ rxmBSW_16 S0 ws S test x9 < rxmBSW_15 S0 ws S test := by
  obtain ⟨hI, hx⟩ := hinv
  obtain ⟨a_, b_, c_, d_⟩ := rxcBS_15_0 hP hin I0 hI l8 u8 l9 u9 e0
  exact ⟨a_, b_, ⟨c_, hx⟩, d_⟩
theorem rxgBSW_15_0 {X : (Nat → Int → Int) → Prop} {S0 : Nat → Int → Int} {ws : List Int} (hP : rxPBSW S0 ws) : bx_obC rxL X S0 rxCBSW.2.2.1 (rxIBSW S0 ws) (rxmBSW S0 ws) 15 rxzBSW_15 rxoBSW_15_0 := by
  intro S S_p r r_p hinv hX hin hsm_ hseg
  obtain ⟨I0, I1, h0_, hr_, b_, f_, d_⟩ := bx_cl (evs := [(0, (0, 480), (0, 24), .inr (0, (9, 0)))]) (fvs := []) hseg (by decide +kernel) (by decide +kernel)
  have hinv : rxIBSW_15 S0 ws S (r 8) := hinv
  rw [← hr_ 8 (by decide)] at hinv
  obtain ⟨⟨l8, u8⟩, ⟨l9, u9⟩, -⟩ := b_
  obtain ⟨e0, w_⟩ := d_
  subst w_
  have g := rxcBSW_15_0 hP hin I0 hinv l8 u8 l9 u9 e0
  refine ⟨bx_narP_ok (l := [(9, 1, 400)]) g.1, bx_nfP_ok h0_ (fvs := []) (by decide +kernel) g.2.1, ?_, ?_⟩
  · show rxIBSW_16 S0 ws S_p (bx_val [(0, 0), (0, 0), (0, 0), (0, 0), (0, 0), (0, 0), (0, 0), (0, 0), (8, 0), (9, 0)] r_p 8) (bx_val [(0, 0), (0, 0), (0, 0), (0, 0), (0, 0), (0, 0), (0, 0), (0, 0), (8, 0), (9, 0)] r_p 9)
    rw [bx_val_x (n := 8) (e := (8, 0)) h0_ rfl, bx_val_x (n := 9) (e := (9, 0)) h0_ rfl]
    exact g.2.2.1
  · show rxmBSW_16 S0 ws S_p (bx_val [(0, 0), (0, 0), (0, 0), (0, 0), (0, 0), (0, 0), (0, 0), (0, 0), (8, 0), (9, 0)] r_p 8) (bx_val [(0, 0), (0, 0), (0, 0), (0, 0), (0, 0), (0, 0), (0, 0), (0, 0), (8, 0), (9, 0)] r_p 9) < rxmBSW_15 S0 ws S_p (r 8)
    rw [bx_val_x (n := 8) (e := (8, 0)) h0_ rfl, bx_val_x (n := 9) (e := (9, 0)) h0_ rfl, ← hr_ 8 (by decide)]
    exact g.2.2.2
theorem rxcBSW_16_0 {S0 : Nat → Int → Int} {ws : List Int} {S : Nat → Int → Int} {test pn x10 : Int} (hP : rxPBSW S0 ws) (hin : bx_same rxL (bx_mdl rxCBSW.2.2.1) S0 S) (I0 : bx_Inv rxL S) (hinv : rxIBSW_16 S0 ws S test pn) (l8 : 0 ≤ test) (u8 : test ≤ 1) (l9 : 1 ≤ pn) (u9 : pn ≤ 400) (l10 : 0 ≤ x10) (u10 : x10 ≤ 8) (e0 : (bx_up S 480 24 (pn + (-1))) 480 25 = x10) : ((1 ≤ x10 ∧ x10 ≤ 8) ∧ True) ∧ (True) ∧ rxIBSW_17 S0 ws (bx_up S 480 24 (pn + (-1))) test x10 ∧ rxmBSW_17 S0 ws (bx_up S 480 24 (pn + (-1))) test x10 < rxmBSW_16 S0 ws S test pn := by
  obtain ⟨hI, hx⟩ := hinv
  obtain ⟨a_, b_, c_, d_⟩ := rxcBS_16_0 hP hin I0 hI l8 u8 l9 u9 l10 u10 e0
  exact ⟨a_, b_, ⟨c_, (by
    obtain ⟨hb, h14, hh⟩ := hx
    obtain ⟨hpn, -, -, -, h1, h32⟩ := hI
    refine ⟨hb, ((bx_up_ne (by omega))).trans h14, fun hD => ?_⟩
    have g := hh hD
    have d := g.2.2
    refine ⟨g.1, rzNw_c g.2.1 ⟨congrArg rzCut (funext fun _ => (bx_up_ne (by omega))), (bx_up_ne (by omega)), (bx_up_ne (by omega)), (bx_up_ne (by omega)), fun c => rzCk_c c (funext fun _ => (bx_up_ne (by omega))) (funext fun _ => (bx_up_ne (by omega)))⟩ ⟨(bx_up_ne (by omega)), (bx_up_ne (by omega)), (bx_up_ne (by omega)), (bx_up_ne (by omega))⟩, S 480 24, rzSd_c d ((bx_up_ne (by omega))) ((bx_up_ne (by omega))) (fun j a b => (bx_up_ne (by omega))), bx_up_at.trans (by omega), h1, ?_⟩
    rw [← d.2.2.2.2.1 (S 480 24 - 1) (by omega) (by omega)]
    exact h32)⟩, d_⟩
theorem rxgBSW_16_0 {X : (Nat → Int → Int) → Prop} {S0 : Nat → Int → Int} {ws : List Int} (hP : rxPBSW S0 ws) : bx_obC rxL X S0 rxCBSW.2.2.1 (rxIBSW S0 ws) (rxmBSW S0 ws) 16 rxzBSW_16 rxoBSW_16_0 := by
  intro S S_p r r_p hinv hX hin hsm_ hseg
  obtain ⟨I0, I1, h0_, hr_, b_, f_, d_⟩ := bx_cl (evs := [(0, (0, 480), (0, 25), .inr (0, (10, 0))), (1, (0, 480), (0, 24), .inr (0, (9, (-1))))]) (fvs := []) hseg (by decide +kernel) (by decide +kernel)
  have hinv : rxIBSW_16 S0 ws S (r 8) (r 9) := hinv
  rw [← hr_ 8 (by decide), ← hr_ 9 (by decide)] at hinv
  obtain ⟨⟨l8, u8⟩, ⟨l9, u9⟩, ⟨l10, u10⟩, -⟩ := b_
  obtain ⟨e0, ⟨T1, w_, w1⟩⟩ := d_
  subst w1
  subst w_
  have g := rxcBSW_16_0 hP hin I0 hinv l8 u8 l9 u9 l10 u10 e0
  refine ⟨bx_narP_ok (l := [(10, 1, 8)]) g.1, bx_nfP_ok h0_ (fvs := []) (by decide +kernel) g.2.1, ?_, ?_⟩
  · show rxIBSW_17 S0 ws (bx_up T1 480 (24) (r_p 9 + (-1))) (bx_val [(0, 0), (0, 0), (0, 0), (0, 0), (0, 0), (0, 0), (0, 0), (0, 0), (8, 0), (10, 0)] r_p 8) (bx_val [(0, 0), (0, 0), (0, 0), (0, 0), (0, 0), (0, 0), (0, 0), (0, 0), (8, 0), (10, 0)] r_p 9)
    rw [bx_val_x (n := 8) (e := (8, 0)) h0_ rfl, bx_val_x (n := 9) (e := (10, 0)) h0_ rfl]
    exact g.2.2.1
  · show rxmBSW_17 S0 ws (bx_up T1 480 (24) (r_p 9 + (-1))) (bx_val [(0, 0), (0, 0), (0, 0), (0, 0), (0, 0), (0, 0), (0, 0), (0, 0), (8, 0), (10, 0)] r_p 8) (bx_val [(0, 0), (0, 0), (0, 0), (0, 0), (0, 0), (0, 0), (0, 0), (0, 0), (8, 0), (10, 0)] r_p 9) < rxmBSW_16 S0 ws T1 (r 8) (r 9)
    rw [bx_val_x (n := 8) (e := (8, 0)) h0_ rfl, bx_val_x (n := 9) (e := (10, 0)) h0_ rfl, ← hr_ 8 (by decide), ← hr_ 9 (by decide)]
    exact g.2.2.2
theorem rxdBSW_17_0 {S0 : Nat → Int → Int} {ws : List Int} {S : Nat → Int → Int} {test q : Int} (hP : rxPBSW S0 ws) (hin : bx_same rxL (bx_mdl rxCBSW.2.2.1) S0 S) (hin2 : bx_same rxL (bx_mdl rxCBSW.2.2.1) S (bx_up S 480 25 (q + (-1)))) (I0 : bx_Inv rxL S) (I1 : bx_Inv rxL (bx_up S 480 25 (q + (-1)))) (hinv : rxIBSW_17 S0 ws S test q) (l8 : 0 ≤ test) (u8 : test ≤ 1) (l9 : 1 ≤ q) (u9 : q ≤ 8) : (True) ∧ rxPSBSW S0 ws (bx_up S 480 25 (q + (-1))) (some 3) := by
  obtain ⟨hI, hx⟩ := hinv
  obtain ⟨a_, c_⟩ := rxdBS_17_0 hP hin hin2 I0 I1 hI l8 u8 l9 u9
  exact ⟨a_, c_, (fun c hD tst s rest hw r hc => by
    obtain ⟨hb, h14, hh⟩ := hx
    obtain ⟨g1, g2, m, d, e24, m1, h32⟩ := hh hD
    obtain ⟨S1, eS, hq, -⟩ := hI
    have e25 : S 480 25 = S1 480 25 := by
      rw [eS]
      exact bx_up_ne (by omega)
    obtain ⟨d1, d2, d3, d4, d5, d6⟩ := d
    rcases rzBr_in r.2.2 r.1 hb with q | q | q
    · omega
    · obtain ⟨q1, q2, q3⟩ := q
      subst q3
      exact Or.inl (rzTn_cs (m := m) r q1 g1 (((bx_up_ne (by omega))).trans h14) (rzNw_c g2 ⟨congrArg rzCut (funext fun _ => (bx_up_ne (by omega))), (bx_up_ne (by omega)), (bx_up_ne (by omega)), (bx_up_ne (by omega)), fun c => rzCk_c c (funext fun _ => (bx_up_ne (by omega))) (funext fun _ => (bx_up_ne (by omega)))⟩ ⟨(bx_up_ne (by omega)), (bx_up_ne (by omega)), (bx_up_ne (by omega)), (bx_up_ne (by omega))⟩) ⟨d1, d2, bx_up_at.trans (by omega), ((bx_up_ne (by omega))).trans d4, fun j a b => ((bx_up_ne (by omega))).trans (d5 j a b), d6⟩ m1 (((bx_up_ne (by omega))).trans e24) (by omega))
    · omega)⟩
theorem rxfBSW_17_0 {X : (Nat → Int → Int) → Prop} {S0 : Nat → Int → Int} {ws : List Int} (hP : rxPBSW S0 ws) : bx_obE rxL X S0 rxCBSW.2.2.1 (rxIBSW S0 ws) (rxPSBSW S0 ws) 17 rxzBSW_17 rxeBSW_17_0 := by
  intro S S_p r r_p hinv hX hin hsm_ hseg
  obtain ⟨I0, I1, h0_, hr_, b_, f_, d_⟩ := bx_cl (evs := [(1, (0, 480), (0, 25), .inr (0, (9, (-1))))]) (fvs := []) hseg (by decide +kernel) (by decide +kernel)
  have hinv : rxIBSW_17 S0 ws S (r 8) (r 9) := hinv
  rw [← hr_ 8 (by decide), ← hr_ 9 (by decide)] at hinv
  obtain ⟨⟨l8, u8⟩, ⟨l9, u9⟩, -⟩ := b_
  obtain ⟨T0, w_, w0⟩ := d_
  subst w0
  subst w_
  have g := rxdBSW_17_0 hP hin hsm_ I0 I1 hinv l8 u8 l9 u9
  refine ⟨bx_narP_ok (l := []) g.1, ?_⟩
  show rxPSBSW S0 ws (bx_up T0 480 (25) (r_p 9 + (-1))) (some (bx_num r_p (.inr (0, (0, 3)))))
  rw [bx_xv_ok h0_]
  exact g.2
theorem rxcBSW_19_0 {S0 : Nat → Int → Int} {ws : List Int} {S : Nat → Int → Int} {test cmp x10 : Int} (hP : rxPBSW S0 ws) (hin : bx_same rxL (bx_mdl rxCBSW.2.2.1) S0 S) (I0 : bx_Inv rxL S) (hinv : rxIBSW_19 S0 ws S test cmp) (l8 : 0 ≤ test) (u8 : test ≤ 1) (l9 : 0 ≤ cmp) (u9 : cmp ≤ 0) (l10 : 0 ≤ x10) (u10 : x10 ≤ 2) (f0 : x10 ≠ 3) (f1 : x10 ≠ 3) (f2 : x10 ≠ 3) (e0 : S 480 11 = x10) : (True) ∧ (True) ∧ rxIBSW_20 S0 ws S test 27 0 ∧ rxmBSW_20 S0 ws S test 27 0 < rxmBSW_19 S0 ws S test cmp := by
  obtain ⟨hI, hx⟩ := hinv
  obtain ⟨a_, b_, c_, d_⟩ := rxcBS_19_0 hP hin I0 hI l8 u8 l9 u9 l10 u10 f0 f1 f2 e0
  exact ⟨a_, b_, ⟨c_, (by
    have e := hI.1
    subst e
    refine ⟨hx.1, ?_, fun hD => Or.inr ⟨rfl, fun g => by
      have q := (rzCp_iff hD).mp g
      omega⟩⟩
    rcases hx.2 with q | q
    · omega
    · exact q.2)⟩, d_⟩
theorem rxgBSW_19_0 {X : (Nat → Int → Int) → Prop} {S0 : Nat → Int → Int} {ws : List Int} (hP : rxPBSW S0 ws) : bx_obC rxL X S0 rxCBSW.2.2.1 (rxIBSW S0 ws) (rxmBSW S0 ws) 19 rxzBSW_19 rxoBSW_19_0 := by
  intro S S_p r r_p hinv hX hin hsm_ hseg
  obtain ⟨I0, I1, h0_, hr_, b_, f_, d_⟩ := bx_cl (evs := [(0, (0, 480), (0, 11), .inr (0, (10, 0)))]) (fvs := [(3, (10, 0), (0, 3), (0, 0)), (3, (10, 0), (0, 3), (0, 0)), (3, (10, 0), (0, 3), (0, 0))]) hseg (by decide +kernel) (by decide +kernel)
  have hinv : rxIBSW_19 S0 ws S (r 8) (r 9) := hinv
  rw [← hr_ 8 (by decide), ← hr_ 9 (by decide)] at hinv
  obtain ⟨⟨l8, u8⟩, ⟨l9, u9⟩, ⟨l10, u10⟩, -⟩ := b_
  obtain ⟨f0, f1, f2, -⟩ := f_
  obtain ⟨e0, w_⟩ := d_
  subst w_
  have g := rxcBSW_19_0 hP hin I0 hinv l8 u8 l9 u9 l10 u10 f0 f1 f2 e0
  refine ⟨bx_narP_ok (l := []) g.1, bx_nfP_ok h0_ (fvs := []) (by decide +kernel) g.2.1, ?_, ?_⟩
  · show rxIBSW_20 S0 ws S_p (bx_val [(0, 0), (0, 0), (0, 0), (0, 0), (0, 0), (0, 0), (0, 0), (0, 0), (8, 0), (0, 27), (0, 0)] r_p 8) (bx_val [(0, 0), (0, 0), (0, 0), (0, 0), (0, 0), (0, 0), (0, 0), (0, 0), (8, 0), (0, 27), (0, 0)] r_p 9) (bx_val [(0, 0), (0, 0), (0, 0), (0, 0), (0, 0), (0, 0), (0, 0), (0, 0), (8, 0), (0, 27), (0, 0)] r_p 10)
    rw [bx_val_x (n := 8) (e := (8, 0)) h0_ rfl, bx_val_x (n := 9) (e := (0, 27)) h0_ rfl, bx_val_x (n := 10) (e := (0, 0)) h0_ rfl]
    exact g.2.2.1
  · show rxmBSW_20 S0 ws S_p (bx_val [(0, 0), (0, 0), (0, 0), (0, 0), (0, 0), (0, 0), (0, 0), (0, 0), (8, 0), (0, 27), (0, 0)] r_p 8) (bx_val [(0, 0), (0, 0), (0, 0), (0, 0), (0, 0), (0, 0), (0, 0), (0, 0), (8, 0), (0, 27), (0, 0)] r_p 9) (bx_val [(0, 0), (0, 0), (0, 0), (0, 0), (0, 0), (0, 0), (0, 0), (0, 0), (8, 0), (0, 27), (0, 0)] r_p 10) < rxmBSW_19 S0 ws S_p (r 8) (r 9)
    rw [bx_val_x (n := 8) (e := (8, 0)) h0_ rfl, bx_val_x (n := 9) (e := (0, 27)) h0_ rfl, bx_val_x (n := 10) (e := (0, 0)) h0_ rfl, ← hr_ 8 (by decide), ← hr_ 9 (by decide)]
    exact g.2.2.2
theorem rxcBSW_19_1 {S0 : Nat → Int → Int} {ws : List Int} {S : Nat → Int → Int} {test cmp x10 x11 : Int} (hP : rxPBSW S0 ws) (hin : bx_same rxL (bx_mdl rxCBSW.2.2.1) S0 S) (I0 : bx_Inv rxL S) (hinv : rxIBSW_19 S0 ws S test cmp) (l8 : 0 ≤ test) (u8 : test ≤ 1) (l9 : 0 ≤ cmp) (u9 : cmp ≤ 0) (l10 : 3 ≤ x10) (u10 : x10 ≤ 3) (l11 : (-9223372036854775808) ≤ x11) (u11 : x11 ≤ 9223372036854775807) (f0 : x11 ≠ 61) (f1 : x11 ≠ 62) (f2 : x11 ≠ 60) (e1 : S 480 11 = x10) (e0 : S 480 12 = x11) : (True) ∧ (True) ∧ rxIBSW_20 S0 ws S test 27 0 ∧ rxmBSW_20 S0 ws S test 27 0 < rxmBSW_19 S0 ws S test cmp := by
  obtain ⟨hI, hx⟩ := hinv
  obtain ⟨a_, b_, c_, d_⟩ := rxcBS_19_1 hP hin I0 hI l8 u8 l9 u9 l10 u10 l11 u11 f0 f1 f2 e1 e0
  exact ⟨a_, b_, ⟨c_, (by
    have e := hI.1
    subst e
    refine ⟨hx.1, ?_, fun hD => Or.inr ⟨rfl, fun g => by
      have q := (rzCp_iff hD).mp g
      omega⟩⟩
    rcases hx.2 with q | q
    · omega
    · exact q.2)⟩, d_⟩
theorem rxgBSW_19_1 {X : (Nat → Int → Int) → Prop} {S0 : Nat → Int → Int} {ws : List Int} (hP : rxPBSW S0 ws) : bx_obC rxL X S0 rxCBSW.2.2.1 (rxIBSW S0 ws) (rxmBSW S0 ws) 19 rxzBSW_19 rxoBSW_19_1 := by
  intro S S_p r r_p hinv hX hin hsm_ hseg
  obtain ⟨I0, I1, h0_, hr_, b_, f_, d_⟩ := bx_cl (evs := [(0, (0, 480), (0, 12), .inr (1, (11, 0))), (0, (0, 480), (0, 11), .inr (0, (10, 0)))]) (fvs := [(3, (11, 0), (0, 61), (0, 0)), (3, (11, 0), (0, 62), (0, 0)), (3, (11, 0), (0, 60), (0, 0))]) hseg (by decide +kernel) (by decide +kernel)
  have hinv : rxIBSW_19 S0 ws S (r 8) (r 9) := hinv
  rw [← hr_ 8 (by decide), ← hr_ 9 (by decide)] at hinv
  obtain ⟨⟨l8, u8⟩, ⟨l9, u9⟩, ⟨l10, u10⟩, ⟨l11, u11⟩, -⟩ := b_
  obtain ⟨f0, f1, f2, -⟩ := f_
  obtain ⟨e0, ⟨e1, w_⟩⟩ := d_
  subst w_
  have g := rxcBSW_19_1 hP hin I0 hinv l8 u8 l9 u9 l10 u10 l11 u11 f0 f1 f2 e1 e0
  refine ⟨bx_narP_ok (l := []) g.1, bx_nfP_ok h0_ (fvs := []) (by decide +kernel) g.2.1, ?_, ?_⟩
  · show rxIBSW_20 S0 ws S_p (bx_val [(0, 0), (0, 0), (0, 0), (0, 0), (0, 0), (0, 0), (0, 0), (0, 0), (8, 0), (0, 27), (0, 0)] r_p 8) (bx_val [(0, 0), (0, 0), (0, 0), (0, 0), (0, 0), (0, 0), (0, 0), (0, 0), (8, 0), (0, 27), (0, 0)] r_p 9) (bx_val [(0, 0), (0, 0), (0, 0), (0, 0), (0, 0), (0, 0), (0, 0), (0, 0), (8, 0), (0, 27), (0, 0)] r_p 10)
    rw [bx_val_x (n := 8) (e := (8, 0)) h0_ rfl, bx_val_x (n := 9) (e := (0, 27)) h0_ rfl, bx_val_x (n := 10) (e := (0, 0)) h0_ rfl]
    exact g.2.2.1
  · show rxmBSW_20 S0 ws S_p (bx_val [(0, 0), (0, 0), (0, 0), (0, 0), (0, 0), (0, 0), (0, 0), (0, 0), (8, 0), (0, 27), (0, 0)] r_p 8) (bx_val [(0, 0), (0, 0), (0, 0), (0, 0), (0, 0), (0, 0), (0, 0), (0, 0), (8, 0), (0, 27), (0, 0)] r_p 9) (bx_val [(0, 0), (0, 0), (0, 0), (0, 0), (0, 0), (0, 0), (0, 0), (0, 0), (8, 0), (0, 27), (0, 0)] r_p 10) < rxmBSW_19 S0 ws S_p (r 8) (r 9)
    rw [bx_val_x (n := 8) (e := (8, 0)) h0_ rfl, bx_val_x (n := 9) (e := (0, 27)) h0_ rfl, bx_val_x (n := 10) (e := (0, 0)) h0_ rfl, ← hr_ 8 (by decide), ← hr_ 9 (by decide)]
    exact g.2.2.2
theorem rxcBSW_19_2 {S0 : Nat → Int → Int} {ws : List Int} {S : Nat → Int → Int} {test cmp x10 x11 : Int} (hP : rxPBSW S0 ws) (hin : bx_same rxL (bx_mdl rxCBSW.2.2.1) S0 S) (I0 : bx_Inv rxL S) (hinv : rxIBSW_19 S0 ws S test cmp) (l8 : 0 ≤ test) (u8 : test ≤ 1) (l9 : 0 ≤ cmp) (u9 : cmp ≤ 0) (l10 : 3 ≤ x10) (u10 : x10 ≤ 3) (l11 : 61 ≤ x11) (u11 : x11 ≤ 61) (f0 : x11 ≠ 62) (f1 : x11 ≠ 60) (e1 : S 480 11 = x10) (e0 : S 480 12 = x11) : (True) ∧ (True) ∧ rxIBSW_20 S0 ws S test 27 1 ∧ rxmBSW_20 S0 ws S test 27 1 < rxmBSW_19 S0 ws S test cmp := by
  obtain ⟨hI, hx⟩ := hinv
  obtain ⟨a_, b_, c_, d_⟩ := rxcBS_19_2 hP hin I0 hI l8 u8 l9 u9 l10 u10 l11 u11 f0 f1 e1 e0
  exact ⟨a_, b_, ⟨c_, (by
    have e := hI.1
    subst e
    refine ⟨hx.1, ?_, fun hD => Or.inl ⟨rfl, (rzCp_iff hD).mpr ⟨by omega, by omega⟩⟩⟩
    rcases hx.2 with q | q
    · omega
    · exact q.2)⟩, d_⟩
theorem rxgBSW_19_2 {X : (Nat → Int → Int) → Prop} {S0 : Nat → Int → Int} {ws : List Int} (hP : rxPBSW S0 ws) : bx_obC rxL X S0 rxCBSW.2.2.1 (rxIBSW S0 ws) (rxmBSW S0 ws) 19 rxzBSW_19 rxoBSW_19_2 := by
  intro S S_p r r_p hinv hX hin hsm_ hseg
  obtain ⟨I0, I1, h0_, hr_, b_, f_, d_⟩ := bx_cl (evs := [(0, (0, 480), (0, 12), .inr (1, (11, 0))), (0, (0, 480), (0, 11), .inr (0, (10, 0)))]) (fvs := [(3, (11, 0), (0, 62), (0, 0)), (3, (11, 0), (0, 60), (0, 0))]) hseg (by decide +kernel) (by decide +kernel)
  have hinv : rxIBSW_19 S0 ws S (r 8) (r 9) := hinv
  rw [← hr_ 8 (by decide), ← hr_ 9 (by decide)] at hinv
  obtain ⟨⟨l8, u8⟩, ⟨l9, u9⟩, ⟨l10, u10⟩, ⟨l11, u11⟩, -⟩ := b_
  obtain ⟨f0, f1, -⟩ := f_
  obtain ⟨e0, ⟨e1, w_⟩⟩ := d_
  subst w_
  have g := rxcBSW_19_2 hP hin I0 hinv l8 u8 l9 u9 l10 u10 l11 u11 f0 f1 e1 e0
  refine ⟨bx_narP_ok (l := []) g.1, bx_nfP_ok h0_ (fvs := []) (by decide +kernel) g.2.1, ?_, ?_⟩
  · show rxIBSW_20 S0 ws S_p (bx_val [(0, 0), (0, 0), (0, 0), (0, 0), (0, 0), (0, 0), (0, 0), (0, 0), (8, 0), (0, 27), (0, 1)] r_p 8) (bx_val [(0, 0), (0, 0), (0, 0), (0, 0), (0, 0), (0, 0), (0, 0), (0, 0), (8, 0), (0, 27), (0, 1)] r_p 9) (bx_val [(0, 0), (0, 0), (0, 0), (0, 0), (0, 0), (0, 0), (0, 0), (0, 0), (8, 0), (0, 27), (0, 1)] r_p 10)
    rw [bx_val_x (n := 8) (e := (8, 0)) h0_ rfl, bx_val_x (n := 9) (e := (0, 27)) h0_ rfl, bx_val_x (n := 10) (e := (0, 1)) h0_ rfl]
    exact g.2.2.1
  · show rxmBSW_20 S0 ws S_p (bx_val [(0, 0), (0, 0), (0, 0), (0, 0), (0, 0), (0, 0), (0, 0), (0, 0), (8, 0), (0, 27), (0, 1)] r_p 8) (bx_val [(0, 0), (0, 0), (0, 0), (0, 0), (0, 0), (0, 0), (0, 0), (0, 0), (8, 0), (0, 27), (0, 1)] r_p 9) (bx_val [(0, 0), (0, 0), (0, 0), (0, 0), (0, 0), (0, 0), (0, 0), (0, 0), (8, 0), (0, 27), (0, 1)] r_p 10) < rxmBSW_19 S0 ws S_p (r 8) (r 9)
    rw [bx_val_x (n := 8) (e := (8, 0)) h0_ rfl, bx_val_x (n := 9) (e := (0, 27)) h0_ rfl, bx_val_x (n := 10) (e := (0, 1)) h0_ rfl, ← hr_ 8 (by decide), ← hr_ 9 (by decide)]
    exact g.2.2.2
theorem rxcBSW_19_3 {S0 : Nat → Int → Int} {ws : List Int} {S : Nat → Int → Int} {test cmp x10 x11 : Int} (hP : rxPBSW S0 ws) (hin : bx_same rxL (bx_mdl rxCBSW.2.2.1) S0 S) (I0 : bx_Inv rxL S) (hinv : rxIBSW_19 S0 ws S test cmp) (l8 : 0 ≤ test) (u8 : test ≤ 1) (l9 : 0 ≤ cmp) (u9 : cmp ≤ 0) (l10 : 3 ≤ x10) (u10 : x10 ≤ 3) (l11 : 62 ≤ x11) (u11 : x11 ≤ 62) (f0 : x11 ≠ 60) (e1 : S 480 11 = x10) (e0 : S 480 12 = x11) : (True) ∧ (True) ∧ rxIBSW_20 S0 ws S test 26 1 ∧ rxmBSW_20 S0 ws S test 26 1 < rxmBSW_19 S0 ws S test cmp := by
  obtain ⟨hI, hx⟩ := hinv
  obtain ⟨a_, b_, c_, d_⟩ := rxcBS_19_3 hP hin I0 hI l8 u8 l9 u9 l10 u10 l11 u11 f0 e1 e0
  exact ⟨a_, b_, ⟨c_, (by
    have e := hI.1
    subst e
    refine ⟨hx.1, ?_, fun hD => Or.inl ⟨rfl, (rzCp_iff hD).mpr ⟨by omega, by omega⟩⟩⟩
    rcases hx.2 with q | q
    · omega
    · exact q.2)⟩, d_⟩
theorem rxgBSW_19_3 {X : (Nat → Int → Int) → Prop} {S0 : Nat → Int → Int} {ws : List Int} (hP : rxPBSW S0 ws) : bx_obC rxL X S0 rxCBSW.2.2.1 (rxIBSW S0 ws) (rxmBSW S0 ws) 19 rxzBSW_19 rxoBSW_19_3 := by
  intro S S_p r r_p hinv hX hin hsm_ hseg
  obtain ⟨I0, I1, h0_, hr_, b_, f_, d_⟩ := bx_cl (evs := [(0, (0, 480), (0, 12), .inr (1, (11, 0))), (0, (0, 480), (0, 11), .inr (0, (10, 0)))]) (fvs := [(3, (11, 0), (0, 60), (0, 0))]) hseg (by decide +kernel) (by decide +kernel)
  have hinv : rxIBSW_19 S0 ws S (r 8) (r 9) := hinv
  rw [← hr_ 8 (by decide), ← hr_ 9 (by decide)] at hinv
  obtain ⟨⟨l8, u8⟩, ⟨l9, u9⟩, ⟨l10, u10⟩, ⟨l11, u11⟩, -⟩ := b_
  obtain ⟨f0, -⟩ := f_
  obtain ⟨e0, ⟨e1, w_⟩⟩ := d_
  subst w_
  have g := rxcBSW_19_3 hP hin I0 hinv l8 u8 l9 u9 l10 u10 l11 u11 f0 e1 e0
  refine ⟨bx_narP_ok (l := []) g.1, bx_nfP_ok h0_ (fvs := []) (by decide +kernel) g.2.1, ?_, ?_⟩
  · show rxIBSW_20 S0 ws S_p (bx_val [(0, 0), (0, 0), (0, 0), (0, 0), (0, 0), (0, 0), (0, 0), (0, 0), (8, 0), (0, 26), (0, 1)] r_p 8) (bx_val [(0, 0), (0, 0), (0, 0), (0, 0), (0, 0), (0, 0), (0, 0), (0, 0), (8, 0), (0, 26), (0, 1)] r_p 9) (bx_val [(0, 0), (0, 0), (0, 0), (0, 0), (0, 0), (0, 0), (0, 0), (0, 0), (8, 0), (0, 26), (0, 1)] r_p 10)
    rw [bx_val_x (n := 8) (e := (8, 0)) h0_ rfl, bx_val_x (n := 9) (e := (0, 26)) h0_ rfl, bx_val_x (n := 10) (e := (0, 1)) h0_ rfl]
    exact g.2.2.1
  · show rxmBSW_20 S0 ws S_p (bx_val [(0, 0), (0, 0), (0, 0), (0, 0), (0, 0), (0, 0), (0, 0), (0, 0), (8, 0), (0, 26), (0, 1)] r_p 8) (bx_val [(0, 0), (0, 0), (0, 0), (0, 0), (0, 0), (0, 0), (0, 0), (0, 0), (8, 0), (0, 26), (0, 1)] r_p 9) (bx_val [(0, 0), (0, 0), (0, 0), (0, 0), (0, 0), (0, 0), (0, 0), (0, 0), (8, 0), (0, 26), (0, 1)] r_p 10) < rxmBSW_19 S0 ws S_p (r 8) (r 9)
    rw [bx_val_x (n := 8) (e := (8, 0)) h0_ rfl, bx_val_x (n := 9) (e := (0, 26)) h0_ rfl, bx_val_x (n := 10) (e := (0, 1)) h0_ rfl, ← hr_ 8 (by decide), ← hr_ 9 (by decide)]
    exact g.2.2.2
theorem rxcBSW_19_4 {S0 : Nat → Int → Int} {ws : List Int} {S : Nat → Int → Int} {test cmp x10 x11 : Int} (hP : rxPBSW S0 ws) (hin : bx_same rxL (bx_mdl rxCBSW.2.2.1) S0 S) (I0 : bx_Inv rxL S) (hinv : rxIBSW_19 S0 ws S test cmp) (l8 : 0 ≤ test) (u8 : test ≤ 1) (l9 : 0 ≤ cmp) (u9 : cmp ≤ 0) (l10 : 3 ≤ x10) (u10 : x10 ≤ 3) (l11 : 60 ≤ x11) (u11 : x11 ≤ 60) (e1 : S 480 11 = x10) (e0 : S 480 12 = x11) : (True) ∧ (True) ∧ rxIBSW_20 S0 ws S test 25 1 ∧ rxmBSW_20 S0 ws S test 25 1 < rxmBSW_19 S0 ws S test cmp := by
  obtain ⟨hI, hx⟩ := hinv
  obtain ⟨a_, b_, c_, d_⟩ := rxcBS_19_4 hP hin I0 hI l8 u8 l9 u9 l10 u10 l11 u11 e1 e0
  exact ⟨a_, b_, ⟨c_, (by
    have e := hI.1
    subst e
    refine ⟨hx.1, ?_, fun hD => Or.inl ⟨rfl, (rzCp_iff hD).mpr ⟨by omega, by omega⟩⟩⟩
    rcases hx.2 with q | q
    · omega
    · exact q.2)⟩, d_⟩
theorem rxgBSW_19_4 {X : (Nat → Int → Int) → Prop} {S0 : Nat → Int → Int} {ws : List Int} (hP : rxPBSW S0 ws) : bx_obC rxL X S0 rxCBSW.2.2.1 (rxIBSW S0 ws) (rxmBSW S0 ws) 19 rxzBSW_19 rxoBSW_19_4 := by
  intro S S_p r r_p hinv hX hin hsm_ hseg
  obtain ⟨I0, I1, h0_, hr_, b_, f_, d_⟩ := bx_cl (evs := [(0, (0, 480), (0, 12), .inr (1, (11, 0))), (0, (0, 480), (0, 11), .inr (0, (10, 0)))]) (fvs := []) hseg (by decide +kernel) (by decide +kernel)
  have hinv : rxIBSW_19 S0 ws S (r 8) (r 9) := hinv
  rw [← hr_ 8 (by decide), ← hr_ 9 (by decide)] at hinv
  obtain ⟨⟨l8, u8⟩, ⟨l9, u9⟩, ⟨l10, u10⟩, ⟨l11, u11⟩, -⟩ := b_
  obtain ⟨e0, ⟨e1, w_⟩⟩ := d_
  subst w_
  have g := rxcBSW_19_4 hP hin I0 hinv l8 u8 l9 u9 l10 u10 l11 u11 e1 e0
  refine ⟨bx_narP_ok (l := []) g.1, bx_nfP_ok h0_ (fvs := []) (by decide +kernel) g.2.1, ?_, ?_⟩
  · show rxIBSW_20 S0 ws S_p (bx_val [(0, 0), (0, 0), (0, 0), (0, 0), (0, 0), (0, 0), (0, 0), (0, 0), (8, 0), (0, 25), (0, 1)] r_p 8) (bx_val [(0, 0), (0, 0), (0, 0), (0, 0), (0, 0), (0, 0), (0, 0), (0, 0), (8, 0), (0, 25), (0, 1)] r_p 9) (bx_val [(0, 0), (0, 0), (0, 0), (0, 0), (0, 0), (0, 0), (0, 0), (0, 0), (8, 0), (0, 25), (0, 1)] r_p 10)
    rw [bx_val_x (n := 8) (e := (8, 0)) h0_ rfl, bx_val_x (n := 9) (e := (0, 25)) h0_ rfl, bx_val_x (n := 10) (e := (0, 1)) h0_ rfl]
    exact g.2.2.1
  · show rxmBSW_20 S0 ws S_p (bx_val [(0, 0), (0, 0), (0, 0), (0, 0), (0, 0), (0, 0), (0, 0), (0, 0), (8, 0), (0, 25), (0, 1)] r_p 8) (bx_val [(0, 0), (0, 0), (0, 0), (0, 0), (0, 0), (0, 0), (0, 0), (0, 0), (8, 0), (0, 25), (0, 1)] r_p 9) (bx_val [(0, 0), (0, 0), (0, 0), (0, 0), (0, 0), (0, 0), (0, 0), (0, 0), (8, 0), (0, 25), (0, 1)] r_p 10) < rxmBSW_19 S0 ws S_p (r 8) (r 9)
    rw [bx_val_x (n := 8) (e := (8, 0)) h0_ rfl, bx_val_x (n := 9) (e := (0, 25)) h0_ rfl, bx_val_x (n := 10) (e := (0, 1)) h0_ rfl, ← hr_ 8 (by decide), ← hr_ 9 (by decide)]
    exact g.2.2.2
theorem rxdBSW_19_0 {S0 : Nat → Int → Int} {ws : List Int} {S : Nat → Int → Int} {test cmp : Int} (hP : rxPBSW S0 ws) (hin : bx_same rxL (bx_mdl rxCBSW.2.2.1) S0 S) (hin2 : bx_same rxL (bx_mdl rxCBSW.2.2.1) S S) (I0 : bx_Inv rxL S) (I1 : bx_Inv rxL S) (hinv : rxIBSW_19 S0 ws S test cmp) (l8 : 0 ≤ test) (u8 : test ≤ 1) (l9 : 1 ≤ cmp) (u9 : cmp ≤ 1) (f0 : cmp ≠ 0) : (True) ∧ rxPSBSW S0 ws S (some 2) := by
  obtain ⟨hI, hx⟩ := hinv
  obtain ⟨a_, c_⟩ := rxdBS_19_0 hP hin hin2 I0 I1 hI l8 u8 l9 u9 f0
  exact ⟨a_, c_, (fun c hD tst s rest hw r hc => by
    have e := hI.1
    subst e
    obtain ⟨⟨hw1, ns, its, hi, i1, i2⟩, hcm⟩ := hx
    have ht : test = tst := Option.some.inj (congrArg (fun l : List Int => l[1]?) (hw1.symm.trans hw))
    have q := rzBr_in r.2.2 r.1 hi
    rcases hcm with v | v
    · exact Or.inr (Or.inl ⟨rfl, rfl, (rzBr_cm r.2.2 r.1 (by omega)).mp v.2, ns hD⟩)
    · omega)⟩
theorem rxfBSW_19_0 {X : (Nat → Int → Int) → Prop} {S0 : Nat → Int → Int} {ws : List Int} (hP : rxPBSW S0 ws) : bx_obE rxL X S0 rxCBSW.2.2.1 (rxIBSW S0 ws) (rxPSBSW S0 ws) 19 rxzBSW_19 rxeBSW_19_0 := by
  intro S S_p r r_p hinv hX hin hsm_ hseg
  obtain ⟨I0, I1, h0_, hr_, b_, f_, d_⟩ := bx_cl (evs := []) (fvs := [(3, (9, 0), (0, 0), (0, 0))]) hseg (by decide +kernel) (by decide +kernel)
  have hinv : rxIBSW_19 S0 ws S (r 8) (r 9) := hinv
  rw [← hr_ 8 (by decide), ← hr_ 9 (by decide)] at hinv
  obtain ⟨⟨l8, u8⟩, ⟨l9, u9⟩, -⟩ := b_
  obtain ⟨f0, -⟩ := f_
  have w_ := d_
  subst w_
  have g := rxdBSW_19_0 hP hin hsm_ I0 I1 hinv l8 u8 l9 u9 f0
  refine ⟨bx_narP_ok (l := []) g.1, ?_⟩
  show rxPSBSW S0 ws S_p (some (bx_num r_p (.inr (0, (0, 2)))))
  rw [bx_xv_ok h0_]
  exact g.2
theorem rxcBSW_21_0 {S0 : Nat → Int → Int} {ws : List Int} {S : Nat → Int → Int} {test op is x11 : Int} (hP : rxPBSW S0 ws) (hin : bx_same rxL (bx_mdl rxCBSW.2.2.1) S0 S) (I0 : bx_Inv rxL S) (hinv : rxIBSW_21 S0 ws S test op is) (l8 : 0 ≤ test) (u8 : test ≤ 1) (l9 : 25 ≤ op) (u9 : op ≤ 27) (l10 : 0 ≤ is) (u10 : is ≤ 1) (l11 : 0 ≤ x11) (u11 : x11 ≤ 0) (e0 : S 480 14 = x11) : (True) ∧ (True) ∧ rxIBSW_22 S0 ws S test op ∧ rxmBSW_22 S0 ws S test op < rxmBSW_21 S0 ws S test op is := by
  obtain ⟨hI, hx⟩ := hinv
  obtain ⟨a_, b_, c_, d_⟩ := rxcBS_21_0 hP hin I0 hI l8 u8 l9 u9 l10 u10 l11 u11 e0
  exact ⟨a_, b_, ⟨c_, ⟨hx.1, hx.2.1, fun hD => (hx.2.2 hD).1 (by omega)⟩⟩, d_⟩
theorem rxgBSW_21_0 {X : (Nat → Int → Int) → Prop} {S0 : Nat → Int → Int} {ws : List Int} (hP : rxPBSW S0 ws) : bx_obC rxL X S0 rxCBSW.2.2.1 (rxIBSW S0 ws) (rxmBSW S0 ws) 21 rxzBSW_21 rxoBSW_21_0 := by
  intro S S_p r r_p hinv hX hin hsm_ hseg
  obtain ⟨I0, I1, h0_, hr_, b_, f_, d_⟩ := bx_cl (evs := [(0, (0, 480), (0, 14), .inr (0, (11, 0)))]) (fvs := []) hseg (by decide +kernel) (by decide +kernel)
  have hinv : rxIBSW_21 S0 ws S (r 8) (r 9) (r 10) := hinv
  rw [← hr_ 8 (by decide), ← hr_ 9 (by decide), ← hr_ 10 (by decide)] at hinv
  obtain ⟨⟨l8, u8⟩, ⟨l9, u9⟩, ⟨l10, u10⟩, ⟨l11, u11⟩, -⟩ := b_
  obtain ⟨e0, w_⟩ := d_
  subst w_
  have g := rxcBSW_21_0 hP hin I0 hinv l8 u8 l9 u9 l10 u10 l11 u11 e0
  refine ⟨bx_narP_ok (l := []) g.1, bx_nfP_ok h0_ (fvs := []) (by decide +kernel) g.2.1, ?_, ?_⟩
  · show rxIBSW_22 S0 ws S_p (bx_val [(0, 0), (0, 0), (0, 0), (0, 0), (0, 0), (0, 0), (0, 0), (0, 0), (8, 0), (9, 0)] r_p 8) (bx_val [(0, 0), (0, 0), (0, 0), (0, 0), (0, 0), (0, 0), (0, 0), (0, 0), (8, 0), (9, 0)] r_p 9)
    rw [bx_val_x (n := 8) (e := (8, 0)) h0_ rfl, bx_val_x (n := 9) (e := (9, 0)) h0_ rfl]
    exact g.2.2.1
  · show rxmBSW_22 S0 ws S_p (bx_val [(0, 0), (0, 0), (0, 0), (0, 0), (0, 0), (0, 0), (0, 0), (0, 0), (8, 0), (9, 0)] r_p 8) (bx_val [(0, 0), (0, 0), (0, 0), (0, 0), (0, 0), (0, 0), (0, 0), (0, 0), (8, 0), (9, 0)] r_p 9) < rxmBSW_21 S0 ws S_p (r 8) (r 9) (r 10)
    rw [bx_val_x (n := 8) (e := (8, 0)) h0_ rfl, bx_val_x (n := 9) (e := (9, 0)) h0_ rfl, ← hr_ 8 (by decide), ← hr_ 9 (by decide), ← hr_ 10 (by decide)]
    exact g.2.2.2
theorem rxdBSW_21_0 {S0 : Nat → Int → Int} {ws : List Int} {S : Nat → Int → Int} {test op is x11 : Int} (hP : rxPBSW S0 ws) (hin : bx_same rxL (bx_mdl rxCBSW.2.2.1) S0 S) (hin2 : bx_same rxL (bx_mdl rxCBSW.2.2.1) S S) (I0 : bx_Inv rxL S) (I1 : bx_Inv rxL S) (hinv : rxIBSW_21 S0 ws S test op is) (l8 : 0 ≤ test) (u8 : test ≤ 1) (l9 : 25 ≤ op) (u9 : op ≤ 27) (l10 : 0 ≤ is) (u10 : is ≤ 1) (l11 : 1 ≤ x11) (u11 : x11 ≤ 1) (f0 : x11 ≠ 0) (e0 : S 480 14 = x11) : (True) ∧ rxPSBSW S0 ws S (some 1) := by
  obtain ⟨hI, hx⟩ := hinv
  obtain ⟨a_, c_⟩ := rxdBS_21_0 hP hin hin2 I0 I1 hI l8 u8 l9 u9 l10 u10 l11 u11 f0 e0
  exact ⟨a_, c_, (fun c hD tst s rest hw r hc => by
    obtain ⟨⟨hw1, ns, its, hi, i1, i2⟩, hcm, hh⟩ := hx
    have ht : test = tst := Option.some.inj (congrArg (fun l : List Int => l[1]?) (hw1.symm.trans hw))
    have q := rzBr_in r.2.2 r.1 hi
    have hs : s = 2 := by
      by_cases h3 : s = 3
      · exact absurd ((rzBr_cm r.2.2 r.1 (Or.inr h3)).mpr h3) hcm
      · omega
    subst hs
    have g := (hh hD).2 (by omega)
    exact Or.inl (rzTn_cmn (ns hD) g.1 (by omega) g.2))⟩
theorem rxfBSW_21_0 {X : (Nat → Int → Int) → Prop} {S0 : Nat → Int → Int} {ws : List Int} (hP : rxPBSW S0 ws) : bx_obE rxL X S0 rxCBSW.2.2.1 (rxIBSW S0 ws) (rxPSBSW S0 ws) 21 rxzBSW_21 rxeBSW_21_0 := by
  intro S S_p r r_p hinv hX hin hsm_ hseg
  obtain ⟨I0, I1, h0_, hr_, b_, f_, d_⟩ := bx_cl (evs := [(0, (0, 480), (0, 14), .inr (0, (11, 0)))]) (fvs := [(3, (11, 0), (0, 0), (0, 0))]) hseg (by decide +kernel) (by decide +kernel)
  have hinv : rxIBSW_21 S0 ws S (r 8) (r 9) (r 10) := hinv
  rw [← hr_ 8 (by decide), ← hr_ 9 (by decide), ← hr_ 10 (by decide)] at hinv
  obtain ⟨⟨l8, u8⟩, ⟨l9, u9⟩, ⟨l10, u10⟩, ⟨l11, u11⟩, -⟩ := b_
  obtain ⟨f0, -⟩ := f_
  obtain ⟨e0, w_⟩ := d_
  subst w_
  have g := rxdBSW_21_0 hP hin hsm_ I0 I1 hinv l8 u8 l9 u9 l10 u10 l11 u11 f0 e0
  refine ⟨bx_narP_ok (l := []) g.1, ?_⟩
  show rxPSBSW S0 ws S_p (some (bx_num r_p (.inr (0, (0, 1)))))
  rw [bx_xv_ok h0_]
  exact g.2
theorem rxcBSW_23_0 {S0 : Nat → Int → Int} {ws : List Int} {S : Nat → Int → Int} {test op : Int} (hP : rxPBSW S0 ws) (hin : bx_same rxL (bx_mdl rxCBSW.2.2.1) S0 S) (I0 : bx_Inv rxL S) (hinv : rxIBSW_23 S0 ws S test op) (l8 : 0 ≤ test) (u8 : test ≤ 1) (l9 : 25 ≤ op) (u9 : op ≤ 27) : (True) ∧ (True) ∧ rxIBSW_24 S0 ws S test op op ∧ rxmBSW_24 S0 ws S test op op < rxmBSW_23 S0 ws S test op := by
  obtain ⟨hI, hx⟩ := hinv
  obtain ⟨a_, b_, c_, d_⟩ := rxcBS_23_0 hP hin I0 hI l8 u8 l9 u9
  exact ⟨a_, b_, ⟨c_, hx⟩, d_⟩
theorem rxgBSW_23_0 {X : (Nat → Int → Int) → Prop} {S0 : Nat → Int → Int} {ws : List Int} (hP : rxPBSW S0 ws) : bx_obC rxL X S0 rxCBSW.2.2.1 (rxIBSW S0 ws) (rxmBSW S0 ws) 23 rxzBSW_23 rxoBSW_23_0 := by
  intro S S_p r r_p hinv hX hin hsm_ hseg
  obtain ⟨I0, I1, h0_, hr_, b_, f_, d_⟩ := bx_cl (evs := []) (fvs := []) hseg (by decide +kernel) (by decide +kernel)
  have hinv : rxIBSW_23 S0 ws S (r 8) (r 9) := hinv
  rw [← hr_ 8 (by decide), ← hr_ 9 (by decide)] at hinv
  obtain ⟨⟨l8, u8⟩, ⟨l9, u9⟩, -⟩ := b_
  have w_ := d_
  subst w_
  have g := rxcBSW_23_0 hP hin I0 hinv l8 u8 l9 u9
  refine ⟨bx_narP_ok (l := []) g.1, bx_nfP_ok h0_ (fvs := []) (by decide +kernel) g.2.1, ?_, ?_⟩
  · show rxIBSW_24 S0 ws S_p (bx_val [(0, 0), (0, 0), (0, 0), (0, 0), (0, 0), (0, 0), (0, 0), (0, 0), (8, 0), (9, 0), (9, 0)] r_p 8) (bx_val [(0, 0), (0, 0), (0, 0), (0, 0), (0, 0), (0, 0), (0, 0), (0, 0), (8, 0), (9, 0), (9, 0)] r_p 9) (bx_val [(0, 0), (0, 0), (0, 0), (0, 0), (0, 0), (0, 0), (0, 0), (0, 0), (8, 0), (9, 0), (9, 0)] r_p 10)
    rw [bx_val_x (n := 8) (e := (8, 0)) h0_ rfl, bx_val_x (n := 9) (e := (9, 0)) h0_ rfl, bx_val_x (n := 10) (e := (9, 0)) h0_ rfl]
    exact g.2.2.1
  · show rxmBSW_24 S0 ws S_p (bx_val [(0, 0), (0, 0), (0, 0), (0, 0), (0, 0), (0, 0), (0, 0), (0, 0), (8, 0), (9, 0), (9, 0)] r_p 8) (bx_val [(0, 0), (0, 0), (0, 0), (0, 0), (0, 0), (0, 0), (0, 0), (0, 0), (8, 0), (9, 0), (9, 0)] r_p 9) (bx_val [(0, 0), (0, 0), (0, 0), (0, 0), (0, 0), (0, 0), (0, 0), (0, 0), (8, 0), (9, 0), (9, 0)] r_p 10) < rxmBSW_23 S0 ws S_p (r 8) (r 9)
    rw [bx_val_x (n := 8) (e := (8, 0)) h0_ rfl, bx_val_x (n := 9) (e := (9, 0)) h0_ rfl, bx_val_x (n := 10) (e := (9, 0)) h0_ rfl, ← hr_ 8 (by decide), ← hr_ 9 (by decide)]
    exact g.2.2.2
theorem rxdBSW_25_0 {S0 : Nat → Int → Int} {ws : List Int} {S : Nat → Int → Int} {test op op2 : Int} (hP : rxPBSW S0 ws) (hin : bx_same rxL (bx_mdl rxCBSW.2.2.1) S0 S) (hin2 : bx_same rxL (bx_mdl rxCBSW.2.2.1) S S) (I0 : bx_Inv rxL S) (I1 : bx_Inv rxL S) (hinv : rxIBSW_25 S0 ws S test op op2) (l8 : 0 ≤ test) (u8 : test ≤ 1) (l9 : 25 ≤ op) (u9 : op ≤ 27) (l10 : 25 ≤ op2) (u10 : op2 ≤ 27) : (True) ∧ rxPSBSW S0 ws S (some 1) := by
  obtain ⟨hI, hx⟩ := hinv
  obtain ⟨a_, c_⟩ := rxdBS_25_0 hP hin hin2 I0 I1 hI l8 u8 l9 u9 l10 u10
  exact ⟨a_, c_, hx⟩
theorem rxfBSW_25_0 {X : (Nat → Int → Int) → Prop} {S0 : Nat → Int → Int} {ws : List Int} (hP : rxPBSW S0 ws) : bx_obE rxL X S0 rxCBSW.2.2.1 (rxIBSW S0 ws) (rxPSBSW S0 ws) 25 rxzBSW_25 rxeBSW_25_0 := by
  intro S S_p r r_p hinv hX hin hsm_ hseg
  obtain ⟨I0, I1, h0_, hr_, b_, f_, d_⟩ := bx_cl (evs := []) (fvs := []) hseg (by decide +kernel) (by decide +kernel)
  have hinv : rxIBSW_25 S0 ws S (r 8) (r 9) (r 10) := hinv
  rw [← hr_ 8 (by decide), ← hr_ 9 (by decide), ← hr_ 10 (by decide)] at hinv
  obtain ⟨⟨l8, u8⟩, ⟨l9, u9⟩, ⟨l10, u10⟩, -⟩ := b_
  have w_ := d_
  subst w_
  have g := rxdBSW_25_0 hP hin hsm_ I0 I1 hinv l8 u8 l9 u9 l10 u10
  refine ⟨bx_narP_ok (l := []) g.1, ?_⟩
  show rxPSBSW S0 ws S_p (some (bx_num r_p (.inr (0, (0, 1)))))
  rw [bx_xv_ok h0_]
  exact g.2
theorem rxgCBSW {X : (Nat → Int → Int) → Prop} {S0 : Nat → Int → Int} {ws : List Int} (hP : rxPBSW S0 ws) : bx_allI (fun i q => rxUBSW q = true ∨ bx_allP (fun o => bx_obC rxL X S0 rxCBSW.2.2.1 (rxIBSW S0 ws) (rxmBSW S0 ws) i q.1 o) q.2.1) 0 rxYBSW := ⟨Or.inr ⟨rxgBSW_0_0 hP, rxgBSW_0_1 hP, rxgBSW_0_2 hP, rxgBSW_0_3 hP, rxgBSW_0_4 hP, rxgBSW_0_5 hP, rxgBSW_0_6 hP, trivial⟩, Or.inr ⟨rxgBSW_1_0 hP, rxgBSW_1_1 hP, trivial⟩, Or.inl rfl, Or.inl rfl, Or.inr ⟨rxgBSW_4_0 hP, trivial⟩, Or.inl rfl, Or.inr ⟨rxgBSW_6_0 hP, trivial⟩, Or.inl rfl, Or.inr trivial, Or.inl rfl, Or.inr ⟨rxgBSW_10_0 hP, rxgBSW_10_1 hP, rxgBSW_10_2 hP, trivial⟩, Or.inl rfl, Or.inl rfl, Or.inr ⟨rxgBSW_13_0 hP, trivial⟩, Or.inl rfl, Or.inr ⟨rxgBSW_15_0 hP, trivial⟩, Or.inr ⟨rxgBSW_16_0 hP, trivial⟩, Or.inr trivial, Or.inl rfl, Or.inr ⟨rxgBSW_19_0 hP, rxgBSW_19_1 hP, rxgBSW_19_2 hP, rxgBSW_19_3 hP, rxgBSW_19_4 hP, trivial⟩, Or.inl rfl, Or.inr ⟨rxgBSW_21_0 hP, trivial⟩, Or.inl rfl, Or.inr ⟨rxgBSW_23_0 hP, trivial⟩, Or.inl rfl, Or.inr trivial, trivial⟩
theorem rxgEBSW {X : (Nat → Int → Int) → Prop} {S0 : Nat → Int → Int} {ws : List Int} (hP : rxPBSW S0 ws) : bx_allI (fun i q => rxUBSW q = true ∨ bx_allP (fun E => bx_obE rxL X S0 rxCBSW.2.2.1 (rxIBSW S0 ws) (rxPSBSW S0 ws) i q.1 E) q.2.2) 0 rxYBSW := ⟨Or.inr trivial, Or.inr trivial, Or.inl rfl, Or.inl rfl, Or.inr trivial, Or.inl rfl, Or.inr trivial, Or.inl rfl, Or.inr ⟨rxfBSW_8_0 hP, trivial⟩, Or.inl rfl, Or.inr ⟨rxfBSW_10_0 hP, trivial⟩, Or.inl rfl, Or.inl rfl, Or.inr ⟨rxfBSW_13_0 hP, trivial⟩, Or.inl rfl, Or.inr trivial, Or.inr trivial, Or.inr ⟨rxfBSW_17_0 hP, trivial⟩, Or.inl rfl, Or.inr ⟨rxfBSW_19_0 hP, trivial⟩, Or.inl rfl, Or.inr ⟨rxfBSW_21_0 hP, trivial⟩, Or.inl rfl, Or.inr trivial, Or.inl rfl, Or.inr ⟨rxfBSW_25_0 hP, trivial⟩, trivial⟩
theorem rxuBSW {PX : State → Prop} {Dg : va_G} {A : Nat → Prop} {ad xa : Nat → Nat} {l : Launch} {X : (Nat → Int → Int) → Prop} (hPX : rx_PXOK rxNW A PX) (hX : ∀ S S1 : Nat → Int → Int, X S → bx_same rxL (bx_mdl rxCBSW.2.2.1) S S1 → X S1) (hQBI : bx_ConP rxG rxNW rxAO PX Dg rxL X vwCl A ad l rxM24 rxCBI rxPBI rxPSBI) (hQST : bx_ConP rxG rxNW rxAO PX Dg rxL X vwCl A ad l rxM275 rxCST rxPST rxPSST) (hQPU : bx_ConP rxG rxNW rxAO PX Dg rxL X vwCl A ad l rxM268 rxCPU rxPPU rxPSPU) (hQNXX : bx_ConP rxG rxNW rxAO PX Dg rxL X vwCl A ad l rxM264 rxCNXX rxPNXX rxPSNXX) (hQIN : bx_ConP rxG rxNW rxAO PX Dg rxL X vwCl A ad l rxM276 rxCIN rxPIN rxPSIN) (hQISW : bx_ConP rxG rxNW rxAO PX Dg rxL X vwCl A ad l rxM269 rxCISW rxPISW rxPSISW) (hQMUW : bx_ConP rxG rxNW rxAO PX Dg rxL X vwCl A ad l rxM265 rxCMUW rxPMUW rxPSMUW) (hQICW : bx_ConP rxG rxNW rxAO PX Dg rxL X vwCl A ad l rxM277 rxCICW rxPICW rxPSICW) {S0 : Nat → Int → Int} {ws : List Int} (hP : rxPBSW S0 ws) : ∀ (i : Nat) (q : bx_HE), rxYBSW[i]? = some q → rxUBSW q = true → ∀ {p : Program} {e : Env} {R : Room} {s : State} {m : MethodId} {args : Array Value} {below : List Frame} {meth : Method} {c : Code} {Q : State → Prop} {H0 : Heap}, rx_Fr rxG rxNW rxAO PX p s m args meth c rxM279 → (∀ q, H0.size ≤ q → A q) → H0 = s.heap → rxM279.2.2.2.2.2.2.1 ≤ R.cells → rxM279.2.2.2.2.2.2.2 ≤ R.slots → rxCBSW.2.2.2.1 ≤ R.frames → rxCBSW.2.2.2.1 * 40 ≤ R.locals → bx_Step p l e R s m args below meth c Q Dg rxL X vwCl A xa H0 ad rxM279 rxYBSW (rxIBSW S0 ws) (rxmBSW S0 ws) S0 rxCBSW.2.2.1 i q := by
  intro i q hq hus p e R s m args below meth c Q H0 hF hA hH0 hmc hms hd hdl
  match i, hq with
  | 0, hq =>
    cases hq
    exact absurd (show false = true from hus) Bool.false_ne_true
  | 1, hq =>
    cases hq
    exact absurd (show false = true from hus) Bool.false_ne_true
  | 2, hq =>
    cases hq
    exact rx_stepC (ins := .invokestatic 294) (len := 3) (i_p := 3) (M_p := rxM24) (d := rxCBSW.2.2.2.1) (as := [.inr (0, (10, 0))]) (t := [.inr (3, (0, 480))]) (ct := rxCBI) hPX hF rfl hA hH0 hmc hms hd hdl (by decide +kernel) rfl rfl (by decide +kernel) (by decide +kernel) hQBI (by decide +kernel) rfl (Or.inr ⟨_, _, _, 1, rfl, rfl, by omega, rfl, rfl, rfl⟩) (rxsBSW_2 hP)
  | 3, hq =>
    cases hq
    exact rx_stepC (ins := .invokevirtual 347) (len := 3) (i_p := 4) (M_p := rxM275) (d := rxCBSW.2.2.2.1) (as := [.inr (3, (0, 480)), .inr (0, (11, 0))]) (t := []) (ct := rxCST) hPX hF rfl hA hH0 hmc hms hd hdl (by decide +kernel) rfl rfl (by decide +kernel) (by decide +kernel) hQST (by decide +kernel) rfl (Or.inl ⟨rfl, rfl, rfl⟩) (rxsBSW_3 hP)
  | 4, hq =>
    cases hq
    exact absurd (show false = true from hus) Bool.false_ne_true
  | 5, hq =>
    cases hq
    exact rx_stepC (ins := .invokevirtual 314) (len := 3) (i_p := 6) (M_p := rxM268) (d := rxCBSW.2.2.2.1) (as := [.inr (3, (0, 480)), .inr (0, (10, 0)), .inr (0, (0, 0))]) (t := []) (ct := rxCPU) hPX hF rfl hA hH0 hmc hms hd hdl (by decide +kernel) rfl rfl (by decide +kernel) (by decide +kernel) hQPU (by decide +kernel) rfl (Or.inl ⟨rfl, rfl, rfl⟩) (rxsBSW_5 hP)
  | 6, hq =>
    cases hq
    exact absurd (show false = true from hus) Bool.false_ne_true
  | 7, hq =>
    cases hq
    exact rx_stepC (ins := .invokevirtual 253) (len := 3) (i_p := 8) (M_p := rxM264) (d := rxCBSW.2.2.2.1) (as := [.inr (3, (0, 480))]) (t := []) (ct := rxCNXX) hPX hF rfl hA hH0 hmc hms hd hdl (by decide +kernel) rfl rfl (by decide +kernel) (by decide +kernel) hQNXX (by decide +kernel) rfl (Or.inl ⟨rfl, rfl, rfl⟩) (rxsBSW_7 hP)
  | 8, hq =>
    cases hq
    exact absurd (show false = true from hus) Bool.false_ne_true
  | 9, hq =>
    cases hq
    exact rx_stepC (ins := .invokevirtual 350) (len := 3) (i_p := 10) (M_p := rxM276) (d := rxCBSW.2.2.2.1) (as := [.inr (3, (0, 480))]) (t := []) (ct := rxCIN) hPX hF rfl hA hH0 hmc hms hd hdl (by decide +kernel) rfl rfl (by decide +kernel) (by decide +kernel) hQIN (by decide +kernel) rfl (Or.inr ⟨_, _, _, 1, rfl, rfl, by omega, rfl, rfl, rfl⟩) (rxsBSW_9 hP)
  | 10, hq =>
    cases hq
    exact absurd (show false = true from hus) Bool.false_ne_true
  | 11, hq =>
    cases hq
    exact rx_stepC (ins := .invokevirtual 320) (len := 3) (i_p := 12) (M_p := rxM269) (d := rxCBSW.2.2.2.1) (as := [.inr (3, (0, 480)), .inr (0, (0, 93))]) (t := [.inr (3, (0, 480))]) (ct := rxCISW) hPX hF rfl hA hH0 hmc hms hd hdl (by decide +kernel) rfl rfl (by decide +kernel) (by decide +kernel) hQISW (by decide +kernel) rfl (Or.inr ⟨_, _, _, 1, rfl, rfl, by omega, rfl, rfl, rfl⟩) (rxsBSW_11 hP)
  | 12, hq =>
    cases hq
    exact rx_stepC (ins := .invokevirtual 284) (len := 3) (i_p := 13) (M_p := rxM265) (d := rxCBSW.2.2.2.1) (as := [.inr (3, (0, 480)), .inr (0, (9, 0))]) (t := []) (ct := rxCMUW) hPX hF rfl hA hH0 hmc hms hd hdl (by decide +kernel) rfl rfl (by decide +kernel) (by decide +kernel) hQMUW (by decide +kernel) rfl (Or.inl ⟨rfl, rfl, rfl⟩) (rxsBSW_12 hP)
  | 13, hq =>
    cases hq
    exact absurd (show false = true from hus) Bool.false_ne_true
  | 14, hq =>
    cases hq
    exact rx_stepC (ins := .invokevirtual 347) (len := 3) (i_p := 15) (M_p := rxM275) (d := rxCBSW.2.2.2.1) (as := [.inr (3, (0, 480)), .inr (0, (0, 5))]) (t := []) (ct := rxCST) hPX hF rfl hA hH0 hmc hms hd hdl (by decide +kernel) rfl rfl (by decide +kernel) (by decide +kernel) hQST (by decide +kernel) rfl (Or.inl ⟨rfl, rfl, rfl⟩) (rxsBSW_14 hP)
  | 15, hq =>
    cases hq
    exact absurd (show false = true from hus) Bool.false_ne_true
  | 16, hq =>
    cases hq
    exact absurd (show false = true from hus) Bool.false_ne_true
  | 17, hq =>
    cases hq
    exact absurd (show false = true from hus) Bool.false_ne_true
  | 18, hq =>
    cases hq
    exact rx_stepC (ins := .invokevirtual 353) (len := 3) (i_p := 19) (M_p := rxM277) (d := rxCBSW.2.2.2.1) (as := [.inr (3, (0, 480))]) (t := []) (ct := rxCICW) hPX hF rfl hA hH0 hmc hms hd hdl (by decide +kernel) rfl rfl (by decide +kernel) (by decide +kernel) hQICW (by decide +kernel) rfl (Or.inr ⟨_, _, _, 1, rfl, rfl, by omega, rfl, rfl, rfl⟩) (rxsBSW_18 hP)
  | 19, hq =>
    cases hq
    exact absurd (show false = true from hus) Bool.false_ne_true
  | 20, hq =>
    cases hq
    exact rx_stepC (ins := .invokevirtual 284) (len := 3) (i_p := 21) (M_p := rxM265) (d := rxCBSW.2.2.2.1) (as := [.inr (3, (0, 480)), .inr (0, (10, 0))]) (t := []) (ct := rxCMUW) hPX hF rfl hA hH0 hmc hms hd hdl (by decide +kernel) rfl rfl (by decide +kernel) (by decide +kernel) hQMUW (by decide +kernel) rfl (Or.inl ⟨rfl, rfl, rfl⟩) (rxsBSW_20 hP)
  | 21, hq =>
    cases hq
    exact absurd (show false = true from hus) Bool.false_ne_true
  | 22, hq =>
    cases hq
    exact rx_stepC (ins := .invokevirtual 347) (len := 3) (i_p := 23) (M_p := rxM275) (d := rxCBSW.2.2.2.1) (as := [.inr (3, (0, 480)), .inr (0, (0, 5))]) (t := []) (ct := rxCST) hPX hF rfl hA hH0 hmc hms hd hdl (by decide +kernel) rfl rfl (by decide +kernel) (by decide +kernel) hQST (by decide +kernel) rfl (Or.inl ⟨rfl, rfl, rfl⟩) (rxsBSW_22 hP)
  | 23, hq =>
    cases hq
    exact absurd (show false = true from hus) Bool.false_ne_true
  | 24, hq =>
    cases hq
    exact rx_stepC (ins := .invokevirtual 314) (len := 3) (i_p := 25) (M_p := rxM268) (d := rxCBSW.2.2.2.1) (as := [.inr (3, (0, 480)), .inr (0, (10, 0)), .inr (0, (0, 0))]) (t := []) (ct := rxCPU) hPX hF rfl hA hH0 hmc hms hd hdl (by decide +kernel) rfl rfl (by decide +kernel) (by decide +kernel) hQPU (by decide +kernel) rfl (Or.inl ⟨rfl, rfl, rfl⟩) (rxsBSW_24 hP)
  | 25, hq =>
    cases hq
    exact absurd (show false = true from hus) Bool.false_ne_true
  | n + 26, hq => cases hq
theorem rxQBSW {PX : State → Prop} {Dg : va_G} {A : Nat → Prop} {ad xa : Nat → Nat} {l : Launch} {X : (Nat → Int → Int) → Prop} (hPX : rx_PXOK rxNW A PX) (hsl : ∀ s : State, PX s → ∀ o idx n : Nat, rxSl o idx = some n → ∃ tx : String, vk_R (rxNm o) idx tx (ad n) s)
    (hX : ∀ S S_p : Nat → Int → Int, X S → bx_same rxL (bx_mdl rxCBSW.2.2.1) S S_p → X S_p)
    (ih : ∀ (j2 : Nat) (ct2 : bx_Ct) (M2 : rx_Mt), ct2 ∈ rxCnE j2 → ct2.2.2.2.1 + 1 ≤ rxCBSW.2.2.2.1 → rxT.2.2.2.2.2 j2 = some M2 → bx_Con rxG rxNW rxAO PX Dg rxL X vwCl A ad l M2 ct2) (hQBI : bx_ConP rxG rxNW rxAO PX Dg rxL X vwCl A ad l rxM24 rxCBI rxPBI rxPSBI) (hQST : bx_ConP rxG rxNW rxAO PX Dg rxL X vwCl A ad l rxM275 rxCST rxPST rxPSST) (hQPU : bx_ConP rxG rxNW rxAO PX Dg rxL X vwCl A ad l rxM268 rxCPU rxPPU rxPSPU) (hQNXX : bx_ConP rxG rxNW rxAO PX Dg rxL X vwCl A ad l rxM264 rxCNXX rxPNXX rxPSNXX) (hQIN : bx_ConP rxG rxNW rxAO PX Dg rxL X vwCl A ad l rxM276 rxCIN rxPIN rxPSIN) (hQISW : bx_ConP rxG rxNW rxAO PX Dg rxL X vwCl A ad l rxM269 rxCISW rxPISW rxPSISW) (hQMUW : bx_ConP rxG rxNW rxAO PX Dg rxL X vwCl A ad l rxM265 rxCMUW rxPMUW rxPSMUW) (hQICW : bx_ConP rxG rxNW rxAO PX Dg rxL X vwCl A ad l rxM277 rxCICW rxPICW rxPSICW) : bx_ConP rxG rxNW rxAO PX Dg rxL X vwCl A ad l rxM279 rxCBSW rxPBSW rxPSBSW :=
  rxQof (xa := xa) (Cn := rxCnE) (f := 30000) (j := 279) (tab := rxYBSW) (us := rxUBSW) hPX hsl hX ih rfl rxYcBSW rxIBSW rxmBSW
    (fun S0 ws r I0 I ht0 ht as he he1 hX0 hI0 hP hs ha => by
      have e := he.symm.trans (show bx_ent0 rxNP rxCBSW.1 bx_I0 [] = some ([(0, 0), (0, 0), (0, 0), (0, 0), (0, 0), (0, 0), (0, 0), (0, 0), (0, 1)], [], [.inr (3, (0, 480)), .inr (0, (8, 0))]) from rfl)
      cases e
      subst ha
      have h0 : r 0 = 0 := hs.1
      show rxIBSW_0 S0 _ S0 (r 8)
      refine ⟨⟨rfl, ?_⟩, trivial⟩
      simp only [List.map_cons, List.map_nil, bx_xv_ok h0]
      rfl)
    (fun S0 ws hP => rxuBSW (xa := xa) hPX hX hQBI hQST hQPU hQNXX hQIN hQISW hQMUW hQICW hP) (fun S0 ws hP => rxgCBSW hP) (fun S0 ws hP => rxgEBSW hP)

noncomputable def rxCBTW : bx_Ct := ([(3, (1, 480, 0))], some (0, (0, 0, 4)), [(12, 9), (12, 10), (12, 11), (12, 12), (12, 13), (12, 14), (12, 18), (12, 21), (12, 24), (12, 25), (1068, 0), (1069, 0), (1070, 0), (1071, 0)], 5, [])
noncomputable def rxIBTW_0 (S0 : Nat → Int → Int) (ws : List Int) (S : Nat → Int → Int) : Prop := rxIBT_0 S0 ws S ∧ True
noncomputable def rxmBTW_0 (S0 : Nat → Int → Int) (ws : List Int) (S : Nat → Int → Int) : Nat := rxmBT_0 S0 ws S
noncomputable def rxzBTW_0 : rx_Z := ([(0, 0), (0, 0), (0, 0), (0, 0), (0, 0), (0, 0), (0, 0), (0, 0)], [], [], 0, 0, 0, [(0, .inr (3, (0, 480)))], [])
noncomputable def rxIBTW_1 (S0 : Nat → Int → Int) (ws : List Int) (S : Nat → Int → Int) (an bd : Int) : Prop := rxIBT_1 S0 ws S an bd ∧ (rzDq S0 → (rzIs (rzCut (S0 485)) (S0 480 8) rzW_and (S0 480 9) = true ∨ rzIs (rzCut (S0 485)) (S0 480 8) rzW_or (S0 480 9) = true))
noncomputable def rxmBTW_1 (S0 : Nat → Int → Int) (ws : List Int) (S : Nat → Int → Int) (an bd : Int) : Nat := rxmBT_1 S0 ws S an bd
noncomputable def rxzBTW_1 : rx_Z := ([(0, 0), (0, 0), (0, 0), (0, 0), (0, 0), (0, 0), (0, 0), (0, 0), (0, 1), (1, 2)], [], [], 0, 0, 32, [(0, .inr (3, (0, 480))), (1, .inr (0, (8, 0)))], [.inr (0, (9, 0)), .inr (3, (0, 480))])
noncomputable def rxIBTW_2 (S0 : Nat → Int → Int) (ws : List Int) (S : Nat → Int → Int) (an bd : Int) : Prop := rxIBT_2 S0 ws S an bd ∧ (S 480 14 = 0 ∧ rzKr S0 S ∧ rzTs S0 S ∧ rzSd S0 S 1 (S 480 24) 0 ∧ (rzDq S0 → (rzIs (rzCut (S0 485)) (S0 480 8) rzW_and (S0 480 9) = true ∨ rzIs (rzCut (S0 485)) (S0 480 8) rzW_or (S0 480 9) = true)))
noncomputable def rxmBTW_2 (S0 : Nat → Int → Int) (ws : List Int) (S : Nat → Int → Int) (an bd : Int) : Nat := rxmBT_2 S0 ws S an bd
noncomputable def rxzBTW_2 : rx_Z := ([(0, 0), (0, 0), (0, 0), (0, 0), (0, 0), (0, 0), (0, 0), (0, 0), (0, 1), (1, 2)], [], [], 0, 0, 35, [(0, .inr (3, (0, 480))), (1, .inr (0, (8, 0)))], [])
noncomputable def rxIBTW_3 (S0 : Nat → Int → Int) (ws : List Int) (S : Nat → Int → Int) (an op n : Int) : Prop := rxIBT_3 S0 ws S an op n ∧ (S 480 14 = 0 ∧ rzKr S0 S ∧ rzTs S0 S ∧ rzSd S0 S 1 (S 480 24) 0 ∧ (rzDq S0 → (rzIs (rzCut (S0 485)) (S0 480 8) rzW_and (S0 480 9) = true ∨ rzIs (rzCut (S0 485)) (S0 480 8) rzW_or (S0 480 9) = true)))
noncomputable def rxmBTW_3 (S0 : Nat → Int → Int) (ws : List Int) (S : Nat → Int → Int) (an op n : Int) : Nat := rxmBT_3 S0 ws S an op n
noncomputable def rxzBTW_3 : rx_Z := ([(0, 0), (0, 0), (0, 0), (0, 0), (0, 0), (0, 0), (0, 0), (0, 0), (0, 1), (29, 30), (0, 400)], [], [], 0, 0, 51, [(0, .inr (3, (0, 480))), (1, .inr (0, (8, 0)))], [.inr (0, (10, 0)), .inr (0, (9, 0)), .inr (3, (0, 480))])
noncomputable def rxIBTW_4 (S0 : Nat → Int → Int) (ws : List Int) (S : Nat → Int → Int) (an op n : Int) : Prop := rxIBT_4 S0 ws S an op n ∧ (S 480 14 = 0 ∧ rzKr S0 S ∧ rzTs S0 S ∧ (∃ m : Int, rzSd S0 S 1 m 0 ∧ S 480 24 = m + 1 ∧ S 489 m = op) ∧ (rzDq S0 → (rzIs (rzCut (S0 485)) (S0 480 8) rzW_and (S0 480 9) = true ∨ rzIs (rzCut (S0 485)) (S0 480 8) rzW_or (S0 480 9) = true)))
noncomputable def rxmBTW_4 (S0 : Nat → Int → Int) (ws : List Int) (S : Nat → Int → Int) (an op n : Int) : Nat := rxmBT_4 S0 ws S an op n
noncomputable def rxzBTW_4 : rx_Z := ([(0, 0), (0, 0), (0, 0), (0, 0), (0, 0), (0, 0), (0, 0), (0, 0), (0, 1), (29, 30), (0, 400)], [], [], 0, 0, 54, [(0, .inr (3, (0, 480))), (1, .inr (0, (8, 0)))], [])
noncomputable def rxIBTW_5 (S0 : Nat → Int → Int) (ws : List Int) (S : Nat → Int → Int) (an op : Int) : Prop := rxIBT_5 S0 ws S an op ∧ (S 480 14 = 0 ∧ rzKr S0 S ∧ rzTs S0 S ∧ (∃ m : Int, rzSd S0 S 1 m 0 ∧ S 480 24 = m + 1 ∧ (S 489 m = 29 ∨ S 489 m = 30)) ∧ (rzDq S0 → (rzIs (rzCut (S0 485)) (S0 480 8) rzW_and (S0 480 9) = true ∨ rzIs (rzCut (S0 485)) (S0 480 8) rzW_or (S0 480 9) = true)))
noncomputable def rxmBTW_5 (S0 : Nat → Int → Int) (ws : List Int) (S : Nat → Int → Int) (an op : Int) : Nat := rxmBT_5 S0 ws S an op
noncomputable def rxzBTW_5 : rx_Z := ([(0, 0), (0, 0), (0, 0), (0, 0), (0, 0), (0, 0), (0, 0), (0, 0), (0, 1), (29, 30)], [], [], 0, 0, 67, [(0, .inr (3, (0, 480))), (1, .inr (0, (8, 0)))], [.inr (0, (0, 0)), .inr (0, (9, 0)), .inr (3, (0, 480))])
noncomputable def rxIBTW_6 (S0 : Nat → Int → Int) (ws : List Int) (S : Nat → Int → Int) (an op : Int) : Prop := rxIBT_6 S0 ws S an op ∧ (S 480 14 = 0 ∧ rzKr S0 S ∧ rzTs S0 S ∧ (∃ m : Int, rzSd S0 S 1 m 0 ∧ S 480 24 = m + 1 ∧ (S 489 m = 29 ∨ S 489 m = 30)) ∧ (rzDq S0 → (rzIs (rzCut (S0 485)) (S0 480 8) rzW_and (S0 480 9) = true ∨ rzIs (rzCut (S0 485)) (S0 480 8) rzW_or (S0 480 9) = true)))
noncomputable def rxmBTW_6 (S0 : Nat → Int → Int) (ws : List Int) (S : Nat → Int → Int) (an op : Int) : Nat := rxmBT_6 S0 ws S an op
noncomputable def rxzBTW_6 : rx_Z := ([(0, 0), (0, 0), (0, 0), (0, 0), (0, 0), (0, 0), (0, 0), (0, 0), (0, 1), (29, 30)], [], [], 0, 0, 70, [(0, .inr (3, (0, 480))), (1, .inr (0, (8, 0)))], [])
noncomputable def rxIBTW_7 (S0 : Nat → Int → Int) (ws : List Int) (S : Nat → Int → Int) (an : Int) : Prop := rxIBT_7 S0 ws S an ∧ (S 480 14 = 0 ∧ rzKr S0 S ∧ rzTs S0 S ∧ (∃ m : Int, rzSd S0 S 1 m 0 ∧ S 480 24 = m + 1 ∧ (S 489 m = 29 ∨ S 489 m = 30)) ∧ (rzDq S0 → (rzIs (rzCut (S0 485)) (S0 480 8) rzW_and (S0 480 9) = true ∨ rzIs (rzCut (S0 485)) (S0 480 8) rzW_or (S0 480 9) = true)))
noncomputable def rxmBTW_7 (S0 : Nat → Int → Int) (ws : List Int) (S : Nat → Int → Int) (an : Int) : Nat := rxmBT_7 S0 ws S an
noncomputable def rxzBTW_7 : rx_Z := ([(0, 0), (0, 0), (0, 0), (0, 0), (0, 0), (0, 0), (0, 0), (0, 0), (0, 1)], [], [], 0, 0, 71, [(0, .inr (3, (0, 480))), (1, .inr (0, (8, 0)))], [.inr (3, (0, 480))])
noncomputable def rxIBTW_8 (S0 : Nat → Int → Int) (ws : List Int) (S : Nat → Int → Int) (an : Int) : Prop := rxIBT_8 S0 ws S an ∧ (rzCk S0 → rzDq S0 → ∀ (tst s : Int) (rest : List Int), rzSr S0 tst (s :: rest) → (s = 3 ∨ s = 4) → (s = 3 → ¬ rzSm (rzCut (S0 485)) (S0 480 8) (S0 480 9)) → rzTo S0 S tst s rest (some 0))
noncomputable def rxmBTW_8 (S0 : Nat → Int → Int) (ws : List Int) (S : Nat → Int → Int) (an : Int) : Nat := rxmBT_8 S0 ws S an
noncomputable def rxzBTW_8 : rx_Z := ([(0, 0), (0, 0), (0, 0), (0, 0), (0, 0), (0, 0), (0, 0), (0, 0), (0, 1)], [], [], 0, 0, 74, [(0, .inr (3, (0, 480))), (1, .inr (0, (8, 0)))], [])
noncomputable def rxIBTW_9 (S0 : Nat → Int → Int) (ws : List Int) (S : Nat → Int → Int) : Prop := rxIBT_9 S0 ws S ∧ (rzDq S0 → (rzIs (rzCut (S0 485)) (S0 480 8) rzW_and (S0 480 9) = false ∧ rzIs (rzCut (S0 485)) (S0 480 8) rzW_or (S0 480 9) = false))
noncomputable def rxmBTW_9 (S0 : Nat → Int → Int) (ws : List Int) (S : Nat → Int → Int) : Nat := rxmBT_9 S0 ws S
noncomputable def rxzBTW_9 : rx_Z := ([(0, 0), (0, 0), (0, 0), (0, 0), (0, 0), (0, 0), (0, 0), (0, 0)], [], [], 0, 0, 77, [(0, .inr (3, (0, 480)))], [.inr (3, (0, 480))])
noncomputable def rxIBTW_10 (S0 : Nat → Int → Int) (ws : List Int) (S : Nat → Int → Int) (its : Int) : Prop := rxIBT_10 S0 ws S its ∧ (rzDq S0 → (rzIs (rzCut (S0 485)) (S0 480 8) rzW_and (S0 480 9) = false ∧ rzIs (rzCut (S0 485)) (S0 480 8) rzW_or (S0 480 9) = false))
noncomputable def rxmBTW_10 (S0 : Nat → Int → Int) (ws : List Int) (S : Nat → Int → Int) (its : Int) : Nat := rxmBT_10 S0 ws S its
noncomputable def rxzBTW_10 : rx_Z := ([(0, 0), (0, 0), (0, 0), (0, 0), (0, 0), (0, 0), (0, 0), (0, 0), ((-1), 32)], [], [], 0, 0, 80, [(0, .inr (3, (0, 480)))], [.inr (0, (8, 0))])
noncomputable def rxIBTW_11 (S0 : Nat → Int → Int) (ws : List Int) (S : Nat → Int → Int) : Prop := rxIBT_11 S0 ws S ∧ ((∃ its : Int, rzIn S0 its ∧ its ≠ -1) ∧ (rzDq S0 → (rzIs (rzCut (S0 485)) (S0 480 8) rzW_and (S0 480 9) = false ∧ rzIs (rzCut (S0 485)) (S0 480 8) rzW_or (S0 480 9) = false)))
noncomputable def rxmBTW_11 (S0 : Nat → Int → Int) (ws : List Int) (S : Nat → Int → Int) : Nat := rxmBT_11 S0 ws S
noncomputable def rxzBTW_11 : rx_Z := ([(0, 0), (0, 0), (0, 0), (0, 0), (0, 0), (0, 0), (0, 0), (0, 0)], [], [], 0, 0, 90, [(0, .inr (3, (0, 480)))], [.inr (0, (0, 41)), .inr (3, (0, 480)), .inr (3, (0, 480))])
noncomputable def rxIBTW_12 (S0 : Nat → Int → Int) (ws : List Int) (S : Nat → Int → Int) (is : Int) : Prop := rxIBT_12 S0 ws S is ∧ ((∃ its : Int, rzIn S0 its ∧ its ≠ -1) ∧ (rzDq S0 → (rzIs (rzCut (S0 485)) (S0 480 8) rzW_and (S0 480 9) = false ∧ rzIs (rzCut (S0 485)) (S0 480 8) rzW_or (S0 480 9) = false) ∧ ((is = 1 ∧ rzSg (rzCut (S0 485)) (S0 480 8) 41 (S0 480 9) = true) ∨ (is = 0 ∧ rzSg (rzCut (S0 485)) (S0 480 8) 41 (S0 480 9) = false))))
noncomputable def rxmBTW_12 (S0 : Nat → Int → Int) (ws : List Int) (S : Nat → Int → Int) (is : Int) : Nat := rxmBT_12 S0 ws S is
noncomputable def rxzBTW_12 : rx_Z := ([(0, 0), (0, 0), (0, 0), (0, 0), (0, 0), (0, 0), (0, 0), (0, 0), (0, 1)], [], [], 0, 0, 93, [(0, .inr (3, (0, 480)))], [.inr (0, (8, 0)), .inr (3, (0, 480))])
noncomputable def rxIBTW_13 (S0 : Nat → Int → Int) (ws : List Int) (S : Nat → Int → Int) (is : Int) : Prop := rxIBT_13 S0 ws S is ∧ ((∃ its : Int, rzIn S0 its ∧ its ≠ -1) ∧ (rzDq S0 → (rzIs (rzCut (S0 485)) (S0 480 8) rzW_and (S0 480 9) = false ∧ rzIs (rzCut (S0 485)) (S0 480 8) rzW_or (S0 480 9) = false) ∧ (S 480 14 = 0 → rzSg (rzCut (S0 485)) (S0 480 8) 41 (S0 480 9) = true ∧ rzNw S0 S ∧ rzPl S0 S 0 0 0) ∧ (S 480 14 ≠ 0 → rzSg (rzCut (S0 485)) (S0 480 8) 41 (S0 480 9) = false ∧ S 480 13 = S0 480 9)))
noncomputable def rxmBTW_13 (S0 : Nat → Int → Int) (ws : List Int) (S : Nat → Int → Int) (is : Int) : Nat := rxmBT_13 S0 ws S is
noncomputable def rxzBTW_13 : rx_Z := ([(0, 0), (0, 0), (0, 0), (0, 0), (0, 0), (0, 0), (0, 0), (0, 0), (0, 1)], [], [], 0, 0, 96, [(0, .inr (3, (0, 480)))], [])
noncomputable def rxIBTW_14 (S0 : Nat → Int → Int) (ws : List Int) (S : Nat → Int → Int) : Prop := rxIBT_14 S0 ws S ∧ ((∃ its : Int, rzIn S0 its ∧ its ≠ -1) ∧ (rzDq S0 → rzSg (rzCut (S0 485)) (S0 480 8) 41 (S0 480 9) = true ∧ rzNw S0 S ∧ rzPl S0 S 0 0 0))
noncomputable def rxmBTW_14 (S0 : Nat → Int → Int) (ws : List Int) (S : Nat → Int → Int) : Nat := rxmBT_14 S0 ws S
noncomputable def rxzBTW_14 : rx_Z := ([(0, 0), (0, 0), (0, 0), (0, 0), (0, 0), (0, 0), (0, 0), (0, 0)], [], [], 0, 0, 105, [(0, .inr (3, (0, 480)))], [.inr (0, (0, 1)), .inr (3, (0, 480))])
noncomputable def rxIBTW_15 (S0 : Nat → Int → Int) (ws : List Int) (S : Nat → Int → Int) : Prop := rxIBT_15 S0 ws S ∧ ((∃ its : Int, rzIn S0 its ∧ its ≠ -1) ∧ S 480 14 = 0 ∧ (rzDq S0 → rzSg (rzCut (S0 485)) (S0 480 8) 41 (S0 480 9) = true ∧ rzNw S0 S ∧ rzSd S0 S 1 (S 480 24) 0))
noncomputable def rxmBTW_15 (S0 : Nat → Int → Int) (ws : List Int) (S : Nat → Int → Int) : Nat := rxmBT_15 S0 ws S
noncomputable def rxzBTW_15 : rx_Z := ([(0, 0), (0, 0), (0, 0), (0, 0), (0, 0), (0, 0), (0, 0), (0, 0)], [], [], 0, 0, 108, [(0, .inr (3, (0, 480)))], [])
noncomputable def rxIBTW_16 (S0 : Nat → Int → Int) (ws : List Int) (S : Nat → Int → Int) (pn : Int) : Prop := rxIBT_16 S0 ws S pn ∧ ((∃ its : Int, rzIn S0 its ∧ its ≠ -1) ∧ S 480 14 = 0 ∧ (rzDq S0 → rzSg (rzCut (S0 485)) (S0 480 8) 41 (S0 480 9) = true ∧ rzNw S0 S ∧ rzSd S0 S 1 (S 480 24) 0))
noncomputable def rxmBTW_16 (S0 : Nat → Int → Int) (ws : List Int) (S : Nat → Int → Int) (pn : Int) : Nat := rxmBT_16 S0 ws S pn
noncomputable def rxzBTW_16 : rx_Z := ([(0, 0), (0, 0), (0, 0), (0, 0), (0, 0), (0, 0), (0, 0), (0, 0), (1, 400)], [], [], 0, 0, 113, [(0, .inr (3, (0, 480)))], [.inr (0, (8, 0)), .inr (3, (0, 480))])
noncomputable def rxIBTW_17 (S0 : Nat → Int → Int) (ws : List Int) (S : Nat → Int → Int) (q : Int) : Prop := rxIBT_17 S0 ws S q ∧ ((∃ its : Int, rzIn S0 its ∧ its ≠ -1) ∧ S 480 14 = 0 ∧ (rzDq S0 → rzSg (rzCut (S0 485)) (S0 480 8) 41 (S0 480 9) = true ∧ rzNw S0 S ∧ ∃ m : Int, rzSd S0 S 1 m 0 ∧ S 480 24 = m - 1 ∧ 1 ≤ m ∧ 31 ≤ S0 489 (m - 1)))
noncomputable def rxmBTW_17 (S0 : Nat → Int → Int) (ws : List Int) (S : Nat → Int → Int) (q : Int) : Nat := rxmBT_17 S0 ws S q
noncomputable def rxzBTW_17 : rx_Z := ([(0, 0), (0, 0), (0, 0), (0, 0), (0, 0), (0, 0), (0, 0), (0, 0), (1, 8)], [], [], 0, 0, 123, [(0, .inr (3, (0, 480)))], [.inr (0, (8, 0)), .inr (3, (0, 480))])
noncomputable def rxoBTW_0_0 : bx_HO := (([(0, 0), (0, 0), (0, 0), (0, 0), (0, 0), (0, 0), (0, 0), (0, 0), (0, 3)], [(3, (8, 0), (0, 1)), (3, (8, 0), (0, 1))], [(((0, 0), 1851192626986356799632114105031551009123054124018230966928539648000000), .inr (0, (8, 0))), (((0, 480), 11), .inr (0, (8, 0)))], 0, 0, 77, [(1, .inr (0, (0, 0))), (0, .inr (3, (0, 480)))], [.inr (3, (0, 480))]), [], [], [(0, 0), (0, 0), (0, 0), (0, 0), (0, 0), (0, 0), (0, 0), (0, 0)], 9)
noncomputable def rxoBTW_0_1 : bx_HO := (([(0, 0), (0, 0), (0, 0), (0, 0), (0, 0), (0, 0), (0, 0), (0, 0), (1, 1), ((-9223372036854775808), 9223372036854775807)], [(3, (9, 0), (0, 498)), (3, (9, 0), (0, 1476))], [(((0, 0), 1851192626986356799832820811818326617396875588472066220482363392000000), .inr (1, (9, 0))), (((0, 480), 12), .inr (1, (9, 0))), (((0, 0), 1851192626986356799632114105031551009123054124018230966928539648000000), .inr (0, (8, 0))), (((0, 480), 11), .inr (0, (8, 0)))], 0, 0, 77, [(1, .inr (0, (0, 0))), (0, .inr (3, (0, 480)))], [.inr (3, (0, 480))]), [], [], [(0, 0), (0, 0), (0, 0), (0, 0), (0, 0), (0, 0), (0, 0), (0, 0)], 9)
noncomputable def rxoBTW_0_2 : bx_HO := (([(0, 0), (0, 0), (0, 0), (0, 0), (0, 0), (0, 0), (0, 0), (0, 0), (1, 1), (498, 498)], [(3, (9, 0), (0, 1476))], [(((0, 0), 1851192626986356799832820811818326617396875588472066220482363392000000), .inr (1, (9, 0))), (((0, 480), 12), .inr (1, (9, 0))), (((0, 0), 1851192626986356799632114105031551009123054124018230966928539648000000), .inr (0, (8, 0))), (((0, 480), 11), .inr (0, (8, 0)))], 0, 0, 32, [(1, .inr (0, (0, 0))), (0, .inr (3, (0, 480)))], [.inr (0, (0, 1)), .inr (3, (0, 480))]), [], [], [(0, 0), (0, 0), (0, 0), (0, 0), (0, 0), (0, 0), (0, 0), (0, 0), (0, 0), (0, 1)], 1)
noncomputable def rxoBTW_0_3 : bx_HO := (([(0, 0), (0, 0), (0, 0), (0, 0), (0, 0), (0, 0), (0, 0), (0, 0), (1, 1), (1476, 1476)], [], [(((0, 0), 1851192626986356799832820811818326617396875588472066220482363392000000), .inr (1, (9, 0))), (((0, 480), 12), .inr (1, (9, 0))), (((0, 0), 1851192626986356799632114105031551009123054124018230966928539648000000), .inr (0, (8, 0))), (((0, 480), 11), .inr (0, (8, 0)))], 0, 0, 32, [(1, .inr (0, (0, 1))), (0, .inr (3, (0, 480)))], [.inr (0, (0, 2)), .inr (3, (0, 480))]), [], [], [(0, 0), (0, 0), (0, 0), (0, 0), (0, 0), (0, 0), (0, 0), (0, 0), (0, 1), (0, 2)], 1)
noncomputable def rxoBTW_2_0 : bx_HO := (([(0, 0), (0, 0), (0, 0), (0, 0), (0, 0), (0, 0), (0, 0), (0, 0), (1, 1), (1, 2), (0, 400)], [(3, (8, 0), (0, 0))], [(((0, 0), 1851192626986356801037061052538980267039804375195077741805305856000000), .inr (0, (10, 0))), (((0, 480), 18), .inr (0, (10, 0)))], 0, 0, 51, [(0, .inr (3, (0, 480))), (1, .inr (0, (8, 0)))], [.inr (0, (10, 0)), .inr (0, (0, 29)), .inr (3, (0, 480))]), [], [], [(0, 0), (0, 0), (0, 0), (0, 0), (0, 0), (0, 0), (0, 0), (0, 0), (8, 0), (0, 29), (10, 0)], 3)
noncomputable def rxoBTW_2_1 : bx_HO := (([(0, 0), (0, 0), (0, 0), (0, 0), (0, 0), (0, 0), (0, 0), (0, 0), (0, 0), (1, 2), (0, 400)], [], [(((0, 0), 1851192626986356801037061052538980267039804375195077741805305856000000), .inr (0, (10, 0))), (((0, 480), 18), .inr (0, (10, 0)))], 0, 0, 51, [(0, .inr (3, (0, 480))), (1, .inr (0, (8, 0)))], [.inr (0, (10, 0)), .inr (0, (0, 30)), .inr (3, (0, 480))]), [], [], [(0, 0), (0, 0), (0, 0), (0, 0), (0, 0), (0, 0), (0, 0), (0, 0), (8, 0), (0, 30), (10, 0)], 3)
noncomputable def rxoBTW_4_0 : bx_HO := (([(0, 0), (0, 0), (0, 0), (0, 0), (0, 0), (0, 0), (0, 0), (0, 0), (1, 1), (29, 30), (0, 400)], [(3, (8, 0), (0, 0))], [], 0, 0, 67, [(0, .inr (3, (0, 480))), (1, .inr (0, (8, 0)))], [.inr (0, (0, 0)), .inr (0, (0, 29)), .inr (3, (0, 480))]), [], [], [(0, 0), (0, 0), (0, 0), (0, 0), (0, 0), (0, 0), (0, 0), (0, 0), (8, 0), (0, 29)], 5)
noncomputable def rxoBTW_4_1 : bx_HO := (([(0, 0), (0, 0), (0, 0), (0, 0), (0, 0), (0, 0), (0, 0), (0, 0), (0, 0), (29, 30), (0, 400)], [], [], 0, 0, 67, [(0, .inr (3, (0, 480))), (1, .inr (0, (8, 0)))], [.inr (0, (0, 0)), .inr (0, (0, 30)), .inr (3, (0, 480))]), [], [], [(0, 0), (0, 0), (0, 0), (0, 0), (0, 0), (0, 0), (0, 0), (0, 0), (8, 0), (0, 30)], 5)
noncomputable def rxoBTW_6_0 : bx_HO := (([(0, 0), (0, 0), (0, 0), (0, 0), (0, 0), (0, 0), (0, 0), (0, 0), (0, 1), (29, 30)], [], [], 0, 0, 71, [(0, .inr (3, (0, 480))), (1, .inr (0, (8, 0)))], [.inr (3, (0, 480))]), [], [], [(0, 0), (0, 0), (0, 0), (0, 0), (0, 0), (0, 0), (0, 0), (0, 0), (8, 0)], 7)
noncomputable def rxeBTW_8_0 : rx_End × List (Nat × Int × Int) := (([(0, 0), (0, 0), (0, 0), (0, 0), (0, 0), (0, 0), (0, 0), (0, 0), (0, 1)], [], [], some (.inr (0, (0, 0)))), [])
noncomputable def rxoBTW_10_0 : bx_HO := (([(0, 0), (0, 0), (0, 0), (0, 0), (0, 0), (0, 0), (0, 0), (0, 0), (0, 32)], [(3, (8, 0), (0, (-1)))], [], 0, 0, 90, [(0, .inr (3, (0, 480)))], [.inr (0, (0, 41)), .inr (3, (0, 480)), .inr (3, (0, 480))]), [], [], [(0, 0), (0, 0), (0, 0), (0, 0), (0, 0), (0, 0), (0, 0), (0, 0)], 11)
noncomputable def rxeBTW_10_0 : rx_End × List (Nat × Int × Int) := (([(0, 0), (0, 0), (0, 0), (0, 0), (0, 0), (0, 0), (0, 0), (0, 0), ((-1), (-1))], [], [], some (.inr (0, (0, 4)))), [])
noncomputable def rxoBTW_13_0 : bx_HO := (([(0, 0), (0, 0), (0, 0), (0, 0), (0, 0), (0, 0), (0, 0), (0, 0), (0, 1), (0, 0)], [], [(((0, 0), 1851192626986356800234234225391877833944518517379736727590010880000000), .inr (0, (9, 0))), (((0, 480), 14), .inr (0, (9, 0)))], 0, 0, 105, [(0, .inr (3, (0, 480)))], [.inr (0, (0, 1)), .inr (3, (0, 480))]), [], [], [(0, 0), (0, 0), (0, 0), (0, 0), (0, 0), (0, 0), (0, 0), (0, 0)], 14)
noncomputable def rxeBTW_13_0 : rx_End × List (Nat × Int × Int) := (([(0, 0), (0, 0), (0, 0), (0, 0), (0, 0), (0, 0), (0, 0), (0, 0), (0, 1), (1, 1)], [(3, (9, 0), (0, 0))], [(((0, 0), 1851192626986356800234234225391877833944518517379736727590010880000000), .inr (0, (9, 0))), (((0, 480), 14), .inr (0, (9, 0)))], some (.inr (0, (0, 2)))), [])
noncomputable def rxoBTW_15_0 : bx_HO := (([(0, 0), (0, 0), (0, 0), (0, 0), (0, 0), (0, 0), (0, 0), (0, 0), (0, 400)], [], [(((0, 0), 1851192626986356802241301293259633916682733161918089263128248320000000), .inr (0, (8, 0))), (((0, 480), 24), .inr (0, (8, 0)))], 0, 0, 113, [(0, .inr (3, (0, 480)))], [.inr (0, (8, 0)), .inr (3, (0, 480))]), [(8, 1, 400)], [], [(0, 0), (0, 0), (0, 0), (0, 0), (0, 0), (0, 0), (0, 0), (0, 0), (8, 0)], 16)
noncomputable def rxoBTW_16_0 : bx_HO := (([(0, 0), (0, 0), (0, 0), (0, 0), (0, 0), (0, 0), (0, 0), (0, 0), (1, 400), (0, 8)], [], [(((0, 0), 1851192626986356802442008000046409524956554626371924516682072064000000), .inr (0, (9, 0))), (((0, 480), 25), .inr (0, (9, 0))), (((0, 0), 1851192626986356802241301293259633916682733161918089263128248323000000), .inr (0, (8, (-1)))), (((0, 480), 24), .inr (0, (8, (-1))))], 0, 0, 123, [(0, .inr (3, (0, 480)))], [.inr (0, (9, 0)), .inr (3, (0, 480))]), [(9, 1, 8)], [], [(0, 0), (0, 0), (0, 0), (0, 0), (0, 0), (0, 0), (0, 0), (0, 0), (9, 0)], 17)
noncomputable def rxeBTW_17_0 : rx_End × List (Nat × Int × Int) := (([(0, 0), (0, 0), (0, 0), (0, 0), (0, 0), (0, 0), (0, 0), (0, 0), (1, 8)], [], [(((0, 0), 1851192626986356802442008000046409524956554626371924516682072067000000), .inr (0, (8, (-1)))), (((0, 480), 25), .inr (0, (8, (-1))))], some (.inr (0, (0, 2)))), [])
noncomputable def rxYBTW : List bx_HE := [(rxzBTW_0, [rxoBTW_0_0, rxoBTW_0_1, rxoBTW_0_2, rxoBTW_0_3], []), (rxzBTW_1, [], []), (rxzBTW_2, [rxoBTW_2_0, rxoBTW_2_1], []), (rxzBTW_3, [], []), (rxzBTW_4, [rxoBTW_4_0, rxoBTW_4_1], []), (rxzBTW_5, [], []), (rxzBTW_6, [rxoBTW_6_0], []), (rxzBTW_7, [], []), (rxzBTW_8, [], [rxeBTW_8_0]), (rxzBTW_9, [], []), (rxzBTW_10, [rxoBTW_10_0], [rxeBTW_10_0]), (rxzBTW_11, [], []), (rxzBTW_12, [], []), (rxzBTW_13, [rxoBTW_13_0], [rxeBTW_13_0]), (rxzBTW_14, [], []), (rxzBTW_15, [rxoBTW_15_0], []), (rxzBTW_16, [rxoBTW_16_0], []), (rxzBTW_17, [], [rxeBTW_17_0])]
noncomputable def rxUBTW (q : bx_HE) : Bool := Nat.beq (rx_zpc q.1) 32 || Nat.beq (rx_zpc q.1) 51 || Nat.beq (rx_zpc q.1) 67 || Nat.beq (rx_zpc q.1) 71 || Nat.beq (rx_zpc q.1) 77 || Nat.beq (rx_zpc q.1) 90 || Nat.beq (rx_zpc q.1) 93 || Nat.beq (rx_zpc q.1) 105
noncomputable def rxYBBTW : bx_B := (rxV, rxNP, rxDmf, bx_mdH rxCBTW.2.2.1)
set_option maxRecDepth 100000 in
theorem rxYcBTW : bx_chkH rxYBBTW rxM280 rxCBTW rxYBTW (rxUBTW, fun cut z => rx_ex2 (rxCT rxYBBTW rxCnE) cut 30000 rxCBTW.2.2.2.1 280 z) = true := by decide +kernel
noncomputable def rxIBTW (S0 : Nat → Int → Int) (ws : List Int) (i : Nat) : bx_SP := fun S r => match i with | 0 => rxIBTW_0 S0 ws S | 1 => rxIBTW_1 S0 ws S (r 8) (r 9) | 2 => rxIBTW_2 S0 ws S (r 8) (r 9) | 3 => rxIBTW_3 S0 ws S (r 8) (r 9) (r 10) | 4 => rxIBTW_4 S0 ws S (r 8) (r 9) (r 10) | 5 => rxIBTW_5 S0 ws S (r 8) (r 9) | 6 => rxIBTW_6 S0 ws S (r 8) (r 9) | 7 => rxIBTW_7 S0 ws S (r 8) | 8 => rxIBTW_8 S0 ws S (r 8) | 9 => rxIBTW_9 S0 ws S | 10 => rxIBTW_10 S0 ws S (r 8) | 11 => rxIBTW_11 S0 ws S | 12 => rxIBTW_12 S0 ws S (r 8) | 13 => rxIBTW_13 S0 ws S (r 8) | 14 => rxIBTW_14 S0 ws S | 15 => rxIBTW_15 S0 ws S | 16 => rxIBTW_16 S0 ws S (r 8) | 17 => rxIBTW_17 S0 ws S (r 8) | _ => False
noncomputable def rxmBTW (S0 : Nat → Int → Int) (ws : List Int) (i : Nat) (S : Nat → Int → Int) (r : Nat → Int) : Nat := match i with | 0 => rxmBTW_0 S0 ws S | 1 => rxmBTW_1 S0 ws S (r 8) (r 9) | 2 => rxmBTW_2 S0 ws S (r 8) (r 9) | 3 => rxmBTW_3 S0 ws S (r 8) (r 9) (r 10) | 4 => rxmBTW_4 S0 ws S (r 8) (r 9) (r 10) | 5 => rxmBTW_5 S0 ws S (r 8) (r 9) | 6 => rxmBTW_6 S0 ws S (r 8) (r 9) | 7 => rxmBTW_7 S0 ws S (r 8) | 8 => rxmBTW_8 S0 ws S (r 8) | 9 => rxmBTW_9 S0 ws S | 10 => rxmBTW_10 S0 ws S (r 8) | 11 => rxmBTW_11 S0 ws S | 12 => rxmBTW_12 S0 ws S (r 8) | 13 => rxmBTW_13 S0 ws S (r 8) | 14 => rxmBTW_14 S0 ws S | 15 => rxmBTW_15 S0 ws S | 16 => rxmBTW_16 S0 ws S (r 8) | 17 => rxmBTW_17 S0 ws S (r 8) | _ => 0
noncomputable def rxPBTW (S0 : Nat → Int → Int) (ws : List Int) : Prop := rxPBT S0 ws
noncomputable def rxPSBTW (S0 : Nat → Int → Int) (ws : List Int) (S : Nat → Int → Int) (w : Option Int) : Prop := rxPSBT S0 ws S w ∧ (rzCk S0 → rzDq S0 → ∀ (tst s : Int) (rest : List Int), rzSr S0 tst (s :: rest) → (s = 3 ∨ s = 4) → (s = 3 → ¬ rzSm (rzCut (S0 485)) (S0 480 8) (S0 480 9)) → rzTo S0 S tst s rest w)
theorem rxkBTW_1 {S0 : Nat → Int → Int} {ws : List Int} {S : Nat → Int → Int} {an bd : Int} (hP : rxPBTW S0 ws) (hin : bx_same rxL (bx_mdl rxCBTW.2.2.1) S0 S) (I0 : bx_Inv rxL S) (hinv : rxIBTW_1 S0 ws S an bd) (l8 : 0 ≤ an) (u8 : an ≤ 1) (l9 : 1 ≤ bd) (u9 : bd ≤ 2) : rxPST S [480, bd] ∧ ∀ (S_p : Nat → Int → Int), rxPSST S [480, bd] S_p none → bx_Inv rxL S_p → bx_same rxL (bx_mdl rxCST.2.2.1) S S_p → rxIBTW_2 S0 ws S_p an bd ∧ rxmBTW_2 S0 ws S_p an bd < rxmBTW_1 S0 ws S an bd := by
  obtain ⟨hI, hx⟩ := hinv
  have g_ := rxkBT_1 hP hin I0 hI l8 u8 l9 u9
  exact ⟨g_.1, fun S_p hq I1 hsm => ⟨⟨(g_.2 S_p hq I1 hsm).1, (by
    have e := hI.1
    subst e
    obtain ⟨-, l2, hw2, hs2, -⟩ := hq
    have e2 : bd = l2 := Option.some.inj (congrArg (fun l : List Int => l[1]?) hw2)
    have sd := rzSd_m (l_p := 1) (by omega) (rzSd_st rzPl_rf hs2 (hsm 480 21 (by decide) (by decide) (by decide +kernel)))
    exact ⟨(show S_p 480 14 = S 480 14 from hsm 480 14 (by decide) (by decide) (by decide +kernel)).trans hP.2.1, rzKr_of hsm (by decide +kernel), rzTs_of hsm (by decide +kernel), sd, hx⟩)⟩, (g_.2 S_p hq I1 hsm).2⟩⟩
theorem rxsBTW_1 {X : (Nat → Int → Int) → Prop} {S0 : Nat → Int → Int} {ws : List Int} (hP : rxPBTW S0 ws) : rx_obK X S0 rxCBTW.2.2.1 rxCST.2.2.1 (rxIBTW S0 ws) (rxmBTW S0 ws) 1 2 rxzBTW_1 rxzBTW_2 [.inr (3, (0, 480)), .inr (0, (9, 0))] none rxPST rxPSST := by
  intro S r hinv hXS I0 hin hs_ hf_
  have b_ := bx_bds_sat hs_
  have f_ := bx_fcl_ok hs_.1 hf_
  obtain ⟨⟨l8, u8⟩, ⟨l9, u9⟩, -⟩ := b_
  have g := rxkBTW_1 hP hin I0 hinv l8 u8 l9 u9
  have ea : List.map (bx_num r) [.inr (3, (0, 480)), .inr (0, (9, 0))] = [480, (r 9)] := by
    simp only [List.map_cons, List.map_nil, bx_xv_ok hs_.1]
    rfl
  rw [ea]
  refine ⟨g.1, fun S_p w r_p hPS hX_p I1 hsm hr hw hs_p => ?_⟩
  have hw : w = none := hPS.1
  subst hw
  have g2 := g.2 S_p hPS I1 hsm
  show rxIBTW_2 S0 ws S_p (r_p 8) (r_p 9) ∧ rxmBTW_2 S0 ws S_p (r_p 8) (r_p 9) < _
  rw [hr 8 (by decide), hr 9 (by decide)]
  exact g2
theorem rxkBTW_3 {S0 : Nat → Int → Int} {ws : List Int} {S : Nat → Int → Int} {an op n : Int} (hP : rxPBTW S0 ws) (hin : bx_same rxL (bx_mdl rxCBTW.2.2.1) S0 S) (I0 : bx_Inv rxL S) (hinv : rxIBTW_3 S0 ws S an op n) (l8 : 0 ≤ an) (u8 : an ≤ 1) (l9 : 29 ≤ op) (u9 : op ≤ 30) (l10 : 0 ≤ n) (u10 : n ≤ 400) : rxPPU S [480, op, n] ∧ ∀ (S_p : Nat → Int → Int), rxPSPU S [480, op, n] S_p none → bx_Inv rxL S_p → bx_same rxL (bx_mdl rxCPU.2.2.1) S S_p → rxIBTW_4 S0 ws S_p an op n ∧ rxmBTW_4 S0 ws S_p an op n < rxmBTW_3 S0 ws S an op n := by
  obtain ⟨hI, hx⟩ := hinv
  have g_ := rxkBT_3 hP hin I0 hI l8 u8 l9 u9 l10 u10
  exact ⟨g_.1, fun S_p hq I1 hsm => ⟨⟨(g_.2 S_p hq I1 hsm).1, (by
    obtain ⟨h14, k0, t0, sd, hs⟩ := hx
    obtain ⟨-, o2, a2, hw3, e3⟩ := hq
    have he : op = o2 := Option.some.inj (congrArg (fun l : List Int => l[1]?) hw3)
    have pp := rzPl_pu (S := S) (o := o2) (a := a2)
    rw [← e3] at pp
    obtain ⟨p1, p2, p3, p4⟩ := pp.1
    exact ⟨pp.2.2.trans h14, k0.tr (rzKr_of hsm (by decide +kernel)), ⟨(hsm 480 9 (by decide) (by decide) (by decide +kernel)).trans t0.1, (hsm 480 10 (by decide) (by decide) (by decide +kernel)).trans t0.2.1, (hsm 480 11 (by decide) (by decide) (by decide +kernel)).trans t0.2.2.1, (hsm 480 12 (by decide) (by decide) (by decide +kernel)).trans t0.2.2.2⟩, ⟨S 480 24, rzSd_c sd (by omega) (by omega) p4, by omega, by rw [pp.2.1]; omega⟩, hs⟩)⟩, (g_.2 S_p hq I1 hsm).2⟩⟩
theorem rxsBTW_3 {X : (Nat → Int → Int) → Prop} {S0 : Nat → Int → Int} {ws : List Int} (hP : rxPBTW S0 ws) : rx_obK X S0 rxCBTW.2.2.1 rxCPU.2.2.1 (rxIBTW S0 ws) (rxmBTW S0 ws) 3 4 rxzBTW_3 rxzBTW_4 [.inr (3, (0, 480)), .inr (0, (9, 0)), .inr (0, (10, 0))] none rxPPU rxPSPU := by
  intro S r hinv hXS I0 hin hs_ hf_
  have b_ := bx_bds_sat hs_
  have f_ := bx_fcl_ok hs_.1 hf_
  obtain ⟨⟨l8, u8⟩, ⟨l9, u9⟩, ⟨l10, u10⟩, -⟩ := b_
  have g := rxkBTW_3 hP hin I0 hinv l8 u8 l9 u9 l10 u10
  have ea : List.map (bx_num r) [.inr (3, (0, 480)), .inr (0, (9, 0)), .inr (0, (10, 0))] = [480, (r 9), (r 10)] := by
    simp only [List.map_cons, List.map_nil, bx_xv_ok hs_.1]
    rfl
  rw [ea]
  refine ⟨g.1, fun S_p w r_p hPS hX_p I1 hsm hr hw hs_p => ?_⟩
  have hw : w = none := hPS.1
  subst hw
  have g2 := g.2 S_p hPS I1 hsm
  show rxIBTW_4 S0 ws S_p (r_p 8) (r_p 9) (r_p 10) ∧ rxmBTW_4 S0 ws S_p (r_p 8) (r_p 9) (r_p 10) < _
  rw [hr 8 (by decide), hr 9 (by decide), hr 10 (by decide)]
  exact g2
theorem rxkBTW_5 {S0 : Nat → Int → Int} {ws : List Int} {S : Nat → Int → Int} {an op : Int} (hP : rxPBTW S0 ws) (hin : bx_same rxL (bx_mdl rxCBTW.2.2.1) S0 S) (I0 : bx_Inv rxL S) (hinv : rxIBTW_5 S0 ws S an op) (l8 : 0 ≤ an) (u8 : an ≤ 1) (l9 : 29 ≤ op) (u9 : op ≤ 30) : rxPEM S [480, op, 0] ∧ ∀ (S_p : Nat → Int → Int), rxPSEM S [480, op, 0] S_p none → bx_Inv rxL S_p → bx_same rxL (bx_mdl rxCEM.2.2.1) S S_p → rxIBTW_6 S0 ws S_p an op ∧ rxmBTW_6 S0 ws S_p an op < rxmBTW_5 S0 ws S an op := by
  obtain ⟨hI, hx⟩ := hinv
  have g_ := rxkBT_5 hP hin I0 hI l8 u8 l9 u9
  exact ⟨g_.1, fun S_p hq I1 hsm => ⟨⟨(g_.2 S_p hq I1 hsm).1, (by
    obtain ⟨h14, k0, t0, ⟨m, sd, e24, hm⟩, hs⟩ := hx
    have b := rxBox24 I0
    have d0 := sd.1
    have r24 : S_p 480 24 = S 480 24 := hsm 480 24 (by decide) (by decide) (by decide +kernel)
    have rm := rz_fd hsm (p := 489) (n := 400) (c := 1070) (k := 0) (by decide +kernel) (by decide) (by decide +kernel) m d0 (by omega)
    exact ⟨(show S_p 480 14 = S 480 14 from hsm 480 14 (by decide) (by decide) (by decide +kernel)).trans h14, k0.tr (rzKr_of hsm (by decide +kernel)), ⟨(hsm 480 9 (by decide) (by decide) (by decide +kernel)).trans t0.1, (hsm 480 10 (by decide) (by decide) (by decide +kernel)).trans t0.2.1, (hsm 480 11 (by decide) (by decide) (by decide +kernel)).trans t0.2.2.1, (hsm 480 12 (by decide) (by decide) (by decide +kernel)).trans t0.2.2.2⟩, ⟨m, (rzSd_c sd (hsm 480 25 (by decide) (by decide) (by decide +kernel)) (hsm 480 21 (by decide) (by decide) (by decide +kernel)) fun j a b => rz_fd hsm (p := 489) (n := 400) (c := 1070) (k := 0) (by decide +kernel) (by decide) (by decide +kernel) j a (by omega)), by omega, by omega⟩, hs⟩)⟩, (g_.2 S_p hq I1 hsm).2⟩⟩
theorem rxsBTW_5 {X : (Nat → Int → Int) → Prop} {S0 : Nat → Int → Int} {ws : List Int} (hP : rxPBTW S0 ws) : rx_obK X S0 rxCBTW.2.2.1 rxCEM.2.2.1 (rxIBTW S0 ws) (rxmBTW S0 ws) 5 6 rxzBTW_5 rxzBTW_6 [.inr (3, (0, 480)), .inr (0, (9, 0)), .inr (0, (0, 0))] none rxPEM rxPSEM := by
  intro S r hinv hXS I0 hin hs_ hf_
  have b_ := bx_bds_sat hs_
  have f_ := bx_fcl_ok hs_.1 hf_
  obtain ⟨⟨l8, u8⟩, ⟨l9, u9⟩, -⟩ := b_
  have g := rxkBTW_5 hP hin I0 hinv l8 u8 l9 u9
  have ea : List.map (bx_num r) [.inr (3, (0, 480)), .inr (0, (9, 0)), .inr (0, (0, 0))] = [480, (r 9), 0] := by
    simp only [List.map_cons, List.map_nil, bx_xv_ok hs_.1]
    rfl
  rw [ea]
  refine ⟨g.1, fun S_p w r_p hPS hX_p I1 hsm hr hw hs_p => ?_⟩
  have hw : w = none := hPS.1
  subst hw
  have g2 := g.2 S_p hPS I1 hsm
  show rxIBTW_6 S0 ws S_p (r_p 8) (r_p 9) ∧ rxmBTW_6 S0 ws S_p (r_p 8) (r_p 9) < _
  rw [hr 8 (by decide), hr 9 (by decide)]
  exact g2
theorem rxkBTW_7 {S0 : Nat → Int → Int} {ws : List Int} {S : Nat → Int → Int} {an : Int} (hP : rxPBTW S0 ws) (hin : bx_same rxL (bx_mdl rxCBTW.2.2.1) S0 S) (I0 : bx_Inv rxL S) (hinv : rxIBTW_7 S0 ws S an) (l8 : 0 ≤ an) (u8 : an ≤ 1) : rxPNXX S [480] ∧ ∀ (S_p : Nat → Int → Int), rxPSNXX S [480] S_p none → bx_Inv rxL S_p → bx_same rxL (bx_mdl rxCNXX.2.2.1) S S_p → rxIBTW_8 S0 ws S_p an ∧ rxmBTW_8 S0 ws S_p an < rxmBTW_7 S0 ws S an := by
  obtain ⟨hI, hx⟩ := hinv
  have g_ := rxkBT_7 hP hin I0 hI l8 u8
  exact ⟨g_.1, fun S_p hq I1 hsm => ⟨⟨(g_.2 S_p hq.2.1 I1 hsm).1, (fun c hD tst s rest r hc hns => by
    obtain ⟨h14, k0, t0, ⟨m, sd, e24, hm⟩, hs⟩ := hx
    have z14 : S_p 480 14 = 0 := (show S_p 480 14 = S 480 14 from hsm 480 14 (by decide) (by decide) (by decide +kernel)).trans h14
    have nw := rzNw_b k0 t0 (rzNw_nx (rzDq_c hD k0 t0) (rzKr_of hsm (by decide +kernel)) hq.2.2.1 hq.2.2.2)
    have b := rxBox24 I0
    have d0 := sd.1
    have r24 : S_p 480 24 = S 480 24 := hsm 480 24 (by decide) (by decide) (by decide +kernel)
    have rm := rz_fd hsm (p := 489) (n := 400) (c := 1070) (k := 0) (by decide +kernel) (by decide) (by decide +kernel) m d0 (by omega)
    exact Or.inl (rzTn_ao (hs hD) r hc z14 nw (rzSd_c sd (hsm 480 25 (by decide) (by decide) (by decide +kernel)) (hsm 480 21 (by decide) (by decide) (by decide +kernel)) fun j a b => rz_fd hsm (p := 489) (n := 400) (c := 1070) (k := 0) (by decide +kernel) (by decide) (by decide +kernel) j a (by omega)) (by omega) (by omega)))⟩, (g_.2 S_p hq.2.1 I1 hsm).2⟩⟩
theorem rxsBTW_7 {X : (Nat → Int → Int) → Prop} {S0 : Nat → Int → Int} {ws : List Int} (hP : rxPBTW S0 ws) : rx_obK X S0 rxCBTW.2.2.1 rxCNXX.2.2.1 (rxIBTW S0 ws) (rxmBTW S0 ws) 7 8 rxzBTW_7 rxzBTW_8 [.inr (3, (0, 480))] none rxPNXX rxPSNXX := by
  intro S r hinv hXS I0 hin hs_ hf_
  have b_ := bx_bds_sat hs_
  have f_ := bx_fcl_ok hs_.1 hf_
  obtain ⟨⟨l8, u8⟩, -⟩ := b_
  have g := rxkBTW_7 hP hin I0 hinv l8 u8
  have ea : List.map (bx_num r) [.inr (3, (0, 480))] = [480] := by
    simp only [List.map_cons, List.map_nil, bx_xv_ok hs_.1]
    rfl
  rw [ea]
  refine ⟨g.1, fun S_p w r_p hPS hX_p I1 hsm hr hw hs_p => ?_⟩
  have hw : w = none := hPS.1
  subst hw
  have g2 := g.2 S_p hPS I1 hsm
  show rxIBTW_8 S0 ws S_p (r_p 8) ∧ rxmBTW_8 S0 ws S_p (r_p 8) < _
  rw [hr 8 (by decide)]
  exact g2
theorem rxkBTW_9 {S0 : Nat → Int → Int} {ws : List Int} {S : Nat → Int → Int} (hP : rxPBTW S0 ws) (hin : bx_same rxL (bx_mdl rxCBTW.2.2.1) S0 S) (I0 : bx_Inv rxL S) (hinv : rxIBTW_9 S0 ws S)  : rxPIN S [480] ∧ ∀ (S_p : Nat → Int → Int) (its : Int), (-1) ≤ its → its ≤ 32 → rxPSIN S [480] S_p (some its) → bx_Inv rxL S_p → bx_same rxL (bx_mdl rxCIN.2.2.1) S S_p → rxIBTW_10 S0 ws S_p its ∧ rxmBTW_10 S0 ws S_p its < rxmBTW_9 S0 ws S := by
  obtain ⟨hI, hx⟩ := hinv
  have g_ := rxkBT_9 hP hin I0 hI
  exact ⟨g_.1, fun S_p its l_ u_ hq I1 hsm => ⟨⟨(g_.2 S_p its l_ u_ hq I1 hsm).1, (by
    obtain ⟨e2, -⟩ := hq
    subst e2
    exact hx)⟩, (g_.2 S_p its l_ u_ hq I1 hsm).2⟩⟩
theorem rxsBTW_9 {X : (Nat → Int → Int) → Prop} {S0 : Nat → Int → Int} {ws : List Int} (hP : rxPBTW S0 ws) : rx_obK X S0 rxCBTW.2.2.1 rxCIN.2.2.1 (rxIBTW S0 ws) (rxmBTW S0 ws) 9 10 rxzBTW_9 rxzBTW_10 [.inr (3, (0, 480))] (some 8) rxPIN rxPSIN := by
  intro S r hinv hXS I0 hin hs_ hf_
  have b_ := bx_bds_sat hs_
  have f_ := bx_fcl_ok hs_.1 hf_
  have g := rxkBTW_9 hP hin I0 hinv 
  have ea : List.map (bx_num r) [.inr (3, (0, 480))] = [480] := by
    simp only [List.map_cons, List.map_nil, bx_xv_ok hs_.1]
    rfl
  rw [ea]
  refine ⟨g.1, fun S_p w r_p hPS hX_p I1 hsm hr hw hs_p => ?_⟩
  have hw := hw _ rfl
  subst hw
  have b_p := hs_p.2.2 8 _ _ rfl
  have g2 := g.2 S_p (r_p 8) b_p.1 b_p.2 hPS I1 hsm
  show rxIBTW_10 S0 ws S_p (r_p 8) ∧ rxmBTW_10 S0 ws S_p (r_p 8) < _
  exact g2
theorem rxkBTW_11 {S0 : Nat → Int → Int} {ws : List Int} {S : Nat → Int → Int} (hP : rxPBTW S0 ws) (hin : bx_same rxL (bx_mdl rxCBTW.2.2.1) S0 S) (I0 : bx_Inv rxL S) (hinv : rxIBTW_11 S0 ws S)  : rxPISW S [480, 41] ∧ ∀ (S_p : Nat → Int → Int) (is : Int), 0 ≤ is → is ≤ 1 → rxPSISW S [480, 41] S_p (some is) → bx_Inv rxL S_p → bx_same rxL (bx_mdl rxCISW.2.2.1) S S_p → rxIBTW_12 S0 ws S_p is ∧ rxmBTW_12 S0 ws S_p is < rxmBTW_11 S0 ws S := by
  obtain ⟨hI, hx⟩ := hinv
  have g_ := rxkBT_11 hP hin I0 hI
  exact ⟨g_.1, fun S_p is l_ u_ hq I1 hsm => ⟨⟨(g_.2 S_p is l_ u_ hq.1 I1 hsm).1, ⟨hx.1, fun hD => by
    have e := hI.1
    subst e
    obtain ⟨e2, -⟩ := hq.1
    subst e2
    obtain ⟨x, hw2, hc⟩ := hq.2
    have e3 : (41 : Int) = x := Option.some.inj (congrArg (fun l : List Int => l[1]?) hw2)
    subst e3
    refine ⟨hx.2 hD, ?_⟩
    rcases hc with ⟨c1, c2⟩ | ⟨c1, c2⟩
    · exact Or.inl ⟨Option.some.inj c1, (rzDq_sg hD (by decide) (by decide)).mp c2⟩
    · exact Or.inr ⟨Option.some.inj c1, rzDq_ns hD (by decide) (by decide) c2⟩⟩⟩, (g_.2 S_p is l_ u_ hq.1 I1 hsm).2⟩⟩
theorem rxsBTW_11 {X : (Nat → Int → Int) → Prop} {S0 : Nat → Int → Int} {ws : List Int} (hP : rxPBTW S0 ws) : rx_obK X S0 rxCBTW.2.2.1 rxCISW.2.2.1 (rxIBTW S0 ws) (rxmBTW S0 ws) 11 12 rxzBTW_11 rxzBTW_12 [.inr (3, (0, 480)), .inr (0, (0, 41))] (some 8) rxPISW rxPSISW := by
  intro S r hinv hXS I0 hin hs_ hf_
  have b_ := bx_bds_sat hs_
  have f_ := bx_fcl_ok hs_.1 hf_
  have g := rxkBTW_11 hP hin I0 hinv 
  have ea : List.map (bx_num r) [.inr (3, (0, 480)), .inr (0, (0, 41))] = [480, 41] := by
    simp only [List.map_cons, List.map_nil, bx_xv_ok hs_.1]
    rfl
  rw [ea]
  refine ⟨g.1, fun S_p w r_p hPS hX_p I1 hsm hr hw hs_p => ?_⟩
  have hw := hw _ rfl
  subst hw
  have b_p := hs_p.2.2 8 _ _ rfl
  have g2 := g.2 S_p (r_p 8) b_p.1 b_p.2 hPS I1 hsm
  show rxIBTW_12 S0 ws S_p (r_p 8) ∧ rxmBTW_12 S0 ws S_p (r_p 8) < _
  exact g2
theorem rxkBTW_12 {S0 : Nat → Int → Int} {ws : List Int} {S : Nat → Int → Int} {is : Int} (hP : rxPBTW S0 ws) (hin : bx_same rxL (bx_mdl rxCBTW.2.2.1) S0 S) (I0 : bx_Inv rxL S) (hinv : rxIBTW_12 S0 ws S is) (l8 : 0 ≤ is) (u8 : is ≤ 1) : rxPMUW S [480, is] ∧ ∀ (S_p : Nat → Int → Int), rxPSMUW S [480, is] S_p none → bx_Inv rxL S_p → bx_same rxL (bx_mdl rxCMUW.2.2.1) S S_p → rxIBTW_13 S0 ws S_p is ∧ rxmBTW_13 S0 ws S_p is < rxmBTW_12 S0 ws S is := by
  obtain ⟨hI, hx⟩ := hinv
  have g_ := rxkBT_12 hP hin I0 hI l8 u8
  exact ⟨g_.1, fun S_p hq I1 hsm => ⟨⟨(g_.2 S_p hq.2.1 I1 hsm).1, (by
    have e := hI.1
    subst e
    refine ⟨hx.1, fun hD => ?_⟩
    obtain ⟨-, -, is2, hw2, hc⟩ := hq.2.1
    have he : is = is2 := Option.some.inj (congrArg (fun l : List Int => l[1]?) hw2)
    have p14 := hP.2.1
    have g := hq.2.2.1 p14 hD
    have y := hx.2 hD
    refine ⟨y.1, fun z => ⟨?_, g.1 z, rzPl_of hsm (rxBox24 I0).2 (by decide +kernel)⟩, fun z => ⟨?_, g.2 z⟩⟩
    · rcases y.2 with v | v
      · exact v.2
      · omega
    · rcases y.2 with v | v
      · omega
      · exact v.2)⟩, (g_.2 S_p hq.2.1 I1 hsm).2⟩⟩
theorem rxsBTW_12 {X : (Nat → Int → Int) → Prop} {S0 : Nat → Int → Int} {ws : List Int} (hP : rxPBTW S0 ws) : rx_obK X S0 rxCBTW.2.2.1 rxCMUW.2.2.1 (rxIBTW S0 ws) (rxmBTW S0 ws) 12 13 rxzBTW_12 rxzBTW_13 [.inr (3, (0, 480)), .inr (0, (8, 0))] none rxPMUW rxPSMUW := by
  intro S r hinv hXS I0 hin hs_ hf_
  have b_ := bx_bds_sat hs_
  have f_ := bx_fcl_ok hs_.1 hf_
  obtain ⟨⟨l8, u8⟩, -⟩ := b_
  have g := rxkBTW_12 hP hin I0 hinv l8 u8
  have ea : List.map (bx_num r) [.inr (3, (0, 480)), .inr (0, (8, 0))] = [480, (r 8)] := by
    simp only [List.map_cons, List.map_nil, bx_xv_ok hs_.1]
    rfl
  rw [ea]
  refine ⟨g.1, fun S_p w r_p hPS hX_p I1 hsm hr hw hs_p => ?_⟩
  have hw : w = none := hPS.1
  subst hw
  have g2 := g.2 S_p hPS I1 hsm
  show rxIBTW_13 S0 ws S_p (r_p 8) ∧ rxmBTW_13 S0 ws S_p (r_p 8) < _
  rw [hr 8 (by decide)]
  exact g2
theorem rxkBTW_14 {S0 : Nat → Int → Int} {ws : List Int} {S : Nat → Int → Int} (hP : rxPBTW S0 ws) (hin : bx_same rxL (bx_mdl rxCBTW.2.2.1) S0 S) (I0 : bx_Inv rxL S) (hinv : rxIBTW_14 S0 ws S)  : rxPST S [480, 1] ∧ ∀ (S_p : Nat → Int → Int), rxPSST S [480, 1] S_p none → bx_Inv rxL S_p → bx_same rxL (bx_mdl rxCST.2.2.1) S S_p → rxIBTW_15 S0 ws S_p ∧ rxmBTW_15 S0 ws S_p < rxmBTW_14 S0 ws S := by
  obtain ⟨hI, hx⟩ := hinv
  have g_ := rxkBT_14 hP hin I0 hI
  exact ⟨g_.1, fun S_p hq I1 hsm => ⟨⟨(g_.2 S_p hq I1 hsm).1, (by
    have z14 := hI.2.2.1
    refine ⟨hx.1, (show S_p 480 14 = S 480 14 from hsm 480 14 (by decide) (by decide) (by decide +kernel)).trans z14, fun hD => ?_⟩
    have g := hx.2 hD
    obtain ⟨-, l2, hw2, hs2, -⟩ := hq
    have e2 : (1 : Int) = l2 := Option.some.inj (congrArg (fun l : List Int => l[1]?) hw2)
    subst e2
    exact ⟨g.1, rzNw_c g.2.1 (rzKr_of hsm (by decide +kernel)) (rzTs_of hsm (by decide +kernel)), rzSd_st g.2.2 hs2 (hsm 480 21 (by decide) (by decide) (by decide +kernel))⟩)⟩, (g_.2 S_p hq I1 hsm).2⟩⟩
theorem rxsBTW_14 {X : (Nat → Int → Int) → Prop} {S0 : Nat → Int → Int} {ws : List Int} (hP : rxPBTW S0 ws) : rx_obK X S0 rxCBTW.2.2.1 rxCST.2.2.1 (rxIBTW S0 ws) (rxmBTW S0 ws) 14 15 rxzBTW_14 rxzBTW_15 [.inr (3, (0, 480)), .inr (0, (0, 1))] none rxPST rxPSST := by
  intro S r hinv hXS I0 hin hs_ hf_
  have b_ := bx_bds_sat hs_
  have f_ := bx_fcl_ok hs_.1 hf_
  have g := rxkBTW_14 hP hin I0 hinv 
  have ea : List.map (bx_num r) [.inr (3, (0, 480)), .inr (0, (0, 1))] = [480, 1] := by
    simp only [List.map_cons, List.map_nil, bx_xv_ok hs_.1]
    rfl
  rw [ea]
  refine ⟨g.1, fun S_p w r_p hPS hX_p I1 hsm hr hw hs_p => ?_⟩
  have hw : w = none := hPS.1
  subst hw
  have g2 := g.2 S_p hPS I1 hsm
  show rxIBTW_15 S0 ws S_p ∧ rxmBTW_15 S0 ws S_p < _
  exact g2
theorem rxcBTW_0_0 {S0 : Nat → Int → Int} {ws : List Int} {S : Nat → Int → Int} {x8 : Int} (hP : rxPBTW S0 ws) (hin : bx_same rxL (bx_mdl rxCBTW.2.2.1) S0 S) (I0 : bx_Inv rxL S) (hinv : rxIBTW_0 S0 ws S) (l8 : 0 ≤ x8) (u8 : x8 ≤ 3) (f0 : x8 ≠ 1) (f1 : x8 ≠ 1) (e0 : S 480 11 = x8) : (True) ∧ (True) ∧ rxIBTW_9 S0 ws S ∧ rxmBTW_9 S0 ws S < rxmBTW_0 S0 ws S := by
  obtain ⟨hI, hx⟩ := hinv
  obtain ⟨a_, b_, c_, d_⟩ := rxcBT_0_0 hP hin I0 hI l8 u8 f0 f1 e0
  exact ⟨a_, b_, ⟨c_, (fun hD => by
    have e := hI.1
    subst e
    exact ⟨rzDq_no hD (w := rzW_and) (v := 1476) (by decide) (by decide) (by omega), rzDq_no hD (w := rzW_or) (v := 498) (by decide) (by decide) (by omega)⟩)⟩, d_⟩
theorem rxgBTW_0_0 {X : (Nat → Int → Int) → Prop} {S0 : Nat → Int → Int} {ws : List Int} (hP : rxPBTW S0 ws) : bx_obC rxL X S0 rxCBTW.2.2.1 (rxIBTW S0 ws) (rxmBTW S0 ws) 0 rxzBTW_0 rxoBTW_0_0 := by
  intro S S_p r r_p hinv hX hin hsm_ hseg
  obtain ⟨I0, I1, h0_, hr_, b_, f_, d_⟩ := bx_cl (evs := [(0, (0, 480), (0, 11), .inr (0, (8, 0)))]) (fvs := [(3, (8, 0), (0, 1), (0, 0)), (3, (8, 0), (0, 1), (0, 0))]) hseg (by decide +kernel) (by decide +kernel)
  have hinv : rxIBTW_0 S0 ws S := hinv
  obtain ⟨⟨l8, u8⟩, -⟩ := b_
  obtain ⟨f0, f1, -⟩ := f_
  obtain ⟨e0, w_⟩ := d_
  subst w_
  have g := rxcBTW_0_0 hP hin I0 hinv l8 u8 f0 f1 e0
  refine ⟨bx_narP_ok (l := []) g.1, bx_nfP_ok h0_ (fvs := []) (by decide +kernel) g.2.1, ?_, ?_⟩
  · show rxIBTW_9 S0 ws S_p
    exact g.2.2.1
  · show rxmBTW_9 S0 ws S_p < rxmBTW_0 S0 ws S_p
    exact g.2.2.2
theorem rxcBTW_0_1 {S0 : Nat → Int → Int} {ws : List Int} {S : Nat → Int → Int} {x8 x9 : Int} (hP : rxPBTW S0 ws) (hin : bx_same rxL (bx_mdl rxCBTW.2.2.1) S0 S) (I0 : bx_Inv rxL S) (hinv : rxIBTW_0 S0 ws S) (l8 : 1 ≤ x8) (u8 : x8 ≤ 1) (l9 : (-9223372036854775808) ≤ x9) (u9 : x9 ≤ 9223372036854775807) (f0 : x9 ≠ 498) (f1 : x9 ≠ 1476) (e1 : S 480 11 = x8) (e0 : S 480 12 = x9) : (True) ∧ (True) ∧ rxIBTW_9 S0 ws S ∧ rxmBTW_9 S0 ws S < rxmBTW_0 S0 ws S := by
  obtain ⟨hI, hx⟩ := hinv
  obtain ⟨a_, b_, c_, d_⟩ := rxcBT_0_1 hP hin I0 hI l8 u8 l9 u9 f0 f1 e1 e0
  exact ⟨a_, b_, ⟨c_, (fun hD => by
    have e := hI.1
    subst e
    exact ⟨rzDq_no hD (w := rzW_and) (v := 1476) (by decide) (by decide) (by omega), rzDq_no hD (w := rzW_or) (v := 498) (by decide) (by decide) (by omega)⟩)⟩, d_⟩
theorem rxgBTW_0_1 {X : (Nat → Int → Int) → Prop} {S0 : Nat → Int → Int} {ws : List Int} (hP : rxPBTW S0 ws) : bx_obC rxL X S0 rxCBTW.2.2.1 (rxIBTW S0 ws) (rxmBTW S0 ws) 0 rxzBTW_0 rxoBTW_0_1 := by
  intro S S_p r r_p hinv hX hin hsm_ hseg
  obtain ⟨I0, I1, h0_, hr_, b_, f_, d_⟩ := bx_cl (evs := [(0, (0, 480), (0, 12), .inr (1, (9, 0))), (0, (0, 480), (0, 11), .inr (0, (8, 0)))]) (fvs := [(3, (9, 0), (0, 498), (0, 0)), (3, (9, 0), (0, 1476), (0, 0))]) hseg (by decide +kernel) (by decide +kernel)
  have hinv : rxIBTW_0 S0 ws S := hinv
  obtain ⟨⟨l8, u8⟩, ⟨l9, u9⟩, -⟩ := b_
  obtain ⟨f0, f1, -⟩ := f_
  obtain ⟨e0, ⟨e1, w_⟩⟩ := d_
  subst w_
  have g := rxcBTW_0_1 hP hin I0 hinv l8 u8 l9 u9 f0 f1 e1 e0
  refine ⟨bx_narP_ok (l := []) g.1, bx_nfP_ok h0_ (fvs := []) (by decide +kernel) g.2.1, ?_, ?_⟩
  · show rxIBTW_9 S0 ws S_p
    exact g.2.2.1
  · show rxmBTW_9 S0 ws S_p < rxmBTW_0 S0 ws S_p
    exact g.2.2.2
theorem rxcBTW_0_2 {S0 : Nat → Int → Int} {ws : List Int} {S : Nat → Int → Int} {x8 x9 : Int} (hP : rxPBTW S0 ws) (hin : bx_same rxL (bx_mdl rxCBTW.2.2.1) S0 S) (I0 : bx_Inv rxL S) (hinv : rxIBTW_0 S0 ws S) (l8 : 1 ≤ x8) (u8 : x8 ≤ 1) (l9 : 498 ≤ x9) (u9 : x9 ≤ 498) (f0 : x9 ≠ 1476) (e1 : S 480 11 = x8) (e0 : S 480 12 = x9) : (True) ∧ (True) ∧ rxIBTW_1 S0 ws S 0 1 ∧ rxmBTW_1 S0 ws S 0 1 < rxmBTW_0 S0 ws S := by
  obtain ⟨hI, hx⟩ := hinv
  obtain ⟨a_, b_, c_, d_⟩ := rxcBT_0_2 hP hin I0 hI l8 u8 l9 u9 f0 e1 e0
  exact ⟨a_, b_, ⟨c_, (fun hD => by
    have e := hI.1
    subst e
    exact Or.inr ((rzDq_is hD (w := rzW_or) (v := 498) (by decide) (by decide)).mp ⟨by omega, by omega⟩))⟩, d_⟩
theorem rxgBTW_0_2 {X : (Nat → Int → Int) → Prop} {S0 : Nat → Int → Int} {ws : List Int} (hP : rxPBTW S0 ws) : bx_obC rxL X S0 rxCBTW.2.2.1 (rxIBTW S0 ws) (rxmBTW S0 ws) 0 rxzBTW_0 rxoBTW_0_2 := by
  intro S S_p r r_p hinv hX hin hsm_ hseg
  obtain ⟨I0, I1, h0_, hr_, b_, f_, d_⟩ := bx_cl (evs := [(0, (0, 480), (0, 12), .inr (1, (9, 0))), (0, (0, 480), (0, 11), .inr (0, (8, 0)))]) (fvs := [(3, (9, 0), (0, 1476), (0, 0))]) hseg (by decide +kernel) (by decide +kernel)
  have hinv : rxIBTW_0 S0 ws S := hinv
  obtain ⟨⟨l8, u8⟩, ⟨l9, u9⟩, -⟩ := b_
  obtain ⟨f0, -⟩ := f_
  obtain ⟨e0, ⟨e1, w_⟩⟩ := d_
  subst w_
  have g := rxcBTW_0_2 hP hin I0 hinv l8 u8 l9 u9 f0 e1 e0
  refine ⟨bx_narP_ok (l := []) g.1, bx_nfP_ok h0_ (fvs := []) (by decide +kernel) g.2.1, ?_, ?_⟩
  · show rxIBTW_1 S0 ws S_p (bx_val [(0, 0), (0, 0), (0, 0), (0, 0), (0, 0), (0, 0), (0, 0), (0, 0), (0, 0), (0, 1)] r_p 8) (bx_val [(0, 0), (0, 0), (0, 0), (0, 0), (0, 0), (0, 0), (0, 0), (0, 0), (0, 0), (0, 1)] r_p 9)
    rw [bx_val_x (n := 8) (e := (0, 0)) h0_ rfl, bx_val_x (n := 9) (e := (0, 1)) h0_ rfl]
    exact g.2.2.1
  · show rxmBTW_1 S0 ws S_p (bx_val [(0, 0), (0, 0), (0, 0), (0, 0), (0, 0), (0, 0), (0, 0), (0, 0), (0, 0), (0, 1)] r_p 8) (bx_val [(0, 0), (0, 0), (0, 0), (0, 0), (0, 0), (0, 0), (0, 0), (0, 0), (0, 0), (0, 1)] r_p 9) < rxmBTW_0 S0 ws S_p
    rw [bx_val_x (n := 8) (e := (0, 0)) h0_ rfl, bx_val_x (n := 9) (e := (0, 1)) h0_ rfl]
    exact g.2.2.2
theorem rxcBTW_0_3 {S0 : Nat → Int → Int} {ws : List Int} {S : Nat → Int → Int} {x8 x9 : Int} (hP : rxPBTW S0 ws) (hin : bx_same rxL (bx_mdl rxCBTW.2.2.1) S0 S) (I0 : bx_Inv rxL S) (hinv : rxIBTW_0 S0 ws S) (l8 : 1 ≤ x8) (u8 : x8 ≤ 1) (l9 : 1476 ≤ x9) (u9 : x9 ≤ 1476) (e1 : S 480 11 = x8) (e0 : S 480 12 = x9) : (True) ∧ (True) ∧ rxIBTW_1 S0 ws S 1 2 ∧ rxmBTW_1 S0 ws S 1 2 < rxmBTW_0 S0 ws S := by
  obtain ⟨hI, hx⟩ := hinv
  obtain ⟨a_, b_, c_, d_⟩ := rxcBT_0_3 hP hin I0 hI l8 u8 l9 u9 e1 e0
  exact ⟨a_, b_, ⟨c_, (fun hD => by
    have e := hI.1
    subst e
    exact Or.inl ((rzDq_is hD (w := rzW_and) (v := 1476) (by decide) (by decide)).mp ⟨by omega, by omega⟩))⟩, d_⟩
theorem rxgBTW_0_3 {X : (Nat → Int → Int) → Prop} {S0 : Nat → Int → Int} {ws : List Int} (hP : rxPBTW S0 ws) : bx_obC rxL X S0 rxCBTW.2.2.1 (rxIBTW S0 ws) (rxmBTW S0 ws) 0 rxzBTW_0 rxoBTW_0_3 := by
  intro S S_p r r_p hinv hX hin hsm_ hseg
  obtain ⟨I0, I1, h0_, hr_, b_, f_, d_⟩ := bx_cl (evs := [(0, (0, 480), (0, 12), .inr (1, (9, 0))), (0, (0, 480), (0, 11), .inr (0, (8, 0)))]) (fvs := []) hseg (by decide +kernel) (by decide +kernel)
  have hinv : rxIBTW_0 S0 ws S := hinv
  obtain ⟨⟨l8, u8⟩, ⟨l9, u9⟩, -⟩ := b_
  obtain ⟨e0, ⟨e1, w_⟩⟩ := d_
  subst w_
  have g := rxcBTW_0_3 hP hin I0 hinv l8 u8 l9 u9 e1 e0
  refine ⟨bx_narP_ok (l := []) g.1, bx_nfP_ok h0_ (fvs := []) (by decide +kernel) g.2.1, ?_, ?_⟩
  · show rxIBTW_1 S0 ws S_p (bx_val [(0, 0), (0, 0), (0, 0), (0, 0), (0, 0), (0, 0), (0, 0), (0, 0), (0, 1), (0, 2)] r_p 8) (bx_val [(0, 0), (0, 0), (0, 0), (0, 0), (0, 0), (0, 0), (0, 0), (0, 0), (0, 1), (0, 2)] r_p 9)
    rw [bx_val_x (n := 8) (e := (0, 1)) h0_ rfl, bx_val_x (n := 9) (e := (0, 2)) h0_ rfl]
    exact g.2.2.1
  · show rxmBTW_1 S0 ws S_p (bx_val [(0, 0), (0, 0), (0, 0), (0, 0), (0, 0), (0, 0), (0, 0), (0, 0), (0, 1), (0, 2)] r_p 8) (bx_val [(0, 0), (0, 0), (0, 0), (0, 0), (0, 0), (0, 0), (0, 0), (0, 0), (0, 1), (0, 2)] r_p 9) < rxmBTW_0 S0 ws S_p
    rw [bx_val_x (n := 8) (e := (0, 1)) h0_ rfl, bx_val_x (n := 9) (e := (0, 2)) h0_ rfl]
    exact g.2.2.2
theorem rxcBTW_2_0 {S0 : Nat → Int → Int} {ws : List Int} {S : Nat → Int → Int} {an bd x10 : Int} (hP : rxPBTW S0 ws) (hin : bx_same rxL (bx_mdl rxCBTW.2.2.1) S0 S) (I0 : bx_Inv rxL S) (hinv : rxIBTW_2 S0 ws S an bd) (l8 : 1 ≤ an) (u8 : an ≤ 1) (l9 : 1 ≤ bd) (u9 : bd ≤ 2) (l10 : 0 ≤ x10) (u10 : x10 ≤ 400) (f0 : an ≠ 0) (e0 : S 480 18 = x10) : (True) ∧ (True) ∧ rxIBTW_3 S0 ws S an 29 x10 ∧ rxmBTW_3 S0 ws S an 29 x10 < rxmBTW_2 S0 ws S an bd := by
  obtain ⟨hI, hx⟩ := hinv
  obtain ⟨a_, b_, c_, d_⟩ := rxcBT_2_0 hP hin I0 hI l8 u8 l9 u9 l10 u10 f0 e0
  exact ⟨a_, b_, ⟨c_, hx⟩, d_⟩
theorem rxgBTW_2_0 {X : (Nat → Int → Int) → Prop} {S0 : Nat → Int → Int} {ws : List Int} (hP : rxPBTW S0 ws) : bx_obC rxL X S0 rxCBTW.2.2.1 (rxIBTW S0 ws) (rxmBTW S0 ws) 2 rxzBTW_2 rxoBTW_2_0 := by
  intro S S_p r r_p hinv hX hin hsm_ hseg
  obtain ⟨I0, I1, h0_, hr_, b_, f_, d_⟩ := bx_cl (evs := [(0, (0, 480), (0, 18), .inr (0, (10, 0)))]) (fvs := [(3, (8, 0), (0, 0), (0, 0))]) hseg (by decide +kernel) (by decide +kernel)
  have hinv : rxIBTW_2 S0 ws S (r 8) (r 9) := hinv
  rw [← hr_ 8 (by decide), ← hr_ 9 (by decide)] at hinv
  obtain ⟨⟨l8, u8⟩, ⟨l9, u9⟩, ⟨l10, u10⟩, -⟩ := b_
  obtain ⟨f0, -⟩ := f_
  obtain ⟨e0, w_⟩ := d_
  subst w_
  have g := rxcBTW_2_0 hP hin I0 hinv l8 u8 l9 u9 l10 u10 f0 e0
  refine ⟨bx_narP_ok (l := []) g.1, bx_nfP_ok h0_ (fvs := []) (by decide +kernel) g.2.1, ?_, ?_⟩
  · show rxIBTW_3 S0 ws S_p (bx_val [(0, 0), (0, 0), (0, 0), (0, 0), (0, 0), (0, 0), (0, 0), (0, 0), (8, 0), (0, 29), (10, 0)] r_p 8) (bx_val [(0, 0), (0, 0), (0, 0), (0, 0), (0, 0), (0, 0), (0, 0), (0, 0), (8, 0), (0, 29), (10, 0)] r_p 9) (bx_val [(0, 0), (0, 0), (0, 0), (0, 0), (0, 0), (0, 0), (0, 0), (0, 0), (8, 0), (0, 29), (10, 0)] r_p 10)
    rw [bx_val_x (n := 8) (e := (8, 0)) h0_ rfl, bx_val_x (n := 9) (e := (0, 29)) h0_ rfl, bx_val_x (n := 10) (e := (10, 0)) h0_ rfl]
    exact g.2.2.1
  · show rxmBTW_3 S0 ws S_p (bx_val [(0, 0), (0, 0), (0, 0), (0, 0), (0, 0), (0, 0), (0, 0), (0, 0), (8, 0), (0, 29), (10, 0)] r_p 8) (bx_val [(0, 0), (0, 0), (0, 0), (0, 0), (0, 0), (0, 0), (0, 0), (0, 0), (8, 0), (0, 29), (10, 0)] r_p 9) (bx_val [(0, 0), (0, 0), (0, 0), (0, 0), (0, 0), (0, 0), (0, 0), (0, 0), (8, 0), (0, 29), (10, 0)] r_p 10) < rxmBTW_2 S0 ws S_p (r 8) (r 9)
    rw [bx_val_x (n := 8) (e := (8, 0)) h0_ rfl, bx_val_x (n := 9) (e := (0, 29)) h0_ rfl, bx_val_x (n := 10) (e := (10, 0)) h0_ rfl, ← hr_ 8 (by decide), ← hr_ 9 (by decide)]
    exact g.2.2.2
theorem rxcBTW_2_1 {S0 : Nat → Int → Int} {ws : List Int} {S : Nat → Int → Int} {an bd x10 : Int} (hP : rxPBTW S0 ws) (hin : bx_same rxL (bx_mdl rxCBTW.2.2.1) S0 S) (I0 : bx_Inv rxL S) (hinv : rxIBTW_2 S0 ws S an bd) (l8 : 0 ≤ an) (u8 : an ≤ 0) (l9 : 1 ≤ bd) (u9 : bd ≤ 2) (l10 : 0 ≤ x10) (u10 : x10 ≤ 400) (e0 : S 480 18 = x10) : (True) ∧ (True) ∧ rxIBTW_3 S0 ws S an 30 x10 ∧ rxmBTW_3 S0 ws S an 30 x10 < rxmBTW_2 S0 ws S an bd := by
  obtain ⟨hI, hx⟩ := hinv
  obtain ⟨a_, b_, c_, d_⟩ := rxcBT_2_1 hP hin I0 hI l8 u8 l9 u9 l10 u10 e0
  exact ⟨a_, b_, ⟨c_, hx⟩, d_⟩
theorem rxgBTW_2_1 {X : (Nat → Int → Int) → Prop} {S0 : Nat → Int → Int} {ws : List Int} (hP : rxPBTW S0 ws) : bx_obC rxL X S0 rxCBTW.2.2.1 (rxIBTW S0 ws) (rxmBTW S0 ws) 2 rxzBTW_2 rxoBTW_2_1 := by
  intro S S_p r r_p hinv hX hin hsm_ hseg
  obtain ⟨I0, I1, h0_, hr_, b_, f_, d_⟩ := bx_cl (evs := [(0, (0, 480), (0, 18), .inr (0, (10, 0)))]) (fvs := []) hseg (by decide +kernel) (by decide +kernel)
  have hinv : rxIBTW_2 S0 ws S (r 8) (r 9) := hinv
  rw [← hr_ 8 (by decide), ← hr_ 9 (by decide)] at hinv
  obtain ⟨⟨l8, u8⟩, ⟨l9, u9⟩, ⟨l10, u10⟩, -⟩ := b_
  obtain ⟨e0, w_⟩ := d_
  subst w_
  have g := rxcBTW_2_1 hP hin I0 hinv l8 u8 l9 u9 l10 u10 e0
  refine ⟨bx_narP_ok (l := []) g.1, bx_nfP_ok h0_ (fvs := []) (by decide +kernel) g.2.1, ?_, ?_⟩
  · show rxIBTW_3 S0 ws S_p (bx_val [(0, 0), (0, 0), (0, 0), (0, 0), (0, 0), (0, 0), (0, 0), (0, 0), (8, 0), (0, 30), (10, 0)] r_p 8) (bx_val [(0, 0), (0, 0), (0, 0), (0, 0), (0, 0), (0, 0), (0, 0), (0, 0), (8, 0), (0, 30), (10, 0)] r_p 9) (bx_val [(0, 0), (0, 0), (0, 0), (0, 0), (0, 0), (0, 0), (0, 0), (0, 0), (8, 0), (0, 30), (10, 0)] r_p 10)
    rw [bx_val_x (n := 8) (e := (8, 0)) h0_ rfl, bx_val_x (n := 9) (e := (0, 30)) h0_ rfl, bx_val_x (n := 10) (e := (10, 0)) h0_ rfl]
    exact g.2.2.1
  · show rxmBTW_3 S0 ws S_p (bx_val [(0, 0), (0, 0), (0, 0), (0, 0), (0, 0), (0, 0), (0, 0), (0, 0), (8, 0), (0, 30), (10, 0)] r_p 8) (bx_val [(0, 0), (0, 0), (0, 0), (0, 0), (0, 0), (0, 0), (0, 0), (0, 0), (8, 0), (0, 30), (10, 0)] r_p 9) (bx_val [(0, 0), (0, 0), (0, 0), (0, 0), (0, 0), (0, 0), (0, 0), (0, 0), (8, 0), (0, 30), (10, 0)] r_p 10) < rxmBTW_2 S0 ws S_p (r 8) (r 9)
    rw [bx_val_x (n := 8) (e := (8, 0)) h0_ rfl, bx_val_x (n := 9) (e := (0, 30)) h0_ rfl, bx_val_x (n := 10) (e := (10, 0)) h0_ rfl, ← hr_ 8 (by decide), ← hr_ 9 (by decide)]
    exact g.2.2.2
theorem rxcBTW_4_0 {S0 : Nat → Int → Int} {ws : List Int} {S : Nat → Int → Int} {an op n : Int} (hP : rxPBTW S0 ws) (hin : bx_same rxL (bx_mdl rxCBTW.2.2.1) S0 S) (I0 : bx_Inv rxL S) (hinv : rxIBTW_4 S0 ws S an op n) (l8 : 1 ≤ an) (u8 : an ≤ 1) (l9 : 29 ≤ op) (u9 : op ≤ 30) (l10 : 0 ≤ n) (u10 : n ≤ 400) (f0 : an ≠ 0) : (True) ∧ (True) ∧ rxIBTW_5 S0 ws S an 29 ∧ rxmBTW_5 S0 ws S an 29 < rxmBTW_4 S0 ws S an op n := by
  obtain ⟨hI, hx⟩ := hinv
  obtain ⟨a_, b_, c_, d_⟩ := rxcBT_4_0 hP hin I0 hI l8 u8 l9 u9 l10 u10 f0
  exact ⟨a_, b_, ⟨c_, (by
    obtain ⟨h14, k0, t0, ⟨m, sd, e24, hm⟩, hs⟩ := hx
    exact ⟨h14, k0, t0, ⟨m, sd, e24, by omega⟩, hs⟩)⟩, d_⟩
theorem rxgBTW_4_0 {X : (Nat → Int → Int) → Prop} {S0 : Nat → Int → Int} {ws : List Int} (hP : rxPBTW S0 ws) : bx_obC rxL X S0 rxCBTW.2.2.1 (rxIBTW S0 ws) (rxmBTW S0 ws) 4 rxzBTW_4 rxoBTW_4_0 := by
  intro S S_p r r_p hinv hX hin hsm_ hseg
  obtain ⟨I0, I1, h0_, hr_, b_, f_, d_⟩ := bx_cl (evs := []) (fvs := [(3, (8, 0), (0, 0), (0, 0))]) hseg (by decide +kernel) (by decide +kernel)
  have hinv : rxIBTW_4 S0 ws S (r 8) (r 9) (r 10) := hinv
  rw [← hr_ 8 (by decide), ← hr_ 9 (by decide), ← hr_ 10 (by decide)] at hinv
  obtain ⟨⟨l8, u8⟩, ⟨l9, u9⟩, ⟨l10, u10⟩, -⟩ := b_
  obtain ⟨f0, -⟩ := f_
  have w_ := d_
  subst w_
  have g := rxcBTW_4_0 hP hin I0 hinv l8 u8 l9 u9 l10 u10 f0
  refine ⟨bx_narP_ok (l := []) g.1, bx_nfP_ok h0_ (fvs := []) (by decide +kernel) g.2.1, ?_, ?_⟩
  · show rxIBTW_5 S0 ws S_p (bx_val [(0, 0), (0, 0), (0, 0), (0, 0), (0, 0), (0, 0), (0, 0), (0, 0), (8, 0), (0, 29)] r_p 8) (bx_val [(0, 0), (0, 0), (0, 0), (0, 0), (0, 0), (0, 0), (0, 0), (0, 0), (8, 0), (0, 29)] r_p 9)
    rw [bx_val_x (n := 8) (e := (8, 0)) h0_ rfl, bx_val_x (n := 9) (e := (0, 29)) h0_ rfl]
    exact g.2.2.1
  · show rxmBTW_5 S0 ws S_p (bx_val [(0, 0), (0, 0), (0, 0), (0, 0), (0, 0), (0, 0), (0, 0), (0, 0), (8, 0), (0, 29)] r_p 8) (bx_val [(0, 0), (0, 0), (0, 0), (0, 0), (0, 0), (0, 0), (0, 0), (0, 0), (8, 0), (0, 29)] r_p 9) < rxmBTW_4 S0 ws S_p (r 8) (r 9) (r 10)
    rw [bx_val_x (n := 8) (e := (8, 0)) h0_ rfl, bx_val_x (n := 9) (e := (0, 29)) h0_ rfl, ← hr_ 8 (by decide), ← hr_ 9 (by decide), ← hr_ 10 (by decide)]
    exact g.2.2.2
theorem rxcBTW_4_1 {S0 : Nat → Int → Int} {ws : List Int} {S : Nat → Int → Int} {an op n : Int} (hP : rxPBTW S0 ws) (hin : bx_same rxL (bx_mdl rxCBTW.2.2.1) S0 S) (I0 : bx_Inv rxL S) (hinv : rxIBTW_4 S0 ws S an op n) (l8 : 0 ≤ an) (u8 : an ≤ 0) (l9 : 29 ≤ op) (u9 : op ≤ 30) (l10 : 0 ≤ n) (u10 : n ≤ 400) : (True) ∧ (True) ∧ rxIBTW_5 S0 ws S an 30 ∧ rxmBTW_5 S0 ws S an 30 < rxmBTW_4 S0 ws S an op n := by
  obtain ⟨hI, hx⟩ := hinv
  obtain ⟨a_, b_, c_, d_⟩ := rxcBT_4_1 hP hin I0 hI l8 u8 l9 u9 l10 u10
  exact ⟨a_, b_, ⟨c_, (by
    obtain ⟨h14, k0, t0, ⟨m, sd, e24, hm⟩, hs⟩ := hx
    exact ⟨h14, k0, t0, ⟨m, sd, e24, by omega⟩, hs⟩)⟩, d_⟩
theorem rxgBTW_4_1 {X : (Nat → Int → Int) → Prop} {S0 : Nat → Int → Int} {ws : List Int} (hP : rxPBTW S0 ws) : bx_obC rxL X S0 rxCBTW.2.2.1 (rxIBTW S0 ws) (rxmBTW S0 ws) 4 rxzBTW_4 rxoBTW_4_1 := by
  intro S S_p r r_p hinv hX hin hsm_ hseg
  obtain ⟨I0, I1, h0_, hr_, b_, f_, d_⟩ := bx_cl (evs := []) (fvs := []) hseg (by decide +kernel) (by decide +kernel)
  have hinv : rxIBTW_4 S0 ws S (r 8) (r 9) (r 10) := hinv
  rw [← hr_ 8 (by decide), ← hr_ 9 (by decide), ← hr_ 10 (by decide)] at hinv
  obtain ⟨⟨l8, u8⟩, ⟨l9, u9⟩, ⟨l10, u10⟩, -⟩ := b_
  have w_ := d_
  subst w_
  have g := rxcBTW_4_1 hP hin I0 hinv l8 u8 l9 u9 l10 u10
  refine ⟨bx_narP_ok (l := []) g.1, bx_nfP_ok h0_ (fvs := []) (by decide +kernel) g.2.1, ?_, ?_⟩
  · show rxIBTW_5 S0 ws S_p (bx_val [(0, 0), (0, 0), (0, 0), (0, 0), (0, 0), (0, 0), (0, 0), (0, 0), (8, 0), (0, 30)] r_p 8) (bx_val [(0, 0), (0, 0), (0, 0), (0, 0), (0, 0), (0, 0), (0, 0), (0, 0), (8, 0), (0, 30)] r_p 9)
    rw [bx_val_x (n := 8) (e := (8, 0)) h0_ rfl, bx_val_x (n := 9) (e := (0, 30)) h0_ rfl]
    exact g.2.2.1
  · show rxmBTW_5 S0 ws S_p (bx_val [(0, 0), (0, 0), (0, 0), (0, 0), (0, 0), (0, 0), (0, 0), (0, 0), (8, 0), (0, 30)] r_p 8) (bx_val [(0, 0), (0, 0), (0, 0), (0, 0), (0, 0), (0, 0), (0, 0), (0, 0), (8, 0), (0, 30)] r_p 9) < rxmBTW_4 S0 ws S_p (r 8) (r 9) (r 10)
    rw [bx_val_x (n := 8) (e := (8, 0)) h0_ rfl, bx_val_x (n := 9) (e := (0, 30)) h0_ rfl, ← hr_ 8 (by decide), ← hr_ 9 (by decide), ← hr_ 10 (by decide)]
    exact g.2.2.2
theorem rxcBTW_6_0 {S0 : Nat → Int → Int} {ws : List Int} {S : Nat → Int → Int} {an op : Int} (hP : rxPBTW S0 ws) (hin : bx_same rxL (bx_mdl rxCBTW.2.2.1) S0 S) (I0 : bx_Inv rxL S) (hinv : rxIBTW_6 S0 ws S an op) (l8 : 0 ≤ an) (u8 : an ≤ 1) (l9 : 29 ≤ op) (u9 : op ≤ 30) : (True) ∧ (True) ∧ rxIBTW_7 S0 ws S an ∧ rxmBTW_7 S0 ws S an < rxmBTW_6 S0 ws S an op := by
  obtain ⟨hI, hx⟩ := hinv
  obtain ⟨a_, b_, c_, d_⟩ := rxcBT_6_0 hP hin I0 hI l8 u8 l9 u9
  exact ⟨a_, b_, ⟨c_, hx⟩, d_⟩
theorem rxgBTW_6_0 {X : (Nat → Int → Int) → Prop} {S0 : Nat → Int → Int} {ws : List Int} (hP : rxPBTW S0 ws) : bx_obC rxL X S0 rxCBTW.2.2.1 (rxIBTW S0 ws) (rxmBTW S0 ws) 6 rxzBTW_6 rxoBTW_6_0 := by
  intro S S_p r r_p hinv hX hin hsm_ hseg
  obtain ⟨I0, I1, h0_, hr_, b_, f_, d_⟩ := bx_cl (evs := []) (fvs := []) hseg (by decide +kernel) (by decide +kernel)
  have hinv : rxIBTW_6 S0 ws S (r 8) (r 9) := hinv
  rw [← hr_ 8 (by decide), ← hr_ 9 (by decide)] at hinv
  obtain ⟨⟨l8, u8⟩, ⟨l9, u9⟩, -⟩ := b_
  have w_ := d_
  subst w_
  have g := rxcBTW_6_0 hP hin I0 hinv l8 u8 l9 u9
  refine ⟨bx_narP_ok (l := []) g.1, bx_nfP_ok h0_ (fvs := []) (by decide +kernel) g.2.1, ?_, ?_⟩
  · show rxIBTW_7 S0 ws S_p (bx_val [(0, 0), (0, 0), (0, 0), (0, 0), (0, 0), (0, 0), (0, 0), (0, 0), (8, 0)] r_p 8)
    rw [bx_val_x (n := 8) (e := (8, 0)) h0_ rfl]
    exact g.2.2.1
  · show rxmBTW_7 S0 ws S_p (bx_val [(0, 0), (0, 0), (0, 0), (0, 0), (0, 0), (0, 0), (0, 0), (0, 0), (8, 0)] r_p 8) < rxmBTW_6 S0 ws S_p (r 8) (r 9)
    rw [bx_val_x (n := 8) (e := (8, 0)) h0_ rfl, ← hr_ 8 (by decide), ← hr_ 9 (by decide)]
    exact g.2.2.2
theorem rxdBTW_8_0 {S0 : Nat → Int → Int} {ws : List Int} {S : Nat → Int → Int} {an : Int} (hP : rxPBTW S0 ws) (hin : bx_same rxL (bx_mdl rxCBTW.2.2.1) S0 S) (hin2 : bx_same rxL (bx_mdl rxCBTW.2.2.1) S S) (I0 : bx_Inv rxL S) (I1 : bx_Inv rxL S) (hinv : rxIBTW_8 S0 ws S an) (l8 : 0 ≤ an) (u8 : an ≤ 1) : (True) ∧ rxPSBTW S0 ws S (some 0) := by
  obtain ⟨hI, hx⟩ := hinv
  obtain ⟨a_, c_⟩ := rxdBT_8_0 hP hin hin2 I0 I1 hI l8 u8
  exact ⟨a_, c_, hx⟩
theorem rxfBTW_8_0 {X : (Nat → Int → Int) → Prop} {S0 : Nat → Int → Int} {ws : List Int} (hP : rxPBTW S0 ws) : bx_obE rxL X S0 rxCBTW.2.2.1 (rxIBTW S0 ws) (rxPSBTW S0 ws) 8 rxzBTW_8 rxeBTW_8_0 := by
  intro S S_p r r_p hinv hX hin hsm_ hseg
  obtain ⟨I0, I1, h0_, hr_, b_, f_, d_⟩ := bx_cl (evs := []) (fvs := []) hseg (by decide +kernel) (by decide +kernel)
  have hinv : rxIBTW_8 S0 ws S (r 8) := hinv
  rw [← hr_ 8 (by decide)] at hinv
  obtain ⟨⟨l8, u8⟩, -⟩ := b_
  have w_ := d_
  subst w_
  have g := rxdBTW_8_0 hP hin hsm_ I0 I1 hinv l8 u8
  refine ⟨bx_narP_ok (l := []) g.1, ?_⟩
  show rxPSBTW S0 ws S_p (some (bx_num r_p (.inr (0, (0, 0)))))
  rw [bx_xv_ok h0_]
  exact g.2
theorem rxcBTW_10_0 {S0 : Nat → Int → Int} {ws : List Int} {S : Nat → Int → Int} {its : Int} (hP : rxPBTW S0 ws) (hin : bx_same rxL (bx_mdl rxCBTW.2.2.1) S0 S) (I0 : bx_Inv rxL S) (hinv : rxIBTW_10 S0 ws S its) (l8 : 0 ≤ its) (u8 : its ≤ 32) (f0 : its ≠ (-1)) : (True) ∧ (True) ∧ rxIBTW_11 S0 ws S ∧ rxmBTW_11 S0 ws S < rxmBTW_10 S0 ws S its := by
  obtain ⟨hI, hx⟩ := hinv
  obtain ⟨a_, b_, c_, d_⟩ := rxcBT_10_0 hP hin I0 hI l8 u8 f0
  exact ⟨a_, b_, ⟨c_, (by
    obtain ⟨e, hn⟩ := hI
    subst e
    exact ⟨⟨its, hn, by omega⟩, hx⟩)⟩, d_⟩
theorem rxgBTW_10_0 {X : (Nat → Int → Int) → Prop} {S0 : Nat → Int → Int} {ws : List Int} (hP : rxPBTW S0 ws) : bx_obC rxL X S0 rxCBTW.2.2.1 (rxIBTW S0 ws) (rxmBTW S0 ws) 10 rxzBTW_10 rxoBTW_10_0 := by
  intro S S_p r r_p hinv hX hin hsm_ hseg
  obtain ⟨I0, I1, h0_, hr_, b_, f_, d_⟩ := bx_cl (evs := []) (fvs := [(3, (8, 0), (0, (-1)), (0, 0))]) hseg (by decide +kernel) (by decide +kernel)
  have hinv : rxIBTW_10 S0 ws S (r 8) := hinv
  rw [← hr_ 8 (by decide)] at hinv
  obtain ⟨⟨l8, u8⟩, -⟩ := b_
  obtain ⟨f0, -⟩ := f_
  have w_ := d_
  subst w_
  have g := rxcBTW_10_0 hP hin I0 hinv l8 u8 f0
  refine ⟨bx_narP_ok (l := []) g.1, bx_nfP_ok h0_ (fvs := []) (by decide +kernel) g.2.1, ?_, ?_⟩
  · show rxIBTW_11 S0 ws S_p
    exact g.2.2.1
  · show rxmBTW_11 S0 ws S_p < rxmBTW_10 S0 ws S_p (r 8)
    rw [← hr_ 8 (by decide)]
    exact g.2.2.2
theorem rxdBTW_10_0 {S0 : Nat → Int → Int} {ws : List Int} {S : Nat → Int → Int} {its : Int} (hP : rxPBTW S0 ws) (hin : bx_same rxL (bx_mdl rxCBTW.2.2.1) S0 S) (hin2 : bx_same rxL (bx_mdl rxCBTW.2.2.1) S S) (I0 : bx_Inv rxL S) (I1 : bx_Inv rxL S) (hinv : rxIBTW_10 S0 ws S its) (l8 : (-1) ≤ its) (u8 : its ≤ (-1)) : (True) ∧ rxPSBTW S0 ws S (some 4) := by
  obtain ⟨hI, hx⟩ := hinv
  obtain ⟨a_, c_⟩ := rxdBT_10_0 hP hin hin2 I0 I1 hI l8 u8
  exact ⟨a_, c_, (fun c hD tst s rest r hc hns => by
    obtain ⟨e, hn⟩ := hI
    subst e
    rcases rzBr_in r.2.2 r.1 hn with q | q | q
    · obtain ⟨q1, q2, q3⟩ := q
      subst q1
      exact Or.inr (Or.inr ⟨rfl, rfl, rzStep_dn (by omega) (fun h => hns (by omega)) (Or.inr (hx hD))⟩)
    · omega
    · omega)⟩
theorem rxfBTW_10_0 {X : (Nat → Int → Int) → Prop} {S0 : Nat → Int → Int} {ws : List Int} (hP : rxPBTW S0 ws) : bx_obE rxL X S0 rxCBTW.2.2.1 (rxIBTW S0 ws) (rxPSBTW S0 ws) 10 rxzBTW_10 rxeBTW_10_0 := by
  intro S S_p r r_p hinv hX hin hsm_ hseg
  obtain ⟨I0, I1, h0_, hr_, b_, f_, d_⟩ := bx_cl (evs := []) (fvs := []) hseg (by decide +kernel) (by decide +kernel)
  have hinv : rxIBTW_10 S0 ws S (r 8) := hinv
  rw [← hr_ 8 (by decide)] at hinv
  obtain ⟨⟨l8, u8⟩, -⟩ := b_
  have w_ := d_
  subst w_
  have g := rxdBTW_10_0 hP hin hsm_ I0 I1 hinv l8 u8
  refine ⟨bx_narP_ok (l := []) g.1, ?_⟩
  show rxPSBTW S0 ws S_p (some (bx_num r_p (.inr (0, (0, 4)))))
  rw [bx_xv_ok h0_]
  exact g.2
theorem rxcBTW_13_0 {S0 : Nat → Int → Int} {ws : List Int} {S : Nat → Int → Int} {is x9 : Int} (hP : rxPBTW S0 ws) (hin : bx_same rxL (bx_mdl rxCBTW.2.2.1) S0 S) (I0 : bx_Inv rxL S) (hinv : rxIBTW_13 S0 ws S is) (l8 : 0 ≤ is) (u8 : is ≤ 1) (l9 : 0 ≤ x9) (u9 : x9 ≤ 0) (e0 : S 480 14 = x9) : (True) ∧ (True) ∧ rxIBTW_14 S0 ws S ∧ rxmBTW_14 S0 ws S < rxmBTW_13 S0 ws S is := by
  obtain ⟨hI, hx⟩ := hinv
  obtain ⟨a_, b_, c_, d_⟩ := rxcBT_13_0 hP hin I0 hI l8 u8 l9 u9 e0
  exact ⟨a_, b_, ⟨c_, ⟨hx.1, fun hD => (hx.2 hD).2.1 (by omega)⟩⟩, d_⟩
theorem rxgBTW_13_0 {X : (Nat → Int → Int) → Prop} {S0 : Nat → Int → Int} {ws : List Int} (hP : rxPBTW S0 ws) : bx_obC rxL X S0 rxCBTW.2.2.1 (rxIBTW S0 ws) (rxmBTW S0 ws) 13 rxzBTW_13 rxoBTW_13_0 := by
  intro S S_p r r_p hinv hX hin hsm_ hseg
  obtain ⟨I0, I1, h0_, hr_, b_, f_, d_⟩ := bx_cl (evs := [(0, (0, 480), (0, 14), .inr (0, (9, 0)))]) (fvs := []) hseg (by decide +kernel) (by decide +kernel)
  have hinv : rxIBTW_13 S0 ws S (r 8) := hinv
  rw [← hr_ 8 (by decide)] at hinv
  obtain ⟨⟨l8, u8⟩, ⟨l9, u9⟩, -⟩ := b_
  obtain ⟨e0, w_⟩ := d_
  subst w_
  have g := rxcBTW_13_0 hP hin I0 hinv l8 u8 l9 u9 e0
  refine ⟨bx_narP_ok (l := []) g.1, bx_nfP_ok h0_ (fvs := []) (by decide +kernel) g.2.1, ?_, ?_⟩
  · show rxIBTW_14 S0 ws S_p
    exact g.2.2.1
  · show rxmBTW_14 S0 ws S_p < rxmBTW_13 S0 ws S_p (r 8)
    rw [← hr_ 8 (by decide)]
    exact g.2.2.2
theorem rxdBTW_13_0 {S0 : Nat → Int → Int} {ws : List Int} {S : Nat → Int → Int} {is x9 : Int} (hP : rxPBTW S0 ws) (hin : bx_same rxL (bx_mdl rxCBTW.2.2.1) S0 S) (hin2 : bx_same rxL (bx_mdl rxCBTW.2.2.1) S S) (I0 : bx_Inv rxL S) (I1 : bx_Inv rxL S) (hinv : rxIBTW_13 S0 ws S is) (l8 : 0 ≤ is) (u8 : is ≤ 1) (l9 : 1 ≤ x9) (u9 : x9 ≤ 1) (f0 : x9 ≠ 0) (e0 : S 480 14 = x9) : (True) ∧ rxPSBTW S0 ws S (some 2) := by
  obtain ⟨hI, hx⟩ := hinv
  obtain ⟨a_, c_⟩ := rxdBT_13_0 hP hin hin2 I0 I1 hI l8 u8 l9 u9 f0 e0
  exact ⟨a_, c_, (fun c hD tst s rest r hc hns => by
    have y := hx.2 hD
    have g := y.2.2 (by omega)
    obtain ⟨its, hi, i1⟩ := hx.1
    have hr : rest ≠ [] := by
      rcases rzBr_in r.2.2 r.1 hi with q | q | q
      · omega
      · exact q.1
      · exact q.1
    exact Or.inl (rzTn_crn hc hr hns y.1.1 y.1.2 g.1 (by omega) g.2))⟩
theorem rxfBTW_13_0 {X : (Nat → Int → Int) → Prop} {S0 : Nat → Int → Int} {ws : List Int} (hP : rxPBTW S0 ws) : bx_obE rxL X S0 rxCBTW.2.2.1 (rxIBTW S0 ws) (rxPSBTW S0 ws) 13 rxzBTW_13 rxeBTW_13_0 := by
  intro S S_p r r_p hinv hX hin hsm_ hseg
  obtain ⟨I0, I1, h0_, hr_, b_, f_, d_⟩ := bx_cl (evs := [(0, (0, 480), (0, 14), .inr (0, (9, 0)))]) (fvs := [(3, (9, 0), (0, 0), (0, 0))]) hseg (by decide +kernel) (by decide +kernel)
  have hinv : rxIBTW_13 S0 ws S (r 8) := hinv
  rw [← hr_ 8 (by decide)] at hinv
  obtain ⟨⟨l8, u8⟩, ⟨l9, u9⟩, -⟩ := b_
  obtain ⟨f0, -⟩ := f_
  obtain ⟨e0, w_⟩ := d_
  subst w_
  have g := rxdBTW_13_0 hP hin hsm_ I0 I1 hinv l8 u8 l9 u9 f0 e0
  refine ⟨bx_narP_ok (l := []) g.1, ?_⟩
  show rxPSBTW S0 ws S_p (some (bx_num r_p (.inr (0, (0, 2)))))
  rw [bx_xv_ok h0_]
  exact g.2
theorem rxcBTW_15_0 {S0 : Nat → Int → Int} {ws : List Int} {S : Nat → Int → Int} {x8 : Int} (hP : rxPBTW S0 ws) (hin : bx_same rxL (bx_mdl rxCBTW.2.2.1) S0 S) (I0 : bx_Inv rxL S) (hinv : rxIBTW_15 S0 ws S) (l8 : 0 ≤ x8) (u8 : x8 ≤ 400) (e0 : S 480 24 = x8) : ((1 ≤ x8 ∧ x8 ≤ 400) ∧ True) ∧ (True) ∧ rxIBTW_16 S0 ws S x8 ∧ rxmBTW_16 S0 ws S x8 < rxmBTW_15 S0 ws S := by
  obtain ⟨hI, hx⟩ := hinv
  obtain ⟨a_, b_, c_, d_⟩ := rxcBT_15_0 hP hin I0 hI l8 u8 e0
  exact ⟨a_, b_, ⟨c_, hx⟩, d_⟩
theorem rxgBTW_15_0 {X : (Nat → Int → Int) → Prop} {S0 : Nat → Int → Int} {ws : List Int} (hP : rxPBTW S0 ws) : bx_obC rxL X S0 rxCBTW.2.2.1 (rxIBTW S0 ws) (rxmBTW S0 ws) 15 rxzBTW_15 rxoBTW_15_0 := by
  intro S S_p r r_p hinv hX hin hsm_ hseg
  obtain ⟨I0, I1, h0_, hr_, b_, f_, d_⟩ := bx_cl (evs := [(0, (0, 480), (0, 24), .inr (0, (8, 0)))]) (fvs := []) hseg (by decide +kernel) (by decide +kernel)
  have hinv : rxIBTW_15 S0 ws S := hinv
  obtain ⟨⟨l8, u8⟩, -⟩ := b_
  obtain ⟨e0, w_⟩ := d_
  subst w_
  have g := rxcBTW_15_0 hP hin I0 hinv l8 u8 e0
  refine ⟨bx_narP_ok (l := [(8, 1, 400)]) g.1, bx_nfP_ok h0_ (fvs := []) (by decide +kernel) g.2.1, ?_, ?_⟩
  · show rxIBTW_16 S0 ws S_p (bx_val [(0, 0), (0, 0), (0, 0), (0, 0), (0, 0), (0, 0), (0, 0), (0, 0), (8, 0)] r_p 8)
    rw [bx_val_x (n := 8) (e := (8, 0)) h0_ rfl]
    exact g.2.2.1
  · show rxmBTW_16 S0 ws S_p (bx_val [(0, 0), (0, 0), (0, 0), (0, 0), (0, 0), (0, 0), (0, 0), (0, 0), (8, 0)] r_p 8) < rxmBTW_15 S0 ws S_p
    rw [bx_val_x (n := 8) (e := (8, 0)) h0_ rfl]
    exact g.2.2.2
theorem rxcBTW_16_0 {S0 : Nat → Int → Int} {ws : List Int} {S : Nat → Int → Int} {pn x9 : Int} (hP : rxPBTW S0 ws) (hin : bx_same rxL (bx_mdl rxCBTW.2.2.1) S0 S) (I0 : bx_Inv rxL S) (hinv : rxIBTW_16 S0 ws S pn) (l8 : 1 ≤ pn) (u8 : pn ≤ 400) (l9 : 0 ≤ x9) (u9 : x9 ≤ 8) (e0 : (bx_up S 480 24 (pn + (-1))) 480 25 = x9) : ((1 ≤ x9 ∧ x9 ≤ 8) ∧ True) ∧ (True) ∧ rxIBTW_17 S0 ws (bx_up S 480 24 (pn + (-1))) x9 ∧ rxmBTW_17 S0 ws (bx_up S 480 24 (pn + (-1))) x9 < rxmBTW_16 S0 ws S pn := by
  obtain ⟨hI, hx⟩ := hinv
  obtain ⟨a_, b_, c_, d_⟩ := rxcBT_16_0 hP hin I0 hI l8 u8 l9 u9 e0
  exact ⟨a_, b_, ⟨c_, (by
    obtain ⟨hb, h14, hh⟩ := hx
    obtain ⟨hpn, -, -, -, h1, h32, -⟩ := hI
    refine ⟨hb, ((bx_up_ne (by omega))).trans h14, fun hD => ?_⟩
    have g := hh hD
    have d := g.2.2
    refine ⟨g.1, rzNw_c g.2.1 ⟨congrArg rzCut (funext fun _ => (bx_up_ne (by omega))), (bx_up_ne (by omega)), (bx_up_ne (by omega)), (bx_up_ne (by omega)), fun c => rzCk_c c (funext fun _ => (bx_up_ne (by omega))) (funext fun _ => (bx_up_ne (by omega)))⟩ ⟨(bx_up_ne (by omega)), (bx_up_ne (by omega)), (bx_up_ne (by omega)), (bx_up_ne (by omega))⟩, S 480 24, rzSd_c d ((bx_up_ne (by omega))) ((bx_up_ne (by omega))) (fun j a b => (bx_up_ne (by omega))), bx_up_at.trans (by omega), h1, ?_⟩
    rw [← d.2.2.2.2.1 (S 480 24 - 1) (by omega) (by omega)]
    exact h32)⟩, d_⟩
theorem rxgBTW_16_0 {X : (Nat → Int → Int) → Prop} {S0 : Nat → Int → Int} {ws : List Int} (hP : rxPBTW S0 ws) : bx_obC rxL X S0 rxCBTW.2.2.1 (rxIBTW S0 ws) (rxmBTW S0 ws) 16 rxzBTW_16 rxoBTW_16_0 := by
  intro S S_p r r_p hinv hX hin hsm_ hseg
  obtain ⟨I0, I1, h0_, hr_, b_, f_, d_⟩ := bx_cl (evs := [(0, (0, 480), (0, 25), .inr (0, (9, 0))), (1, (0, 480), (0, 24), .inr (0, (8, (-1))))]) (fvs := []) hseg (by decide +kernel) (by decide +kernel)
  have hinv : rxIBTW_16 S0 ws S (r 8) := hinv
  rw [← hr_ 8 (by decide)] at hinv
  obtain ⟨⟨l8, u8⟩, ⟨l9, u9⟩, -⟩ := b_
  obtain ⟨e0, ⟨T1, w_, w1⟩⟩ := d_
  subst w1
  subst w_
  have g := rxcBTW_16_0 hP hin I0 hinv l8 u8 l9 u9 e0
  refine ⟨bx_narP_ok (l := [(9, 1, 8)]) g.1, bx_nfP_ok h0_ (fvs := []) (by decide +kernel) g.2.1, ?_, ?_⟩
  · show rxIBTW_17 S0 ws (bx_up T1 480 (24) (r_p 8 + (-1))) (bx_val [(0, 0), (0, 0), (0, 0), (0, 0), (0, 0), (0, 0), (0, 0), (0, 0), (9, 0)] r_p 8)
    rw [bx_val_x (n := 8) (e := (9, 0)) h0_ rfl]
    exact g.2.2.1
  · show rxmBTW_17 S0 ws (bx_up T1 480 (24) (r_p 8 + (-1))) (bx_val [(0, 0), (0, 0), (0, 0), (0, 0), (0, 0), (0, 0), (0, 0), (0, 0), (9, 0)] r_p 8) < rxmBTW_16 S0 ws T1 (r 8)
    rw [bx_val_x (n := 8) (e := (9, 0)) h0_ rfl, ← hr_ 8 (by decide)]
    exact g.2.2.2
theorem rxdBTW_17_0 {S0 : Nat → Int → Int} {ws : List Int} {S : Nat → Int → Int} {q : Int} (hP : rxPBTW S0 ws) (hin : bx_same rxL (bx_mdl rxCBTW.2.2.1) S0 S) (hin2 : bx_same rxL (bx_mdl rxCBTW.2.2.1) S (bx_up S 480 25 (q + (-1)))) (I0 : bx_Inv rxL S) (I1 : bx_Inv rxL (bx_up S 480 25 (q + (-1)))) (hinv : rxIBTW_17 S0 ws S q) (l8 : 1 ≤ q) (u8 : q ≤ 8) : (True) ∧ rxPSBTW S0 ws (bx_up S 480 25 (q + (-1))) (some 2) := by
  obtain ⟨hI, hx⟩ := hinv
  obtain ⟨a_, c_⟩ := rxdBT_17_0 hP hin hin2 I0 I1 hI l8 u8
  exact ⟨a_, c_, (fun c hD tst s rest r hc hns => by
    obtain ⟨hb, h14, hh⟩ := hx
    obtain ⟨g1, g2, m, d, e24, m1, h32⟩ := hh hD
    obtain ⟨S1, eS, hq, -⟩ := hI
    have e25 : S 480 25 = S1 480 25 := by
      rw [eS]
      exact bx_up_ne (by omega)
    obtain ⟨d1, d2, d3, d4, d5, d6⟩ := d
    obtain ⟨its, hi, i1⟩ := hb
    have hr : rest ≠ [] := by
      rcases rzBr_in r.2.2 r.1 hi with q | q | q
      · omega
      · exact q.1
      · exact q.1
    exact Or.inl (rzTn_cr (m := m) r hc hr g1 (((bx_up_ne (by omega))).trans h14) (rzNw_c g2 ⟨congrArg rzCut (funext fun _ => (bx_up_ne (by omega))), (bx_up_ne (by omega)), (bx_up_ne (by omega)), (bx_up_ne (by omega)), fun c => rzCk_c c (funext fun _ => (bx_up_ne (by omega))) (funext fun _ => (bx_up_ne (by omega)))⟩ ⟨(bx_up_ne (by omega)), (bx_up_ne (by omega)), (bx_up_ne (by omega)), (bx_up_ne (by omega))⟩) ⟨d1, d2, bx_up_at.trans (by omega), ((bx_up_ne (by omega))).trans d4, fun j a b => ((bx_up_ne (by omega))).trans (d5 j a b), d6⟩ m1 (((bx_up_ne (by omega))).trans e24) h32))⟩
theorem rxfBTW_17_0 {X : (Nat → Int → Int) → Prop} {S0 : Nat → Int → Int} {ws : List Int} (hP : rxPBTW S0 ws) : bx_obE rxL X S0 rxCBTW.2.2.1 (rxIBTW S0 ws) (rxPSBTW S0 ws) 17 rxzBTW_17 rxeBTW_17_0 := by
  intro S S_p r r_p hinv hX hin hsm_ hseg
  obtain ⟨I0, I1, h0_, hr_, b_, f_, d_⟩ := bx_cl (evs := [(1, (0, 480), (0, 25), .inr (0, (8, (-1))))]) (fvs := []) hseg (by decide +kernel) (by decide +kernel)
  have hinv : rxIBTW_17 S0 ws S (r 8) := hinv
  rw [← hr_ 8 (by decide)] at hinv
  obtain ⟨⟨l8, u8⟩, -⟩ := b_
  obtain ⟨T0, w_, w0⟩ := d_
  subst w0
  subst w_
  have g := rxdBTW_17_0 hP hin hsm_ I0 I1 hinv l8 u8
  refine ⟨bx_narP_ok (l := []) g.1, ?_⟩
  show rxPSBTW S0 ws (bx_up T0 480 (25) (r_p 8 + (-1))) (some (bx_num r_p (.inr (0, (0, 2)))))
  rw [bx_xv_ok h0_]
  exact g.2
theorem rxgCBTW {X : (Nat → Int → Int) → Prop} {S0 : Nat → Int → Int} {ws : List Int} (hP : rxPBTW S0 ws) : bx_allI (fun i q => rxUBTW q = true ∨ bx_allP (fun o => bx_obC rxL X S0 rxCBTW.2.2.1 (rxIBTW S0 ws) (rxmBTW S0 ws) i q.1 o) q.2.1) 0 rxYBTW := ⟨Or.inr ⟨rxgBTW_0_0 hP, rxgBTW_0_1 hP, rxgBTW_0_2 hP, rxgBTW_0_3 hP, trivial⟩, Or.inl rfl, Or.inr ⟨rxgBTW_2_0 hP, rxgBTW_2_1 hP, trivial⟩, Or.inl rfl, Or.inr ⟨rxgBTW_4_0 hP, rxgBTW_4_1 hP, trivial⟩, Or.inl rfl, Or.inr ⟨rxgBTW_6_0 hP, trivial⟩, Or.inl rfl, Or.inr trivial, Or.inl rfl, Or.inr ⟨rxgBTW_10_0 hP, trivial⟩, Or.inl rfl, Or.inl rfl, Or.inr ⟨rxgBTW_13_0 hP, trivial⟩, Or.inl rfl, Or.inr ⟨rxgBTW_15_0 hP, trivial⟩, Or.inr ⟨rxgBTW_16_0 hP, trivial⟩, Or.inr trivial, trivial⟩
theorem rxgEBTW {X : (Nat → Int → Int) → Prop} {S0 : Nat → Int → Int} {ws : List Int} (hP : rxPBTW S0 ws) : bx_allI (fun i q => rxUBTW q = true ∨ bx_allP (fun E => bx_obE rxL X S0 rxCBTW.2.2.1 (rxIBTW S0 ws) (rxPSBTW S0 ws) i q.1 E) q.2.2) 0 rxYBTW := ⟨Or.inr trivial, Or.inl rfl, Or.inr trivial, Or.inl rfl, Or.inr trivial, Or.inl rfl, Or.inr trivial, Or.inl rfl, Or.inr ⟨rxfBTW_8_0 hP, trivial⟩, Or.inl rfl, Or.inr ⟨rxfBTW_10_0 hP, trivial⟩, Or.inl rfl, Or.inl rfl, Or.inr ⟨rxfBTW_13_0 hP, trivial⟩, Or.inl rfl, Or.inr trivial, Or.inr trivial, Or.inr ⟨rxfBTW_17_0 hP, trivial⟩, trivial⟩
theorem rxuBTW {PX : State → Prop} {Dg : va_G} {A : Nat → Prop} {ad xa : Nat → Nat} {l : Launch} {X : (Nat → Int → Int) → Prop} (hPX : rx_PXOK rxNW A PX) (hX : ∀ S S1 : Nat → Int → Int, X S → bx_same rxL (bx_mdl rxCBTW.2.2.1) S S1 → X S1) (hQST : bx_ConP rxG rxNW rxAO PX Dg rxL X vwCl A ad l rxM275 rxCST rxPST rxPSST) (hQPU : bx_ConP rxG rxNW rxAO PX Dg rxL X vwCl A ad l rxM268 rxCPU rxPPU rxPSPU) (hQEM : bx_ConP rxG rxNW rxAO PX Dg rxL X vwCl A ad l rxM266 rxCEM rxPEM rxPSEM) (hQNXX : bx_ConP rxG rxNW rxAO PX Dg rxL X vwCl A ad l rxM264 rxCNXX rxPNXX rxPSNXX) (hQIN : bx_ConP rxG rxNW rxAO PX Dg rxL X vwCl A ad l rxM276 rxCIN rxPIN rxPSIN) (hQISW : bx_ConP rxG rxNW rxAO PX Dg rxL X vwCl A ad l rxM269 rxCISW rxPISW rxPSISW) (hQMUW : bx_ConP rxG rxNW rxAO PX Dg rxL X vwCl A ad l rxM265 rxCMUW rxPMUW rxPSMUW) {S0 : Nat → Int → Int} {ws : List Int} (hP : rxPBTW S0 ws) : ∀ (i : Nat) (q : bx_HE), rxYBTW[i]? = some q → rxUBTW q = true → ∀ {p : Program} {e : Env} {R : Room} {s : State} {m : MethodId} {args : Array Value} {below : List Frame} {meth : Method} {c : Code} {Q : State → Prop} {H0 : Heap}, rx_Fr rxG rxNW rxAO PX p s m args meth c rxM280 → (∀ q, H0.size ≤ q → A q) → H0 = s.heap → rxM280.2.2.2.2.2.2.1 ≤ R.cells → rxM280.2.2.2.2.2.2.2 ≤ R.slots → rxCBTW.2.2.2.1 ≤ R.frames → rxCBTW.2.2.2.1 * 40 ≤ R.locals → bx_Step p l e R s m args below meth c Q Dg rxL X vwCl A xa H0 ad rxM280 rxYBTW (rxIBTW S0 ws) (rxmBTW S0 ws) S0 rxCBTW.2.2.1 i q := by
  intro i q hq hus p e R s m args below meth c Q H0 hF hA hH0 hmc hms hd hdl
  match i, hq with
  | 0, hq =>
    cases hq
    exact absurd (show false = true from hus) Bool.false_ne_true
  | 1, hq =>
    cases hq
    exact rx_stepC (ins := .invokevirtual 347) (len := 3) (i_p := 2) (M_p := rxM275) (d := rxCBTW.2.2.2.1) (as := [.inr (3, (0, 480)), .inr (0, (9, 0))]) (t := []) (ct := rxCST) hPX hF rfl hA hH0 hmc hms hd hdl (by decide +kernel) rfl rfl (by decide +kernel) (by decide +kernel) hQST (by decide +kernel) rfl (Or.inl ⟨rfl, rfl, rfl⟩) (rxsBTW_1 hP)
  | 2, hq =>
    cases hq
    exact absurd (show false = true from hus) Bool.false_ne_true
  | 3, hq =>
    cases hq
    exact rx_stepC (ins := .invokevirtual 314) (len := 3) (i_p := 4) (M_p := rxM268) (d := rxCBTW.2.2.2.1) (as := [.inr (3, (0, 480)), .inr (0, (9, 0)), .inr (0, (10, 0))]) (t := []) (ct := rxCPU) hPX hF rfl hA hH0 hmc hms hd hdl (by decide +kernel) rfl rfl (by decide +kernel) (by decide +kernel) hQPU (by decide +kernel) rfl (Or.inl ⟨rfl, rfl, rfl⟩) (rxsBTW_3 hP)
  | 4, hq =>
    cases hq
    exact absurd (show false = true from hus) Bool.false_ne_true
  | 5, hq =>
    cases hq
    exact rx_stepC (ins := .invokevirtual 297) (len := 3) (i_p := 6) (M_p := rxM266) (d := rxCBTW.2.2.2.1) (as := [.inr (3, (0, 480)), .inr (0, (9, 0)), .inr (0, (0, 0))]) (t := []) (ct := rxCEM) hPX hF rfl hA hH0 hmc hms hd hdl (by decide +kernel) rfl rfl (by decide +kernel) (by decide +kernel) hQEM (by decide +kernel) rfl (Or.inl ⟨rfl, rfl, rfl⟩) (rxsBTW_5 hP)
  | 6, hq =>
    cases hq
    exact absurd (show false = true from hus) Bool.false_ne_true
  | 7, hq =>
    cases hq
    exact rx_stepC (ins := .invokevirtual 253) (len := 3) (i_p := 8) (M_p := rxM264) (d := rxCBTW.2.2.2.1) (as := [.inr (3, (0, 480))]) (t := []) (ct := rxCNXX) hPX hF rfl hA hH0 hmc hms hd hdl (by decide +kernel) rfl rfl (by decide +kernel) (by decide +kernel) hQNXX (by decide +kernel) rfl (Or.inl ⟨rfl, rfl, rfl⟩) (rxsBTW_7 hP)
  | 8, hq =>
    cases hq
    exact absurd (show false = true from hus) Bool.false_ne_true
  | 9, hq =>
    cases hq
    exact rx_stepC (ins := .invokevirtual 350) (len := 3) (i_p := 10) (M_p := rxM276) (d := rxCBTW.2.2.2.1) (as := [.inr (3, (0, 480))]) (t := []) (ct := rxCIN) hPX hF rfl hA hH0 hmc hms hd hdl (by decide +kernel) rfl rfl (by decide +kernel) (by decide +kernel) hQIN (by decide +kernel) rfl (Or.inr ⟨_, _, _, 1, rfl, rfl, by omega, rfl, rfl, rfl⟩) (rxsBTW_9 hP)
  | 10, hq =>
    cases hq
    exact absurd (show false = true from hus) Bool.false_ne_true
  | 11, hq =>
    cases hq
    exact rx_stepC (ins := .invokevirtual 320) (len := 3) (i_p := 12) (M_p := rxM269) (d := rxCBTW.2.2.2.1) (as := [.inr (3, (0, 480)), .inr (0, (0, 41))]) (t := [.inr (3, (0, 480))]) (ct := rxCISW) hPX hF rfl hA hH0 hmc hms hd hdl (by decide +kernel) rfl rfl (by decide +kernel) (by decide +kernel) hQISW (by decide +kernel) rfl (Or.inr ⟨_, _, _, 1, rfl, rfl, by omega, rfl, rfl, rfl⟩) (rxsBTW_11 hP)
  | 12, hq =>
    cases hq
    exact rx_stepC (ins := .invokevirtual 284) (len := 3) (i_p := 13) (M_p := rxM265) (d := rxCBTW.2.2.2.1) (as := [.inr (3, (0, 480)), .inr (0, (8, 0))]) (t := []) (ct := rxCMUW) hPX hF rfl hA hH0 hmc hms hd hdl (by decide +kernel) rfl rfl (by decide +kernel) (by decide +kernel) hQMUW (by decide +kernel) rfl (Or.inl ⟨rfl, rfl, rfl⟩) (rxsBTW_12 hP)
  | 13, hq =>
    cases hq
    exact absurd (show false = true from hus) Bool.false_ne_true
  | 14, hq =>
    cases hq
    exact rx_stepC (ins := .invokevirtual 347) (len := 3) (i_p := 15) (M_p := rxM275) (d := rxCBTW.2.2.2.1) (as := [.inr (3, (0, 480)), .inr (0, (0, 1))]) (t := []) (ct := rxCST) hPX hF rfl hA hH0 hmc hms hd hdl (by decide +kernel) rfl rfl (by decide +kernel) (by decide +kernel) hQST (by decide +kernel) rfl (Or.inl ⟨rfl, rfl, rfl⟩) (rxsBTW_14 hP)
  | 15, hq =>
    cases hq
    exact absurd (show false = true from hus) Bool.false_ne_true
  | 16, hq =>
    cases hq
    exact absurd (show false = true from hus) Bool.false_ne_true
  | 17, hq =>
    cases hq
    exact absurd (show false = true from hus) Bool.false_ne_true
  | n + 18, hq => cases hq
theorem rxQBTW {PX : State → Prop} {Dg : va_G} {A : Nat → Prop} {ad xa : Nat → Nat} {l : Launch} {X : (Nat → Int → Int) → Prop} (hPX : rx_PXOK rxNW A PX) (hsl : ∀ s : State, PX s → ∀ o idx n : Nat, rxSl o idx = some n → ∃ tx : String, vk_R (rxNm o) idx tx (ad n) s)
    (hX : ∀ S S_p : Nat → Int → Int, X S → bx_same rxL (bx_mdl rxCBTW.2.2.1) S S_p → X S_p)
    (ih : ∀ (j2 : Nat) (ct2 : bx_Ct) (M2 : rx_Mt), ct2 ∈ rxCnE j2 → ct2.2.2.2.1 + 1 ≤ rxCBTW.2.2.2.1 → rxT.2.2.2.2.2 j2 = some M2 → bx_Con rxG rxNW rxAO PX Dg rxL X vwCl A ad l M2 ct2) (hQST : bx_ConP rxG rxNW rxAO PX Dg rxL X vwCl A ad l rxM275 rxCST rxPST rxPSST) (hQPU : bx_ConP rxG rxNW rxAO PX Dg rxL X vwCl A ad l rxM268 rxCPU rxPPU rxPSPU) (hQEM : bx_ConP rxG rxNW rxAO PX Dg rxL X vwCl A ad l rxM266 rxCEM rxPEM rxPSEM) (hQNXX : bx_ConP rxG rxNW rxAO PX Dg rxL X vwCl A ad l rxM264 rxCNXX rxPNXX rxPSNXX) (hQIN : bx_ConP rxG rxNW rxAO PX Dg rxL X vwCl A ad l rxM276 rxCIN rxPIN rxPSIN) (hQISW : bx_ConP rxG rxNW rxAO PX Dg rxL X vwCl A ad l rxM269 rxCISW rxPISW rxPSISW) (hQMUW : bx_ConP rxG rxNW rxAO PX Dg rxL X vwCl A ad l rxM265 rxCMUW rxPMUW rxPSMUW) : bx_ConP rxG rxNW rxAO PX Dg rxL X vwCl A ad l rxM280 rxCBTW rxPBTW rxPSBTW :=
  rxQof (xa := xa) (Cn := rxCnE) (f := 30000) (j := 280) (tab := rxYBTW) (us := rxUBTW) hPX hsl hX ih rfl rxYcBTW rxIBTW rxmBTW
    (fun S0 ws r I0 I ht0 ht as he he1 hX0 hI0 hP hs ha => by
      have e := he.symm.trans (show bx_ent0 rxNP rxCBTW.1 bx_I0 [] = some ([(0, 0), (0, 0), (0, 0), (0, 0), (0, 0), (0, 0), (0, 0), (0, 0)], [], [.inr (3, (0, 480))]) from rfl)
      cases e
      subst ha
      have h0 : r 0 = 0 := hs.1
      show rxIBTW_0 S0 _ S0
      refine ⟨⟨rfl, ?_⟩, trivial⟩
      simp only [List.map_cons, List.map_nil, bx_xv_ok h0]
      rfl)
    (fun S0 ws hP => rxuBTW (xa := xa) hPX hX hQST hQPU hQEM hQNXX hQIN hQISW hQMUW hP) (fun S0 ws hP => rxgCBTW hP) (fun S0 ws hP => rxgEBTW hP)

noncomputable def rzXo (S0 S : Nat → Int → Int) (tst : Int) : Prop :=
  (S 480 14 = 0 → rzKr S0 S ∧ rzDq S ∧ ∃ r : rzR, rzEx (rzCut (S0 485)) (S0 480 8) (rzWr S0) tst (S0 480 9) (S0 480 21) r ∧ r.1 = true ∧ S 480 9 = r.2.1 ∧ S 480 21 = r.2.2) ∧
  (S 480 14 ≠ 0 → ∃ r : rzR, rzEx (rzCut (S0 485)) (S0 480 8) (rzWr S0) tst (S0 480 9) (S0 480 21) r ∧ r.1 = false ∧ S 480 13 = r.2.1)
noncomputable def rzXs (S0 S : Nat → Int → Int) (tst t : Int) : Prop := rzKr S0 S ∧ rzDq S ∧ ∃ (s : Int) (rest : List Int), rzSr S tst (s :: rest) ∧ (rzTc t s ∨ (t = 2 ∧ s = 3 ∧ ¬ rzSm (rzCut (S 485)) (S 480 8) (S 480 9))) ∧ ∀ r : rzR, rzRes (rzCut (S0 485)) (S0 480 8) (rzWr S0) (S 480 9) (s :: rest) (decide (2 ≤ t)) (S 480 21) r → rzEx (rzCut (S0 485)) (S0 480 8) (rzWr S0) tst (S0 480 9) (S0 480 21) r
noncomputable def rzXi (S0 S : Nat → Int → Int) (tst t : Int) : Prop := (S 480 14 = 0 → (t = 4 ∧ rzXo S0 S tst) ∨ (t ≠ 4 ∧ rzXs S0 S tst t)) ∧ (S 480 14 ≠ 0 → rzXo S0 S tst)
theorem rzXi_tn {S0 S S_p : Nat → Int → Int} {tst t s : Int} {rest : List Int} {pr : Bool} (k : rzKr S0 S) (hr : ∀ r : rzR, rzRes (rzCut (S0 485)) (S0 480 8) (rzWr S0) (S 480 9) (s :: rest) pr (S 480 21) r → rzEx (rzCut (S0 485)) (S0 480 8) (rzWr S0) tst (S0 480 9) (S0 480 21) r) (h : rzTn S S_p tst (s :: rest) pr (some t)) : rzXi S0 S_p tst t := by
  obtain ⟨h0, h1⟩ := h
  rw [k.1, k.2.1, k.w] at h0 h1
  refine ⟨fun z => ?_, fun z => ⟨fun g => absurd g z, fun _ => ?_⟩⟩
  · obtain ⟨k2, d, t2, s_p, rest_p, e, r, hs, hc⟩ := h0 z
    have e := Option.some.inj e
    subst e
    refine Or.inr ⟨by unfold rzTc at hc; omega, k.tr k2, d, s_p, rest_p, r, Or.inl hc, fun q hq => hr q (rzRes_step hs hq)⟩
  · obtain ⟨⟨f_p, lv_p, pr_p, lf_p, hs⟩, h13⟩ := h1 z
    exact ⟨_, hr _ (rzRes_fail hs), rfl, h13⟩
theorem rzXi_to {S0 S S_p : Nat → Int → Int} {tst t s : Int} {rest : List Int} (k : rzKr S0 S) (d : rzDq S) (h14 : S 480 14 = 0) (q : rzSr S tst (s :: rest)) (hr : ∀ r : rzR, rzRes (rzCut (S0 485)) (S0 480 8) (rzWr S0) (S 480 9) (s :: rest) true (S 480 21) r → rzEx (rzCut (S0 485)) (S0 480 8) (rzWr S0) tst (S0 480 9) (S0 480 21) r) (h : rzTo S S_p tst s rest (some t)) : rzXi S0 S_p tst t := by
  rcases h with h | ⟨e, e2, e3, ns⟩ | ⟨e, e2, hs⟩
  · exact rzXi_tn k hr h
  · subst e
    have e2 := Option.some.inj e2
    subst e2
    exact ⟨fun _ => Or.inr ⟨by omega, k, d, s, rest, q, Or.inr ⟨rfl, e3, ns⟩, hr⟩, fun z => absurd h14 z⟩
  · subst e
    have e2 := Option.some.inj e2
    subst e2
    rw [k.1, k.2.1, k.w] at hs
    exact ⟨fun _ => Or.inl ⟨rfl, fun _ => ⟨k, d, _, hr _ (rzRes_done hs), rfl, rfl, rfl⟩, fun z => absurd h14 z⟩, fun z => absurd h14 z⟩
theorem rzXi_0 {S0 S : Nat → Int → Int} {tst t : Int} (hD : rzDq S0) (k : rzKr S0 S) (ts : rzTs S0 S) (e21 : S 480 21 = S0 480 21) (h14 : S 480 14 = 0) (e24 : S 480 24 = 0) (e25 : S 480 25 = 0) (ht : (tst = 0 ∧ t = 1) ∨ (tst = 1 ∧ t = 0)) : rzXi S0 S tst t := by
  refine ⟨fun _ => Or.inr ⟨by omega, k, rzDq_c hD k ts, tst, [], ⟨?_, by rw [e25]; rfl, by omega⟩, Or.inl ?_, fun r hr => ?_⟩, fun z => absurd h14 z⟩
  · rw [e24]
    exact ⟨fun j a b => by omega, by omega, Iff.rfl, fun _ j a b => by omega, fun _ => rzCm_0 (Int.le_refl 0), fun g => by omega⟩
  · unfold rzTc
    omega
  · rw [ts.1, e21, decide_eq_false (by omega)] at hr
    exact hr
noncomputable def rxCREW : bx_Ct := ([(3, (1, 480, 0)), (0, (0, 0, 1))], none, [(12, 9), (12, 10), (12, 11), (12, 12), (12, 13), (12, 14), (12, 18), (12, 21), (12, 24), (12, 25), (1068, 0), (1069, 0), (1070, 0), (1071, 0)], 6, [])
noncomputable def rxIREW_0 (S0 : Nat → Int → Int) (ws : List Int) (S : Nat → Int → Int) (test : Int) : Prop := rxIRE_0 S0 ws S test ∧ True
noncomputable def rxmREW_0 (S0 : Nat → Int → Int) (ws : List Int) (S : Nat → Int → Int) (test : Int) : Nat := rxmRE_0 S0 ws S test
noncomputable def rxzREW_0 : rx_Z := ([(0, 0), (0, 0), (0, 0), (0, 0), (0, 0), (0, 0), (0, 0), (0, 0), (0, 1)], [], [], 0, 0, 0, [(0, .inr (3, (0, 480))), (1, .inr (0, (8, 0)))], [])
noncomputable def rxIREW_1 (S0 : Nat → Int → Int) (ws : List Int) (S : Nat → Int → Int) (test turn : Int) : Prop := rxIRE_1 S0 ws S test turn ∧ (ws = [480, test] ∧ (rzCk S0 → rzDq S0 → rzXi S0 S test turn))
noncomputable def rxmREW_1 (S0 : Nat → Int → Int) (ws : List Int) (S : Nat → Int → Int) (test turn : Int) : Nat := rxmRE_1 S0 ws S test turn
noncomputable def rxzREW_1 : rx_Z := ([(0, 0), (0, 0), (0, 0), (0, 0), (0, 0), (0, 0), (0, 0), (0, 0), (0, 1), (0, 4)], [], [], 0, 0, 20, [(0, .inr (3, (0, 480))), (1, .inr (0, (8, 0))), (2, .inr (0, (9, 0)))], [])
noncomputable def rxIREW_2 (S0 : Nat → Int → Int) (ws : List Int) (S : Nat → Int → Int) (test : Int) : Prop := rxIRE_2 S0 ws S test ∧ ((ws = [480, test]) ∧ (rzCk S0 → rzDq S0 → rzXs S0 S test 0))
noncomputable def rxmREW_2 (S0 : Nat → Int → Int) (ws : List Int) (S : Nat → Int → Int) (test : Int) : Nat := rxmRE_2 S0 ws S test
noncomputable def rxzREW_2 : rx_Z := ([(0, 0), (0, 0), (0, 0), (0, 0), (0, 0), (0, 0), (0, 0), (0, 0), (0, 1)], [], [], 0, 0, 37, [(0, .inr (3, (0, 480))), (1, .inr (0, (8, 0)))], [.inr (3, (0, 480))])
noncomputable def rxIREW_3 (S0 : Nat → Int → Int) (ws : List Int) (S : Nat → Int → Int) (test t : Int) : Prop := rxIRE_3 S0 ws S test t ∧ (ws = [480, test] ∧ (rzCk S0 → rzDq S0 → rzXi S0 S test t))
noncomputable def rxmREW_3 (S0 : Nat → Int → Int) (ws : List Int) (S : Nat → Int → Int) (test t : Int) : Nat := rxmRE_3 S0 ws S test t
noncomputable def rxzREW_3 : rx_Z := ([(0, 0), (0, 0), (0, 0), (0, 0), (0, 0), (0, 0), (0, 0), (0, 0), (0, 1), (0, 3)], [], [], 0, 0, 40, [(0, .inr (3, (0, 480))), (1, .inr (0, (8, 0)))], [.inr (0, (9, 0))])
noncomputable def rxIREW_4 (S0 : Nat → Int → Int) (ws : List Int) (S : Nat → Int → Int) (test : Int) : Prop := rxIRE_4 S0 ws S test ∧ ((ws = [480, test]) ∧ (rzCk S0 → rzDq S0 → rzXs S0 S test 1))
noncomputable def rxmREW_4 (S0 : Nat → Int → Int) (ws : List Int) (S : Nat → Int → Int) (test : Int) : Nat := rxmRE_4 S0 ws S test
noncomputable def rxzREW_4 : rx_Z := ([(0, 0), (0, 0), (0, 0), (0, 0), (0, 0), (0, 0), (0, 0), (0, 0), (0, 1)], [], [], 0, 0, 49, [(0, .inr (3, (0, 480))), (1, .inr (0, (8, 0)))], [.inr (3, (0, 480))])
noncomputable def rxIREW_5 (S0 : Nat → Int → Int) (ws : List Int) (S : Nat → Int → Int) (test t : Int) : Prop := rxIRE_5 S0 ws S test t ∧ (ws = [480, test] ∧ (rzCk S0 → rzDq S0 → rzXi S0 S test t))
noncomputable def rxmREW_5 (S0 : Nat → Int → Int) (ws : List Int) (S : Nat → Int → Int) (test t : Int) : Nat := rxmRE_5 S0 ws S test t
noncomputable def rxzREW_5 : rx_Z := ([(0, 0), (0, 0), (0, 0), (0, 0), (0, 0), (0, 0), (0, 0), (0, 0), (0, 1), (0, 3)], [], [], 0, 0, 52, [(0, .inr (3, (0, 480))), (1, .inr (0, (8, 0)))], [.inr (0, (9, 0))])
noncomputable def rxIREW_6 (S0 : Nat → Int → Int) (ws : List Int) (S : Nat → Int → Int) (test tb : Int) : Prop := rxIRE_6 S0 ws S test tb ∧ (tb = test ∧ ((ws = [480, test]) ∧ (rzCk S0 → rzDq S0 → rzXs S0 S test 3)))
noncomputable def rxmREW_6 (S0 : Nat → Int → Int) (ws : List Int) (S : Nat → Int → Int) (test tb : Int) : Nat := rxmRE_6 S0 ws S test tb
noncomputable def rxzREW_6 : rx_Z := ([(0, 0), (0, 0), (0, 0), (0, 0), (0, 0), (0, 0), (0, 0), (0, 0), (0, 1), (0, 1)], [], [], 0, 0, 62, [(0, .inr (3, (0, 480))), (1, .inr (0, (8, 0)))], [.inr (0, (9, 0)), .inr (3, (0, 480))])
noncomputable def rxIREW_7 (S0 : Nat → Int → Int) (ws : List Int) (S : Nat → Int → Int) (test tb t : Int) : Prop := rxIRE_7 S0 ws S test tb t ∧ (ws = [480, test] ∧ (rzCk S0 → rzDq S0 → rzXi S0 S test t))
noncomputable def rxmREW_7 (S0 : Nat → Int → Int) (ws : List Int) (S : Nat → Int → Int) (test tb t : Int) : Nat := rxmRE_7 S0 ws S test tb t
noncomputable def rxzREW_7 : rx_Z := ([(0, 0), (0, 0), (0, 0), (0, 0), (0, 0), (0, 0), (0, 0), (0, 0), (0, 1), (0, 1), (0, 4)], [], [], 0, 0, 65, [(0, .inr (3, (0, 480))), (1, .inr (0, (8, 0)))], [.inr (0, (10, 0))])
noncomputable def rxIREW_8 (S0 : Nat → Int → Int) (ws : List Int) (S : Nat → Int → Int) (test : Int) : Prop := rxIRE_8 S0 ws S test ∧ ((ws = [480, test]) ∧ (rzCk S0 → rzDq S0 → rzXs S0 S test 2))
noncomputable def rxmREW_8 (S0 : Nat → Int → Int) (ws : List Int) (S : Nat → Int → Int) (test : Int) : Nat := rxmRE_8 S0 ws S test
noncomputable def rxzREW_8 : rx_Z := ([(0, 0), (0, 0), (0, 0), (0, 0), (0, 0), (0, 0), (0, 0), (0, 0), (0, 1)], [], [], 0, 0, 69, [(0, .inr (3, (0, 480))), (1, .inr (0, (8, 0)))], [.inr (3, (0, 480))])
noncomputable def rxIREW_9 (S0 : Nat → Int → Int) (ws : List Int) (S : Nat → Int → Int) (test t : Int) : Prop := rxIRE_9 S0 ws S test t ∧ (ws = [480, test] ∧ (rzCk S0 → rzDq S0 → rzXi S0 S test t))
noncomputable def rxmREW_9 (S0 : Nat → Int → Int) (ws : List Int) (S : Nat → Int → Int) (test t : Int) : Nat := rxmRE_9 S0 ws S test t
noncomputable def rxzREW_9 : rx_Z := ([(0, 0), (0, 0), (0, 0), (0, 0), (0, 0), (0, 0), (0, 0), (0, 0), (0, 1), (0, 4)], [], [], 0, 0, 72, [(0, .inr (3, (0, 480))), (1, .inr (0, (8, 0)))], [.inr (0, (9, 0))])
noncomputable def rxIREW_10 (S0 : Nat → Int → Int) (ws : List Int) (S : Nat → Int → Int) : Prop := rxIRE_10 S0 ws S ∧ (∀ tst : Int, ws = [480, tst] → rzCk S0 → rzDq S0 → rzXo S0 S tst)
noncomputable def rxmREW_10 (S0 : Nat → Int → Int) (ws : List Int) (S : Nat → Int → Int) : Nat := rxmRE_10 S0 ws S
noncomputable def rxzREW_10 : rx_Z := ([(0, 0), (0, 0), (0, 0), (0, 0), (0, 0), (0, 0), (0, 0), (0, 0)], [], [], 0, 0, 78, [(0, .inr (3, (0, 480)))], [.inr (0, (0, 1)), .inr (3, (0, 480))])
noncomputable def rxIREW_11 (S0 : Nat → Int → Int) (ws : List Int) (S : Nat → Int → Int) : Prop := rxIRE_11 S0 ws S ∧ (∀ tst : Int, ws = [480, tst] → rzCk S0 → rzDq S0 → rzXo S0 S tst)
noncomputable def rxmREW_11 (S0 : Nat → Int → Int) (ws : List Int) (S : Nat → Int → Int) : Nat := rxmRE_11 S0 ws S
noncomputable def rxzREW_11 : rx_Z := ([(0, 0), (0, 0), (0, 0), (0, 0), (0, 0), (0, 0), (0, 0), (0, 0)], [], [], 0, 0, 81, [(0, .inr (3, (0, 480)))], [])
noncomputable def rxoREW_0_0 : bx_HO := (([(0, 0), (0, 0), (0, 0), (0, 0), (0, 0), (0, 0), (0, 0), (0, 0), (1, 1)], [(3, (8, 0), (0, 0))], [(((0, 0), 1851192626986356802442008000046409524956554626371924516682072067000000), .inr (0, (0, 0))), (((0, 480), 25), .inr (0, (0, 0))), (((0, 0), 1851192626986356802241301293259633916682733161918089263128248323000000), .inr (0, (0, 0))), (((0, 480), 24), .inr (0, (0, 0)))], 0, 0, 20, [(2, .inr (0, (0, 0))), (0, .inr (3, (0, 480))), (1, .inr (0, (8, 0)))], []), [], [], [(0, 0), (0, 0), (0, 0), (0, 0), (0, 0), (0, 0), (0, 0), (0, 0), (8, 0), (0, 0)], 1)
noncomputable def rxoREW_0_1 : bx_HO := (([(0, 0), (0, 0), (0, 0), (0, 0), (0, 0), (0, 0), (0, 0), (0, 0), (0, 0)], [], [(((0, 0), 1851192626986356802442008000046409524956554626371924516682072067000000), .inr (0, (0, 0))), (((0, 480), 25), .inr (0, (0, 0))), (((0, 0), 1851192626986356802241301293259633916682733161918089263128248323000000), .inr (0, (0, 0))), (((0, 480), 24), .inr (0, (0, 0)))], 0, 0, 20, [(2, .inr (0, (0, 1))), (0, .inr (3, (0, 480))), (1, .inr (0, (8, 0)))], []), [], [], [(0, 0), (0, 0), (0, 0), (0, 0), (0, 0), (0, 0), (0, 0), (0, 0), (8, 0), (0, 1)], 1)
noncomputable def rxoREW_1_0 : bx_HO := (([(0, 0), (0, 0), (0, 0), (0, 0), (0, 0), (0, 0), (0, 0), (0, 0), (0, 1), (0, 0), (0, 0)], [(3, (9, 0), (0, 4))], [(((0, 0), 1851192626986356800234234225391877833944518517379736727590010880000000), .inr (0, (10, 0))), (((0, 480), 14), .inr (0, (10, 0)))], 0, 0, 37, [(0, .inr (3, (0, 480))), (1, .inr (0, (8, 0))), (2, .inr (0, (9, 0)))], [.inr (3, (0, 480))]), [], [], [(0, 0), (0, 0), (0, 0), (0, 0), (0, 0), (0, 0), (0, 0), (0, 0), (8, 0)], 2)
noncomputable def rxoREW_1_1 : bx_HO := (([(0, 0), (0, 0), (0, 0), (0, 0), (0, 0), (0, 0), (0, 0), (0, 0), (0, 1), (1, 1), (0, 0)], [(3, (9, 0), (0, 0)), (3, (9, 0), (0, 4))], [(((0, 0), 1851192626986356800234234225391877833944518517379736727590010880000000), .inr (0, (10, 0))), (((0, 480), 14), .inr (0, (10, 0)))], 0, 0, 49, [(0, .inr (3, (0, 480))), (1, .inr (0, (8, 0))), (2, .inr (0, (9, 0)))], [.inr (3, (0, 480))]), [], [], [(0, 0), (0, 0), (0, 0), (0, 0), (0, 0), (0, 0), (0, 0), (0, 0), (8, 0)], 4)
noncomputable def rxoREW_1_2 : bx_HO := (([(0, 0), (0, 0), (0, 0), (0, 0), (0, 0), (0, 0), (0, 0), (0, 0), (0, 1), (3, 3), (0, 0)], [(3, (9, 0), (0, 1)), (3, (9, 0), (0, 0)), (3, (9, 0), (0, 4))], [(((0, 0), 1851192626986356800234234225391877833944518517379736727590010880000000), .inr (0, (10, 0))), (((0, 480), 14), .inr (0, (10, 0)))], 0, 0, 62, [(0, .inr (3, (0, 480))), (1, .inr (0, (8, 0))), (2, .inr (0, (9, 0)))], [.inr (0, (8, 0)), .inr (3, (0, 480))]), [], [], [(0, 0), (0, 0), (0, 0), (0, 0), (0, 0), (0, 0), (0, 0), (0, 0), (8, 0), (8, 0)], 6)
noncomputable def rxoREW_1_3 : bx_HO := (([(0, 0), (0, 0), (0, 0), (0, 0), (0, 0), (0, 0), (0, 0), (0, 0), (0, 1), (2, 2), (0, 0)], [(3, (9, 0), (0, 3)), (3, (9, 0), (0, 1)), (3, (9, 0), (0, 0)), (3, (9, 0), (0, 4))], [(((0, 0), 1851192626986356800234234225391877833944518517379736727590010880000000), .inr (0, (10, 0))), (((0, 480), 14), .inr (0, (10, 0)))], 0, 0, 69, [(0, .inr (3, (0, 480))), (1, .inr (0, (8, 0))), (2, .inr (0, (9, 0)))], [.inr (3, (0, 480))]), [], [], [(0, 0), (0, 0), (0, 0), (0, 0), (0, 0), (0, 0), (0, 0), (0, 0), (8, 0)], 8)
noncomputable def rxoREW_1_4 : bx_HO := (([(0, 0), (0, 0), (0, 0), (0, 0), (0, 0), (0, 0), (0, 0), (0, 0), (0, 1), (4, 4), (0, 0)], [], [(((0, 0), 1851192626986356800234234225391877833944518517379736727590010880000000), .inr (0, (10, 0))), (((0, 480), 14), .inr (0, (10, 0)))], 0, 0, 78, [(0, .inr (3, (0, 480))), (1, .inr (0, (8, 0))), (2, .inr (0, (9, 0)))], [.inr (0, (0, 1)), .inr (3, (0, 480))]), [], [], [(0, 0), (0, 0), (0, 0), (0, 0), (0, 0), (0, 0), (0, 0), (0, 0)], 10)
noncomputable def rxoREW_1_5 : bx_HO := (([(0, 0), (0, 0), (0, 0), (0, 0), (0, 0), (0, 0), (0, 0), (0, 0), (0, 1), (0, 4), (1, 1)], [(3, (10, 0), (0, 0))], [(((0, 0), 1851192626986356800234234225391877833944518517379736727590010880000000), .inr (0, (10, 0))), (((0, 480), 14), .inr (0, (10, 0)))], 0, 0, 78, [(0, .inr (3, (0, 480))), (1, .inr (0, (8, 0))), (2, .inr (0, (9, 0)))], [.inr (0, (0, 1)), .inr (3, (0, 480))]), [], [], [(0, 0), (0, 0), (0, 0), (0, 0), (0, 0), (0, 0), (0, 0), (0, 0)], 10)
noncomputable def rxoREW_3_0 : bx_HO := (([(0, 0), (0, 0), (0, 0), (0, 0), (0, 0), (0, 0), (0, 0), (0, 0), (0, 1), (0, 3)], [], [], 0, 0, 20, [(2, .inr (0, (9, 0))), (0, .inr (3, (0, 480))), (1, .inr (0, (8, 0)))], []), [], [], [(0, 0), (0, 0), (0, 0), (0, 0), (0, 0), (0, 0), (0, 0), (0, 0), (8, 0), (9, 0)], 1)
noncomputable def rxoREW_5_0 : bx_HO := (([(0, 0), (0, 0), (0, 0), (0, 0), (0, 0), (0, 0), (0, 0), (0, 0), (0, 1), (0, 3)], [], [], 0, 0, 20, [(2, .inr (0, (9, 0))), (0, .inr (3, (0, 480))), (1, .inr (0, (8, 0)))], []), [], [], [(0, 0), (0, 0), (0, 0), (0, 0), (0, 0), (0, 0), (0, 0), (0, 0), (8, 0), (9, 0)], 1)
noncomputable def rxoREW_7_0 : bx_HO := (([(0, 0), (0, 0), (0, 0), (0, 0), (0, 0), (0, 0), (0, 0), (0, 0), (0, 1), (0, 1), (0, 4)], [], [], 0, 0, 20, [(2, .inr (0, (10, 0))), (0, .inr (3, (0, 480))), (1, .inr (0, (8, 0)))], []), [], [], [(0, 0), (0, 0), (0, 0), (0, 0), (0, 0), (0, 0), (0, 0), (0, 0), (8, 0), (10, 0)], 1)
noncomputable def rxoREW_9_0 : bx_HO := (([(0, 0), (0, 0), (0, 0), (0, 0), (0, 0), (0, 0), (0, 0), (0, 0), (0, 1), (0, 4)], [], [], 0, 0, 20, [(2, .inr (0, (9, 0))), (0, .inr (3, (0, 480))), (1, .inr (0, (8, 0)))], []), [], [], [(0, 0), (0, 0), (0, 0), (0, 0), (0, 0), (0, 0), (0, 0), (0, 0), (8, 0), (9, 0)], 1)
noncomputable def rxeREW_11_0 : rx_End × List (Nat × Int × Int) := (([(0, 0), (0, 0), (0, 0), (0, 0), (0, 0), (0, 0), (0, 0), (0, 0)], [], [], none), [])
noncomputable def rxYREW : List bx_HE := [(rxzREW_0, [rxoREW_0_0, rxoREW_0_1], []), (rxzREW_1, [rxoREW_1_0, rxoREW_1_1, rxoREW_1_2, rxoREW_1_3, rxoREW_1_4, rxoREW_1_5], []), (rxzREW_2, [], []), (rxzREW_3, [rxoREW_3_0], []), (rxzREW_4, [], []), (rxzREW_5, [rxoREW_5_0], []), (rxzREW_6, [], []), (rxzREW_7, [rxoREW_7_0], []), (rxzREW_8, [], []), (rxzREW_9, [rxoREW_9_0], []), (rxzREW_10, [], []), (rxzREW_11, [], [rxeREW_11_0])]
noncomputable def rxUREW (q : bx_HE) : Bool := Nat.beq (rx_zpc q.1) 37 || Nat.beq (rx_zpc q.1) 49 || Nat.beq (rx_zpc q.1) 62 || Nat.beq (rx_zpc q.1) 69 || Nat.beq (rx_zpc q.1) 78
noncomputable def rxYBREW : bx_B := (rxV, rxNP, rxDmf, bx_mdH rxCREW.2.2.1)
set_option maxRecDepth 100000 in
theorem rxYcREW : bx_chkH rxYBREW rxM282 rxCREW rxYREW (rxUREW, fun cut z => rx_ex2 (rxCT rxYBREW rxCnE) cut 30000 rxCREW.2.2.2.1 282 z) = true := by decide +kernel
noncomputable def rxIREW (S0 : Nat → Int → Int) (ws : List Int) (i : Nat) : bx_SP := fun S r => match i with | 0 => rxIREW_0 S0 ws S (r 8) | 1 => rxIREW_1 S0 ws S (r 8) (r 9) | 2 => rxIREW_2 S0 ws S (r 8) | 3 => rxIREW_3 S0 ws S (r 8) (r 9) | 4 => rxIREW_4 S0 ws S (r 8) | 5 => rxIREW_5 S0 ws S (r 8) (r 9) | 6 => rxIREW_6 S0 ws S (r 8) (r 9) | 7 => rxIREW_7 S0 ws S (r 8) (r 9) (r 10) | 8 => rxIREW_8 S0 ws S (r 8) | 9 => rxIREW_9 S0 ws S (r 8) (r 9) | 10 => rxIREW_10 S0 ws S | 11 => rxIREW_11 S0 ws S | _ => False
noncomputable def rxmREW (S0 : Nat → Int → Int) (ws : List Int) (i : Nat) (S : Nat → Int → Int) (r : Nat → Int) : Nat := match i with | 0 => rxmREW_0 S0 ws S (r 8) | 1 => rxmREW_1 S0 ws S (r 8) (r 9) | 2 => rxmREW_2 S0 ws S (r 8) | 3 => rxmREW_3 S0 ws S (r 8) (r 9) | 4 => rxmREW_4 S0 ws S (r 8) | 5 => rxmREW_5 S0 ws S (r 8) (r 9) | 6 => rxmREW_6 S0 ws S (r 8) (r 9) | 7 => rxmREW_7 S0 ws S (r 8) (r 9) (r 10) | 8 => rxmREW_8 S0 ws S (r 8) | 9 => rxmREW_9 S0 ws S (r 8) (r 9) | 10 => rxmREW_10 S0 ws S | 11 => rxmREW_11 S0 ws S | _ => 0
noncomputable def rxPREW (S0 : Nat → Int → Int) (ws : List Int) : Prop := rxPRE S0 ws
noncomputable def rxPSREW (S0 : Nat → Int → Int) (ws : List Int) (S : Nat → Int → Int) (w : Option Int) : Prop := w = none ∧ rxPSRE S0 ws S w ∧ (∀ tst : Int, ws = [480, tst] → rzCk S0 → rzDq S0 → rzXo S0 S tst)
theorem rxkREW_2 {S0 : Nat → Int → Int} {ws : List Int} {S : Nat → Int → Int} {test : Int} (hP : rxPREW S0 ws) (hin : bx_same rxL (bx_mdl rxCREW.2.2.1) S0 S) (I0 : bx_Inv rxL S) (hinv : rxIREW_2 S0 ws S test) (l8 : 0 ≤ test) (u8 : test ≤ 1) : rxPRNW S [480] ∧ ∀ (S_p : Nat → Int → Int) (t : Int), 0 ≤ t → t ≤ 3 → rxPSRNW S [480] S_p (some t) → bx_Inv rxL S_p → bx_same rxL (bx_mdl rxCRNW.2.2.1) S S_p → rxIREW_3 S0 ws S_p test t ∧ rxmREW_3 S0 ws S_p test t < rxmREW_2 S0 ws S test := by
  obtain ⟨hI, hx⟩ := hinv
  have g_ := rxkRE_2 hP hin I0 hI l8 u8
  exact ⟨g_.1, fun S_p t l_ u_ hq I1 hsm => ⟨⟨(g_.2 S_p t l_ u_ hq.1 I1 hsm).1, ⟨hx.1, fun c hD => by
    obtain ⟨k, d, s, rest, r, hc, hr⟩ := hx.2 c hD
    unfold rzTc at hc
    have h14 := hI.2.1
    rw [decide_eq_false (by omega)] at hr
    have e : s = 1 := by omega
    subst e
    exact rzXi_tn k hr (hq.2 (k.2.2.2.2 c) d test rest r)⟩⟩, (g_.2 S_p t l_ u_ hq.1 I1 hsm).2⟩⟩
theorem rxsREW_2 {X : (Nat → Int → Int) → Prop} {S0 : Nat → Int → Int} {ws : List Int} (hP : rxPREW S0 ws) : rx_obK X S0 rxCREW.2.2.1 rxCRNW.2.2.1 (rxIREW S0 ws) (rxmREW S0 ws) 2 3 rxzREW_2 rxzREW_3 [.inr (3, (0, 480))] (some 9) rxPRNW rxPSRNW := by
  intro S r hinv hXS I0 hin hs_ hf_
  have b_ := bx_bds_sat hs_
  have f_ := bx_fcl_ok hs_.1 hf_
  obtain ⟨⟨l8, u8⟩, -⟩ := b_
  have g := rxkREW_2 hP hin I0 hinv l8 u8
  have ea : List.map (bx_num r) [.inr (3, (0, 480))] = [480] := by
    simp only [List.map_cons, List.map_nil, bx_xv_ok hs_.1]
    rfl
  rw [ea]
  refine ⟨g.1, fun S_p w r_p hPS hX_p I1 hsm hr hw hs_p => ?_⟩
  have hw := hw _ rfl
  subst hw
  have b_p := hs_p.2.2 9 _ _ rfl
  have g2 := g.2 S_p (r_p 9) b_p.1 b_p.2 hPS I1 hsm
  show rxIREW_3 S0 ws S_p (r_p 8) (r_p 9) ∧ rxmREW_3 S0 ws S_p (r_p 8) (r_p 9) < _
  rw [hr 8 (by decide)]
  exact g2
theorem rxkREW_4 {S0 : Nat → Int → Int} {ws : List Int} {S : Nat → Int → Int} {test : Int} (hP : rxPREW S0 ws) (hin : bx_same rxL (bx_mdl rxCREW.2.2.1) S0 S) (I0 : bx_Inv rxL S) (hinv : rxIREW_4 S0 ws S test) (l8 : 0 ≤ test) (u8 : test ≤ 1) : rxPRPW S [480] ∧ ∀ (S_p : Nat → Int → Int) (t : Int), 0 ≤ t → t ≤ 3 → rxPSRPW S [480] S_p (some t) → bx_Inv rxL S_p → bx_same rxL (bx_mdl rxCRPW.2.2.1) S S_p → rxIREW_5 S0 ws S_p test t ∧ rxmREW_5 S0 ws S_p test t < rxmREW_4 S0 ws S test := by
  obtain ⟨hI, hx⟩ := hinv
  have g_ := rxkRE_4 hP hin I0 hI l8 u8
  exact ⟨g_.1, fun S_p t l_ u_ hq I1 hsm => ⟨⟨(g_.2 S_p t l_ u_ hq.1 I1 hsm).1, ⟨hx.1, fun c hD => by
    obtain ⟨k, d, s, rest, r, hc, hr⟩ := hx.2 c hD
    unfold rzTc at hc
    have h14 := hI.2.1
    rw [decide_eq_false (by omega)] at hr
    exact rzXi_tn k hr (hq.2 (k.2.2.2.2 c) d test s rest r (by omega) (fun g => by omega) (fun g => by omega))⟩⟩, (g_.2 S_p t l_ u_ hq.1 I1 hsm).2⟩⟩
theorem rxsREW_4 {X : (Nat → Int → Int) → Prop} {S0 : Nat → Int → Int} {ws : List Int} (hP : rxPREW S0 ws) : rx_obK X S0 rxCREW.2.2.1 rxCRPW.2.2.1 (rxIREW S0 ws) (rxmREW S0 ws) 4 5 rxzREW_4 rxzREW_5 [.inr (3, (0, 480))] (some 9) rxPRPW rxPSRPW := by
  intro S r hinv hXS I0 hin hs_ hf_
  have b_ := bx_bds_sat hs_
  have f_ := bx_fcl_ok hs_.1 hf_
  obtain ⟨⟨l8, u8⟩, -⟩ := b_
  have g := rxkREW_4 hP hin I0 hinv l8 u8
  have ea : List.map (bx_num r) [.inr (3, (0, 480))] = [480] := by
    simp only [List.map_cons, List.map_nil, bx_xv_ok hs_.1]
    rfl
  rw [ea]
  refine ⟨g.1, fun S_p w r_p hPS hX_p I1 hsm hr hw hs_p => ?_⟩
  have hw := hw _ rfl
  subst hw
  have b_p := hs_p.2.2 9 _ _ rfl
  have g2 := g.2 S_p (r_p 9) b_p.1 b_p.2 hPS I1 hsm
  show rxIREW_5 S0 ws S_p (r_p 8) (r_p 9) ∧ rxmREW_5 S0 ws S_p (r_p 8) (r_p 9) < _
  rw [hr 8 (by decide)]
  exact g2
theorem rxkREW_6 {S0 : Nat → Int → Int} {ws : List Int} {S : Nat → Int → Int} {test tb : Int} (hP : rxPREW S0 ws) (hin : bx_same rxL (bx_mdl rxCREW.2.2.1) S0 S) (I0 : bx_Inv rxL S) (hinv : rxIREW_6 S0 ws S test tb) (l8 : 0 ≤ test) (u8 : test ≤ 1) (l9 : 0 ≤ tb) (u9 : tb ≤ 1) : rxPBSW S [480, tb] ∧ ∀ (S_p : Nat → Int → Int) (t : Int), 0 ≤ t → t ≤ 4 → rxPSBSW S [480, tb] S_p (some t) → bx_Inv rxL S_p → bx_same rxL (bx_mdl rxCBSW.2.2.1) S S_p → rxIREW_7 S0 ws S_p test tb t ∧ rxmREW_7 S0 ws S_p test tb t < rxmREW_6 S0 ws S test tb := by
  obtain ⟨hI, hx⟩ := hinv
  have g_ := rxkRE_6 hP hin I0 hI l8 u8 l9 u9
  exact ⟨g_.1, fun S_p t l_ u_ hq I1 hsm => ⟨⟨(g_.2 S_p t l_ u_ hq.1 I1 hsm).1, ⟨hx.2.1, fun c hD => by
    obtain ⟨k, d, s, rest, r, hc, hr⟩ := hx.2.2 c hD
    unfold rzTc at hc
    have h14 := hI.2.1
    have htb := hx.1
    rw [decide_eq_true (by omega)] at hr
    exact rzXi_to k d h14 r hr (hq.2 (k.2.2.2.2 c) d test s rest (by rw [show tb = test by omega]) r (by omega))⟩⟩, (g_.2 S_p t l_ u_ hq.1 I1 hsm).2⟩⟩
theorem rxsREW_6 {X : (Nat → Int → Int) → Prop} {S0 : Nat → Int → Int} {ws : List Int} (hP : rxPREW S0 ws) : rx_obK X S0 rxCREW.2.2.1 rxCBSW.2.2.1 (rxIREW S0 ws) (rxmREW S0 ws) 6 7 rxzREW_6 rxzREW_7 [.inr (3, (0, 480)), .inr (0, (9, 0))] (some 10) rxPBSW rxPSBSW := by
  intro S r hinv hXS I0 hin hs_ hf_
  have b_ := bx_bds_sat hs_
  have f_ := bx_fcl_ok hs_.1 hf_
  obtain ⟨⟨l8, u8⟩, ⟨l9, u9⟩, -⟩ := b_
  have g := rxkREW_6 hP hin I0 hinv l8 u8 l9 u9
  have ea : List.map (bx_num r) [.inr (3, (0, 480)), .inr (0, (9, 0))] = [480, (r 9)] := by
    simp only [List.map_cons, List.map_nil, bx_xv_ok hs_.1]
    rfl
  rw [ea]
  refine ⟨g.1, fun S_p w r_p hPS hX_p I1 hsm hr hw hs_p => ?_⟩
  have hw := hw _ rfl
  subst hw
  have b_p := hs_p.2.2 10 _ _ rfl
  have g2 := g.2 S_p (r_p 10) b_p.1 b_p.2 hPS I1 hsm
  show rxIREW_7 S0 ws S_p (r_p 8) (r_p 9) (r_p 10) ∧ rxmREW_7 S0 ws S_p (r_p 8) (r_p 9) (r_p 10) < _
  rw [hr 8 (by decide), hr 9 (by decide)]
  exact g2
theorem rxkREW_8 {S0 : Nat → Int → Int} {ws : List Int} {S : Nat → Int → Int} {test : Int} (hP : rxPREW S0 ws) (hin : bx_same rxL (bx_mdl rxCREW.2.2.1) S0 S) (I0 : bx_Inv rxL S) (hinv : rxIREW_8 S0 ws S test) (l8 : 0 ≤ test) (u8 : test ≤ 1) : rxPBTW S [480] ∧ ∀ (S_p : Nat → Int → Int) (t : Int), 0 ≤ t → t ≤ 4 → rxPSBTW S [480] S_p (some t) → bx_Inv rxL S_p → bx_same rxL (bx_mdl rxCBTW.2.2.1) S S_p → rxIREW_9 S0 ws S_p test t ∧ rxmREW_9 S0 ws S_p test t < rxmREW_8 S0 ws S test := by
  obtain ⟨hI, hx⟩ := hinv
  have g_ := rxkRE_8 hP hin I0 hI l8 u8
  exact ⟨g_.1, fun S_p t l_ u_ hq I1 hsm => ⟨⟨(g_.2 S_p t l_ u_ hq.1 I1 hsm).1, ⟨hx.1, fun c hD => by
    obtain ⟨k, d, s, rest, r, hc, hr⟩ := hx.2 c hD
    unfold rzTc at hc
    have h14 := hI.2.1
    rw [decide_eq_true (by omega)] at hr
    exact rzXi_to k d h14 r hr (hq.2 (k.2.2.2.2 c) d test s rest r (by omega) (fun g => by
      rcases hc with v | v
      · omega
      · exact v.2.2))⟩⟩, (g_.2 S_p t l_ u_ hq.1 I1 hsm).2⟩⟩
theorem rxsREW_8 {X : (Nat → Int → Int) → Prop} {S0 : Nat → Int → Int} {ws : List Int} (hP : rxPREW S0 ws) : rx_obK X S0 rxCREW.2.2.1 rxCBTW.2.2.1 (rxIREW S0 ws) (rxmREW S0 ws) 8 9 rxzREW_8 rxzREW_9 [.inr (3, (0, 480))] (some 9) rxPBTW rxPSBTW := by
  intro S r hinv hXS I0 hin hs_ hf_
  have b_ := bx_bds_sat hs_
  have f_ := bx_fcl_ok hs_.1 hf_
  obtain ⟨⟨l8, u8⟩, -⟩ := b_
  have g := rxkREW_8 hP hin I0 hinv l8 u8
  have ea : List.map (bx_num r) [.inr (3, (0, 480))] = [480] := by
    simp only [List.map_cons, List.map_nil, bx_xv_ok hs_.1]
    rfl
  rw [ea]
  refine ⟨g.1, fun S_p w r_p hPS hX_p I1 hsm hr hw hs_p => ?_⟩
  have hw := hw _ rfl
  subst hw
  have b_p := hs_p.2.2 9 _ _ rfl
  have g2 := g.2 S_p (r_p 9) b_p.1 b_p.2 hPS I1 hsm
  show rxIREW_9 S0 ws S_p (r_p 8) (r_p 9) ∧ rxmREW_9 S0 ws S_p (r_p 8) (r_p 9) < _
  rw [hr 8 (by decide)]
  exact g2
theorem rxkREW_10 {S0 : Nat → Int → Int} {ws : List Int} {S : Nat → Int → Int} (hP : rxPREW S0 ws) (hin : bx_same rxL (bx_mdl rxCREW.2.2.1) S0 S) (I0 : bx_Inv rxL S) (hinv : rxIREW_10 S0 ws S)  : rxPST S [480, 1] ∧ ∀ (S_p : Nat → Int → Int), rxPSST S [480, 1] S_p none → bx_Inv rxL S_p → bx_same rxL (bx_mdl rxCST.2.2.1) S S_p → rxIREW_11 S0 ws S_p ∧ rxmREW_11 S0 ws S_p < rxmREW_10 S0 ws S := by
  obtain ⟨hI, hx⟩ := hinv
  have g_ := rxkRE_10 hP hin I0 hI
  exact ⟨g_.1, fun S_p hq I1 hsm => ⟨⟨(g_.2 S_p hq I1 hsm).1, (fun tst ht c hD => by
    have g := hx tst ht c hD
    have e14 := (show S_p 480 14 = S 480 14 from hsm 480 14 (by decide) (by decide) (by decide +kernel))
    have e9 : S_p 480 9 = S 480 9 := hsm 480 9 (by decide) (by decide) (by decide +kernel)
    have e21 : S_p 480 21 = S 480 21 := hsm 480 21 (by decide) (by decide) (by decide +kernel)
    have e13 : S_p 480 13 = S 480 13 := hsm 480 13 (by decide) (by decide) (by decide +kernel)
    refine ⟨fun z => ?_, fun z => ?_⟩
    · obtain ⟨a, b, r, r1, r2, r3, r4⟩ := g.1 (by omega)
      exact ⟨a.tr (rzKr_of hsm (by decide +kernel)), rzDq_c b (rzKr_of hsm (by decide +kernel)) (rzTs_of hsm (by decide +kernel)), r, r1, r2, e9.trans r3, e21.trans r4⟩
    · obtain ⟨r, r1, r2, r3⟩ := g.2 (by omega)
      exact ⟨r, r1, r2, e13.trans r3⟩)⟩, (g_.2 S_p hq I1 hsm).2⟩⟩
theorem rxsREW_10 {X : (Nat → Int → Int) → Prop} {S0 : Nat → Int → Int} {ws : List Int} (hP : rxPREW S0 ws) : rx_obK X S0 rxCREW.2.2.1 rxCST.2.2.1 (rxIREW S0 ws) (rxmREW S0 ws) 10 11 rxzREW_10 rxzREW_11 [.inr (3, (0, 480)), .inr (0, (0, 1))] none rxPST rxPSST := by
  intro S r hinv hXS I0 hin hs_ hf_
  have b_ := bx_bds_sat hs_
  have f_ := bx_fcl_ok hs_.1 hf_
  have g := rxkREW_10 hP hin I0 hinv 
  have ea : List.map (bx_num r) [.inr (3, (0, 480)), .inr (0, (0, 1))] = [480, 1] := by
    simp only [List.map_cons, List.map_nil, bx_xv_ok hs_.1]
    rfl
  rw [ea]
  refine ⟨g.1, fun S_p w r_p hPS hX_p I1 hsm hr hw hs_p => ?_⟩
  have hw : w = none := hPS.1
  subst hw
  have g2 := g.2 S_p hPS I1 hsm
  show rxIREW_11 S0 ws S_p ∧ rxmREW_11 S0 ws S_p < _
  exact g2
theorem rxcREW_0_0 {S0 : Nat → Int → Int} {ws : List Int} {S : Nat → Int → Int} {test : Int} (hP : rxPREW S0 ws) (hin : bx_same rxL (bx_mdl rxCREW.2.2.1) S0 S) (I0 : bx_Inv rxL S) (hinv : rxIREW_0 S0 ws S test) (l8 : 1 ≤ test) (u8 : test ≤ 1) (f0 : test ≠ 0) : (True) ∧ (True) ∧ rxIREW_1 S0 ws (bx_up (bx_up S 480 24 0) 480 25 0) test 0 ∧ rxmREW_1 S0 ws (bx_up (bx_up S 480 24 0) 480 25 0) test 0 < rxmREW_0 S0 ws S test := by
  obtain ⟨hI, hx⟩ := hinv
  obtain ⟨a_, b_, c_, d_⟩ := rxcRE_0_0 hP hin I0 hI l8 u8 f0
  exact ⟨a_, b_, ⟨c_, (by
    have e := hI.1
    have hw := hI.2
    subst e
    exact ⟨hw, fun c hD => rzXi_0 hD ⟨congrArg rzCut (funext fun _ => (bx_up_ne (by omega)).trans ((bx_up_ne (by omega)))), (bx_up_ne (by omega)).trans ((bx_up_ne (by omega))), (bx_up_ne (by omega)).trans ((bx_up_ne (by omega))), (bx_up_ne (by omega)).trans ((bx_up_ne (by omega))), fun c => rzCk_c c (funext fun _ => (bx_up_ne (by omega)).trans ((bx_up_ne (by omega)))) (funext fun _ => (bx_up_ne (by omega)).trans ((bx_up_ne (by omega))))⟩ ⟨(bx_up_ne (by omega)).trans ((bx_up_ne (by omega))), (bx_up_ne (by omega)).trans ((bx_up_ne (by omega))), (bx_up_ne (by omega)).trans ((bx_up_ne (by omega))), (bx_up_ne (by omega)).trans ((bx_up_ne (by omega)))⟩ ((bx_up_ne (by omega)).trans ((bx_up_ne (by omega)))) (((bx_up_ne (by omega)).trans ((bx_up_ne (by omega)))).trans hP.2.2.1) ((bx_up_ne (by omega)).trans (bx_up_at)) (bx_up_at) (by omega)⟩)⟩, d_⟩
theorem rxgREW_0_0 {X : (Nat → Int → Int) → Prop} {S0 : Nat → Int → Int} {ws : List Int} (hP : rxPREW S0 ws) : bx_obC rxL X S0 rxCREW.2.2.1 (rxIREW S0 ws) (rxmREW S0 ws) 0 rxzREW_0 rxoREW_0_0 := by
  intro S S_p r r_p hinv hX hin hsm_ hseg
  obtain ⟨I0, I1, h0_, hr_, b_, f_, d_⟩ := bx_cl (evs := [(1, (0, 480), (0, 25), .inr (0, (0, 0))), (1, (0, 480), (0, 24), .inr (0, (0, 0)))]) (fvs := [(3, (8, 0), (0, 0), (0, 0))]) hseg (by decide +kernel) (by decide +kernel)
  have hinv : rxIREW_0 S0 ws S (r 8) := hinv
  rw [← hr_ 8 (by decide)] at hinv
  obtain ⟨⟨l8, u8⟩, -⟩ := b_
  obtain ⟨f0, -⟩ := f_
  obtain ⟨T0, ⟨T1, w_, w1⟩, w0⟩ := d_
  subst w0
  subst w1
  subst w_
  have g := rxcREW_0_0 hP hin I0 hinv l8 u8 f0
  refine ⟨bx_narP_ok (l := []) g.1, bx_nfP_ok h0_ (fvs := []) (by decide +kernel) g.2.1, ?_, ?_⟩
  · show rxIREW_1 S0 ws (bx_up (bx_up T1 480 (24) (0)) 480 (25) (0)) (bx_val [(0, 0), (0, 0), (0, 0), (0, 0), (0, 0), (0, 0), (0, 0), (0, 0), (8, 0), (0, 0)] r_p 8) (bx_val [(0, 0), (0, 0), (0, 0), (0, 0), (0, 0), (0, 0), (0, 0), (0, 0), (8, 0), (0, 0)] r_p 9)
    rw [bx_val_x (n := 8) (e := (8, 0)) h0_ rfl, bx_val_x (n := 9) (e := (0, 0)) h0_ rfl]
    exact g.2.2.1
  · show rxmREW_1 S0 ws (bx_up (bx_up T1 480 (24) (0)) 480 (25) (0)) (bx_val [(0, 0), (0, 0), (0, 0), (0, 0), (0, 0), (0, 0), (0, 0), (0, 0), (8, 0), (0, 0)] r_p 8) (bx_val [(0, 0), (0, 0), (0, 0), (0, 0), (0, 0), (0, 0), (0, 0), (0, 0), (8, 0), (0, 0)] r_p 9) < rxmREW_0 S0 ws T1 (r 8)
    rw [bx_val_x (n := 8) (e := (8, 0)) h0_ rfl, bx_val_x (n := 9) (e := (0, 0)) h0_ rfl, ← hr_ 8 (by decide)]
    exact g.2.2.2
theorem rxcREW_0_1 {S0 : Nat → Int → Int} {ws : List Int} {S : Nat → Int → Int} {test : Int} (hP : rxPREW S0 ws) (hin : bx_same rxL (bx_mdl rxCREW.2.2.1) S0 S) (I0 : bx_Inv rxL S) (hinv : rxIREW_0 S0 ws S test) (l8 : 0 ≤ test) (u8 : test ≤ 0) : (True) ∧ (True) ∧ rxIREW_1 S0 ws (bx_up (bx_up S 480 24 0) 480 25 0) test 1 ∧ rxmREW_1 S0 ws (bx_up (bx_up S 480 24 0) 480 25 0) test 1 < rxmREW_0 S0 ws S test := by
  obtain ⟨hI, hx⟩ := hinv
  obtain ⟨a_, b_, c_, d_⟩ := rxcRE_0_1 hP hin I0 hI l8 u8
  exact ⟨a_, b_, ⟨c_, (by
    have e := hI.1
    have hw := hI.2
    subst e
    exact ⟨hw, fun c hD => rzXi_0 hD ⟨congrArg rzCut (funext fun _ => (bx_up_ne (by omega)).trans ((bx_up_ne (by omega)))), (bx_up_ne (by omega)).trans ((bx_up_ne (by omega))), (bx_up_ne (by omega)).trans ((bx_up_ne (by omega))), (bx_up_ne (by omega)).trans ((bx_up_ne (by omega))), fun c => rzCk_c c (funext fun _ => (bx_up_ne (by omega)).trans ((bx_up_ne (by omega)))) (funext fun _ => (bx_up_ne (by omega)).trans ((bx_up_ne (by omega))))⟩ ⟨(bx_up_ne (by omega)).trans ((bx_up_ne (by omega))), (bx_up_ne (by omega)).trans ((bx_up_ne (by omega))), (bx_up_ne (by omega)).trans ((bx_up_ne (by omega))), (bx_up_ne (by omega)).trans ((bx_up_ne (by omega)))⟩ ((bx_up_ne (by omega)).trans ((bx_up_ne (by omega)))) (((bx_up_ne (by omega)).trans ((bx_up_ne (by omega)))).trans hP.2.2.1) ((bx_up_ne (by omega)).trans (bx_up_at)) (bx_up_at) (by omega)⟩)⟩, d_⟩
theorem rxgREW_0_1 {X : (Nat → Int → Int) → Prop} {S0 : Nat → Int → Int} {ws : List Int} (hP : rxPREW S0 ws) : bx_obC rxL X S0 rxCREW.2.2.1 (rxIREW S0 ws) (rxmREW S0 ws) 0 rxzREW_0 rxoREW_0_1 := by
  intro S S_p r r_p hinv hX hin hsm_ hseg
  obtain ⟨I0, I1, h0_, hr_, b_, f_, d_⟩ := bx_cl (evs := [(1, (0, 480), (0, 25), .inr (0, (0, 0))), (1, (0, 480), (0, 24), .inr (0, (0, 0)))]) (fvs := []) hseg (by decide +kernel) (by decide +kernel)
  have hinv : rxIREW_0 S0 ws S (r 8) := hinv
  rw [← hr_ 8 (by decide)] at hinv
  obtain ⟨⟨l8, u8⟩, -⟩ := b_
  obtain ⟨T0, ⟨T1, w_, w1⟩, w0⟩ := d_
  subst w0
  subst w1
  subst w_
  have g := rxcREW_0_1 hP hin I0 hinv l8 u8
  refine ⟨bx_narP_ok (l := []) g.1, bx_nfP_ok h0_ (fvs := []) (by decide +kernel) g.2.1, ?_, ?_⟩
  · show rxIREW_1 S0 ws (bx_up (bx_up T1 480 (24) (0)) 480 (25) (0)) (bx_val [(0, 0), (0, 0), (0, 0), (0, 0), (0, 0), (0, 0), (0, 0), (0, 0), (8, 0), (0, 1)] r_p 8) (bx_val [(0, 0), (0, 0), (0, 0), (0, 0), (0, 0), (0, 0), (0, 0), (0, 0), (8, 0), (0, 1)] r_p 9)
    rw [bx_val_x (n := 8) (e := (8, 0)) h0_ rfl, bx_val_x (n := 9) (e := (0, 1)) h0_ rfl]
    exact g.2.2.1
  · show rxmREW_1 S0 ws (bx_up (bx_up T1 480 (24) (0)) 480 (25) (0)) (bx_val [(0, 0), (0, 0), (0, 0), (0, 0), (0, 0), (0, 0), (0, 0), (0, 0), (8, 0), (0, 1)] r_p 8) (bx_val [(0, 0), (0, 0), (0, 0), (0, 0), (0, 0), (0, 0), (0, 0), (0, 0), (8, 0), (0, 1)] r_p 9) < rxmREW_0 S0 ws T1 (r 8)
    rw [bx_val_x (n := 8) (e := (8, 0)) h0_ rfl, bx_val_x (n := 9) (e := (0, 1)) h0_ rfl, ← hr_ 8 (by decide)]
    exact g.2.2.2
theorem rxcREW_1_0 {S0 : Nat → Int → Int} {ws : List Int} {S : Nat → Int → Int} {test turn x10 : Int} (hP : rxPREW S0 ws) (hin : bx_same rxL (bx_mdl rxCREW.2.2.1) S0 S) (I0 : bx_Inv rxL S) (hinv : rxIREW_1 S0 ws S test turn) (l8 : 0 ≤ test) (u8 : test ≤ 1) (l9 : 0 ≤ turn) (u9 : turn ≤ 0) (l10 : 0 ≤ x10) (u10 : x10 ≤ 0) (f0 : turn ≠ 4) (e0 : S 480 14 = x10) : (True) ∧ (True) ∧ rxIREW_2 S0 ws S test ∧ rxmREW_2 S0 ws S test < rxmREW_1 S0 ws S test turn := by
  obtain ⟨hI, hx⟩ := hinv
  obtain ⟨a_, b_, c_, d_⟩ := rxcRE_1_0 hP hin I0 hI l8 u8 l9 u9 l10 u10 f0 e0
  exact ⟨a_, b_, ⟨c_, ⟨hx.1, fun c hD => by
    rcases (hx.2 c hD).1 (by omega) with q | q
    · omega
    · have e : turn = 0 := by omega
      rw [← e]
      exact q.2⟩⟩, d_⟩
theorem rxgREW_1_0 {X : (Nat → Int → Int) → Prop} {S0 : Nat → Int → Int} {ws : List Int} (hP : rxPREW S0 ws) : bx_obC rxL X S0 rxCREW.2.2.1 (rxIREW S0 ws) (rxmREW S0 ws) 1 rxzREW_1 rxoREW_1_0 := by
  intro S S_p r r_p hinv hX hin hsm_ hseg
  obtain ⟨I0, I1, h0_, hr_, b_, f_, d_⟩ := bx_cl (evs := [(0, (0, 480), (0, 14), .inr (0, (10, 0)))]) (fvs := [(3, (9, 0), (0, 4), (0, 0))]) hseg (by decide +kernel) (by decide +kernel)
  have hinv : rxIREW_1 S0 ws S (r 8) (r 9) := hinv
  rw [← hr_ 8 (by decide), ← hr_ 9 (by decide)] at hinv
  obtain ⟨⟨l8, u8⟩, ⟨l9, u9⟩, ⟨l10, u10⟩, -⟩ := b_
  obtain ⟨f0, -⟩ := f_
  obtain ⟨e0, w_⟩ := d_
  subst w_
  have g := rxcREW_1_0 hP hin I0 hinv l8 u8 l9 u9 l10 u10 f0 e0
  refine ⟨bx_narP_ok (l := []) g.1, bx_nfP_ok h0_ (fvs := []) (by decide +kernel) g.2.1, ?_, ?_⟩
  · show rxIREW_2 S0 ws S_p (bx_val [(0, 0), (0, 0), (0, 0), (0, 0), (0, 0), (0, 0), (0, 0), (0, 0), (8, 0)] r_p 8)
    rw [bx_val_x (n := 8) (e := (8, 0)) h0_ rfl]
    exact g.2.2.1
  · show rxmREW_2 S0 ws S_p (bx_val [(0, 0), (0, 0), (0, 0), (0, 0), (0, 0), (0, 0), (0, 0), (0, 0), (8, 0)] r_p 8) < rxmREW_1 S0 ws S_p (r 8) (r 9)
    rw [bx_val_x (n := 8) (e := (8, 0)) h0_ rfl, ← hr_ 8 (by decide), ← hr_ 9 (by decide)]
    exact g.2.2.2
theorem rxcREW_1_1 {S0 : Nat → Int → Int} {ws : List Int} {S : Nat → Int → Int} {test turn x10 : Int} (hP : rxPREW S0 ws) (hin : bx_same rxL (bx_mdl rxCREW.2.2.1) S0 S) (I0 : bx_Inv rxL S) (hinv : rxIREW_1 S0 ws S test turn) (l8 : 0 ≤ test) (u8 : test ≤ 1) (l9 : 1 ≤ turn) (u9 : turn ≤ 1) (l10 : 0 ≤ x10) (u10 : x10 ≤ 0) (f0 : turn ≠ 0) (f1 : turn ≠ 4) (e0 : S 480 14 = x10) : (True) ∧ (True) ∧ rxIREW_4 S0 ws S test ∧ rxmREW_4 S0 ws S test < rxmREW_1 S0 ws S test turn := by
  obtain ⟨hI, hx⟩ := hinv
  obtain ⟨a_, b_, c_, d_⟩ := rxcRE_1_1 hP hin I0 hI l8 u8 l9 u9 l10 u10 f0 f1 e0
  exact ⟨a_, b_, ⟨c_, ⟨hx.1, fun c hD => by
    rcases (hx.2 c hD).1 (by omega) with q | q
    · omega
    · have e : turn = 1 := by omega
      rw [← e]
      exact q.2⟩⟩, d_⟩
theorem rxgREW_1_1 {X : (Nat → Int → Int) → Prop} {S0 : Nat → Int → Int} {ws : List Int} (hP : rxPREW S0 ws) : bx_obC rxL X S0 rxCREW.2.2.1 (rxIREW S0 ws) (rxmREW S0 ws) 1 rxzREW_1 rxoREW_1_1 := by
  intro S S_p r r_p hinv hX hin hsm_ hseg
  obtain ⟨I0, I1, h0_, hr_, b_, f_, d_⟩ := bx_cl (evs := [(0, (0, 480), (0, 14), .inr (0, (10, 0)))]) (fvs := [(3, (9, 0), (0, 0), (0, 0)), (3, (9, 0), (0, 4), (0, 0))]) hseg (by decide +kernel) (by decide +kernel)
  have hinv : rxIREW_1 S0 ws S (r 8) (r 9) := hinv
  rw [← hr_ 8 (by decide), ← hr_ 9 (by decide)] at hinv
  obtain ⟨⟨l8, u8⟩, ⟨l9, u9⟩, ⟨l10, u10⟩, -⟩ := b_
  obtain ⟨f0, f1, -⟩ := f_
  obtain ⟨e0, w_⟩ := d_
  subst w_
  have g := rxcREW_1_1 hP hin I0 hinv l8 u8 l9 u9 l10 u10 f0 f1 e0
  refine ⟨bx_narP_ok (l := []) g.1, bx_nfP_ok h0_ (fvs := []) (by decide +kernel) g.2.1, ?_, ?_⟩
  · show rxIREW_4 S0 ws S_p (bx_val [(0, 0), (0, 0), (0, 0), (0, 0), (0, 0), (0, 0), (0, 0), (0, 0), (8, 0)] r_p 8)
    rw [bx_val_x (n := 8) (e := (8, 0)) h0_ rfl]
    exact g.2.2.1
  · show rxmREW_4 S0 ws S_p (bx_val [(0, 0), (0, 0), (0, 0), (0, 0), (0, 0), (0, 0), (0, 0), (0, 0), (8, 0)] r_p 8) < rxmREW_1 S0 ws S_p (r 8) (r 9)
    rw [bx_val_x (n := 8) (e := (8, 0)) h0_ rfl, ← hr_ 8 (by decide), ← hr_ 9 (by decide)]
    exact g.2.2.2
theorem rxcREW_1_2 {S0 : Nat → Int → Int} {ws : List Int} {S : Nat → Int → Int} {test turn x10 : Int} (hP : rxPREW S0 ws) (hin : bx_same rxL (bx_mdl rxCREW.2.2.1) S0 S) (I0 : bx_Inv rxL S) (hinv : rxIREW_1 S0 ws S test turn) (l8 : 0 ≤ test) (u8 : test ≤ 1) (l9 : 3 ≤ turn) (u9 : turn ≤ 3) (l10 : 0 ≤ x10) (u10 : x10 ≤ 0) (f0 : turn ≠ 1) (f1 : turn ≠ 0) (f2 : turn ≠ 4) (e0 : S 480 14 = x10) : (True) ∧ (True) ∧ rxIREW_6 S0 ws S test test ∧ rxmREW_6 S0 ws S test test < rxmREW_1 S0 ws S test turn := by
  obtain ⟨hI, hx⟩ := hinv
  obtain ⟨a_, b_, c_, d_⟩ := rxcRE_1_2 hP hin I0 hI l8 u8 l9 u9 l10 u10 f0 f1 f2 e0
  exact ⟨a_, b_, ⟨c_, ⟨rfl, hx.1, fun c hD => by
    rcases (hx.2 c hD).1 (by omega) with q | q
    · omega
    · have e : turn = 3 := by omega
      rw [← e]
      exact q.2⟩⟩, d_⟩
theorem rxgREW_1_2 {X : (Nat → Int → Int) → Prop} {S0 : Nat → Int → Int} {ws : List Int} (hP : rxPREW S0 ws) : bx_obC rxL X S0 rxCREW.2.2.1 (rxIREW S0 ws) (rxmREW S0 ws) 1 rxzREW_1 rxoREW_1_2 := by
  intro S S_p r r_p hinv hX hin hsm_ hseg
  obtain ⟨I0, I1, h0_, hr_, b_, f_, d_⟩ := bx_cl (evs := [(0, (0, 480), (0, 14), .inr (0, (10, 0)))]) (fvs := [(3, (9, 0), (0, 1), (0, 0)), (3, (9, 0), (0, 0), (0, 0)), (3, (9, 0), (0, 4), (0, 0))]) hseg (by decide +kernel) (by decide +kernel)
  have hinv : rxIREW_1 S0 ws S (r 8) (r 9) := hinv
  rw [← hr_ 8 (by decide), ← hr_ 9 (by decide)] at hinv
  obtain ⟨⟨l8, u8⟩, ⟨l9, u9⟩, ⟨l10, u10⟩, -⟩ := b_
  obtain ⟨f0, f1, f2, -⟩ := f_
  obtain ⟨e0, w_⟩ := d_
  subst w_
  have g := rxcREW_1_2 hP hin I0 hinv l8 u8 l9 u9 l10 u10 f0 f1 f2 e0
  refine ⟨bx_narP_ok (l := []) g.1, bx_nfP_ok h0_ (fvs := []) (by decide +kernel) g.2.1, ?_, ?_⟩
  · show rxIREW_6 S0 ws S_p (bx_val [(0, 0), (0, 0), (0, 0), (0, 0), (0, 0), (0, 0), (0, 0), (0, 0), (8, 0), (8, 0)] r_p 8) (bx_val [(0, 0), (0, 0), (0, 0), (0, 0), (0, 0), (0, 0), (0, 0), (0, 0), (8, 0), (8, 0)] r_p 9)
    rw [bx_val_x (n := 8) (e := (8, 0)) h0_ rfl, bx_val_x (n := 9) (e := (8, 0)) h0_ rfl]
    exact g.2.2.1
  · show rxmREW_6 S0 ws S_p (bx_val [(0, 0), (0, 0), (0, 0), (0, 0), (0, 0), (0, 0), (0, 0), (0, 0), (8, 0), (8, 0)] r_p 8) (bx_val [(0, 0), (0, 0), (0, 0), (0, 0), (0, 0), (0, 0), (0, 0), (0, 0), (8, 0), (8, 0)] r_p 9) < rxmREW_1 S0 ws S_p (r 8) (r 9)
    rw [bx_val_x (n := 8) (e := (8, 0)) h0_ rfl, bx_val_x (n := 9) (e := (8, 0)) h0_ rfl, ← hr_ 8 (by decide), ← hr_ 9 (by decide)]
    exact g.2.2.2
theorem rxcREW_1_3 {S0 : Nat → Int → Int} {ws : List Int} {S : Nat → Int → Int} {test turn x10 : Int} (hP : rxPREW S0 ws) (hin : bx_same rxL (bx_mdl rxCREW.2.2.1) S0 S) (I0 : bx_Inv rxL S) (hinv : rxIREW_1 S0 ws S test turn) (l8 : 0 ≤ test) (u8 : test ≤ 1) (l9 : 2 ≤ turn) (u9 : turn ≤ 2) (l10 : 0 ≤ x10) (u10 : x10 ≤ 0) (f0 : turn ≠ 3) (f1 : turn ≠ 1) (f2 : turn ≠ 0) (f3 : turn ≠ 4) (e0 : S 480 14 = x10) : (True) ∧ (True) ∧ rxIREW_8 S0 ws S test ∧ rxmREW_8 S0 ws S test < rxmREW_1 S0 ws S test turn := by
  obtain ⟨hI, hx⟩ := hinv
  obtain ⟨a_, b_, c_, d_⟩ := rxcRE_1_3 hP hin I0 hI l8 u8 l9 u9 l10 u10 f0 f1 f2 f3 e0
  exact ⟨a_, b_, ⟨c_, ⟨hx.1, fun c hD => by
    rcases (hx.2 c hD).1 (by omega) with q | q
    · omega
    · have e : turn = 2 := by omega
      rw [← e]
      exact q.2⟩⟩, d_⟩
theorem rxgREW_1_3 {X : (Nat → Int → Int) → Prop} {S0 : Nat → Int → Int} {ws : List Int} (hP : rxPREW S0 ws) : bx_obC rxL X S0 rxCREW.2.2.1 (rxIREW S0 ws) (rxmREW S0 ws) 1 rxzREW_1 rxoREW_1_3 := by
  intro S S_p r r_p hinv hX hin hsm_ hseg
  obtain ⟨I0, I1, h0_, hr_, b_, f_, d_⟩ := bx_cl (evs := [(0, (0, 480), (0, 14), .inr (0, (10, 0)))]) (fvs := [(3, (9, 0), (0, 3), (0, 0)), (3, (9, 0), (0, 1), (0, 0)), (3, (9, 0), (0, 0), (0, 0)), (3, (9, 0), (0, 4), (0, 0))]) hseg (by decide +kernel) (by decide +kernel)
  have hinv : rxIREW_1 S0 ws S (r 8) (r 9) := hinv
  rw [← hr_ 8 (by decide), ← hr_ 9 (by decide)] at hinv
  obtain ⟨⟨l8, u8⟩, ⟨l9, u9⟩, ⟨l10, u10⟩, -⟩ := b_
  obtain ⟨f0, f1, f2, f3, -⟩ := f_
  obtain ⟨e0, w_⟩ := d_
  subst w_
  have g := rxcREW_1_3 hP hin I0 hinv l8 u8 l9 u9 l10 u10 f0 f1 f2 f3 e0
  refine ⟨bx_narP_ok (l := []) g.1, bx_nfP_ok h0_ (fvs := []) (by decide +kernel) g.2.1, ?_, ?_⟩
  · show rxIREW_8 S0 ws S_p (bx_val [(0, 0), (0, 0), (0, 0), (0, 0), (0, 0), (0, 0), (0, 0), (0, 0), (8, 0)] r_p 8)
    rw [bx_val_x (n := 8) (e := (8, 0)) h0_ rfl]
    exact g.2.2.1
  · show rxmREW_8 S0 ws S_p (bx_val [(0, 0), (0, 0), (0, 0), (0, 0), (0, 0), (0, 0), (0, 0), (0, 0), (8, 0)] r_p 8) < rxmREW_1 S0 ws S_p (r 8) (r 9)
    rw [bx_val_x (n := 8) (e := (8, 0)) h0_ rfl, ← hr_ 8 (by decide), ← hr_ 9 (by decide)]
    exact g.2.2.2
theorem rxcREW_1_4 {S0 : Nat → Int → Int} {ws : List Int} {S : Nat → Int → Int} {test turn x10 : Int} (hP : rxPREW S0 ws) (hin : bx_same rxL (bx_mdl rxCREW.2.2.1) S0 S) (I0 : bx_Inv rxL S) (hinv : rxIREW_1 S0 ws S test turn) (l8 : 0 ≤ test) (u8 : test ≤ 1) (l9 : 4 ≤ turn) (u9 : turn ≤ 4) (l10 : 0 ≤ x10) (u10 : x10 ≤ 0) (e0 : S 480 14 = x10) : (True) ∧ (True) ∧ rxIREW_10 S0 ws S ∧ rxmREW_10 S0 ws S < rxmREW_1 S0 ws S test turn := by
  obtain ⟨hI, hx⟩ := hinv
  obtain ⟨a_, b_, c_, d_⟩ := rxcRE_1_4 hP hin I0 hI l8 u8 l9 u9 l10 u10 e0
  exact ⟨a_, b_, ⟨c_, (fun tst ht c hD => by
    have e : test = tst := Option.some.inj (congrArg (fun l : List Int => l[1]?) (hx.1.symm.trans ht))
    subst e
    have g := hx.2 c hD
    by_cases z : S 480 14 = 0
    · rcases g.1 z with q | q
      · exact q.2
      · omega
    · exact g.2 z)⟩, d_⟩
theorem rxgREW_1_4 {X : (Nat → Int → Int) → Prop} {S0 : Nat → Int → Int} {ws : List Int} (hP : rxPREW S0 ws) : bx_obC rxL X S0 rxCREW.2.2.1 (rxIREW S0 ws) (rxmREW S0 ws) 1 rxzREW_1 rxoREW_1_4 := by
  intro S S_p r r_p hinv hX hin hsm_ hseg
  obtain ⟨I0, I1, h0_, hr_, b_, f_, d_⟩ := bx_cl (evs := [(0, (0, 480), (0, 14), .inr (0, (10, 0)))]) (fvs := []) hseg (by decide +kernel) (by decide +kernel)
  have hinv : rxIREW_1 S0 ws S (r 8) (r 9) := hinv
  rw [← hr_ 8 (by decide), ← hr_ 9 (by decide)] at hinv
  obtain ⟨⟨l8, u8⟩, ⟨l9, u9⟩, ⟨l10, u10⟩, -⟩ := b_
  obtain ⟨e0, w_⟩ := d_
  subst w_
  have g := rxcREW_1_4 hP hin I0 hinv l8 u8 l9 u9 l10 u10 e0
  refine ⟨bx_narP_ok (l := []) g.1, bx_nfP_ok h0_ (fvs := []) (by decide +kernel) g.2.1, ?_, ?_⟩
  · show rxIREW_10 S0 ws S_p
    exact g.2.2.1
  · show rxmREW_10 S0 ws S_p < rxmREW_1 S0 ws S_p (r 8) (r 9)
    rw [← hr_ 8 (by decide), ← hr_ 9 (by decide)]
    exact g.2.2.2
theorem rxcREW_1_5 {S0 : Nat → Int → Int} {ws : List Int} {S : Nat → Int → Int} {test turn x10 : Int} (hP : rxPREW S0 ws) (hin : bx_same rxL (bx_mdl rxCREW.2.2.1) S0 S) (I0 : bx_Inv rxL S) (hinv : rxIREW_1 S0 ws S test turn) (l8 : 0 ≤ test) (u8 : test ≤ 1) (l9 : 0 ≤ turn) (u9 : turn ≤ 4) (l10 : 1 ≤ x10) (u10 : x10 ≤ 1) (f0 : x10 ≠ 0) (e0 : S 480 14 = x10) : (True) ∧ (True) ∧ rxIREW_10 S0 ws S ∧ rxmREW_10 S0 ws S < rxmREW_1 S0 ws S test turn := by
  obtain ⟨hI, hx⟩ := hinv
  obtain ⟨a_, b_, c_, d_⟩ := rxcRE_1_5 hP hin I0 hI l8 u8 l9 u9 l10 u10 f0 e0
  exact ⟨a_, b_, ⟨c_, (fun tst ht c hD => by
    have e : test = tst := Option.some.inj (congrArg (fun l : List Int => l[1]?) (hx.1.symm.trans ht))
    subst e
    have g := hx.2 c hD
    by_cases z : S 480 14 = 0
    · rcases g.1 z with q | q
      · exact q.2
      · omega
    · exact g.2 z)⟩, d_⟩
theorem rxgREW_1_5 {X : (Nat → Int → Int) → Prop} {S0 : Nat → Int → Int} {ws : List Int} (hP : rxPREW S0 ws) : bx_obC rxL X S0 rxCREW.2.2.1 (rxIREW S0 ws) (rxmREW S0 ws) 1 rxzREW_1 rxoREW_1_5 := by
  intro S S_p r r_p hinv hX hin hsm_ hseg
  obtain ⟨I0, I1, h0_, hr_, b_, f_, d_⟩ := bx_cl (evs := [(0, (0, 480), (0, 14), .inr (0, (10, 0)))]) (fvs := [(3, (10, 0), (0, 0), (0, 0))]) hseg (by decide +kernel) (by decide +kernel)
  have hinv : rxIREW_1 S0 ws S (r 8) (r 9) := hinv
  rw [← hr_ 8 (by decide), ← hr_ 9 (by decide)] at hinv
  obtain ⟨⟨l8, u8⟩, ⟨l9, u9⟩, ⟨l10, u10⟩, -⟩ := b_
  obtain ⟨f0, -⟩ := f_
  obtain ⟨e0, w_⟩ := d_
  subst w_
  have g := rxcREW_1_5 hP hin I0 hinv l8 u8 l9 u9 l10 u10 f0 e0
  refine ⟨bx_narP_ok (l := []) g.1, bx_nfP_ok h0_ (fvs := []) (by decide +kernel) g.2.1, ?_, ?_⟩
  · show rxIREW_10 S0 ws S_p
    exact g.2.2.1
  · show rxmREW_10 S0 ws S_p < rxmREW_1 S0 ws S_p (r 8) (r 9)
    rw [← hr_ 8 (by decide), ← hr_ 9 (by decide)]
    exact g.2.2.2
theorem rxcREW_3_0 {S0 : Nat → Int → Int} {ws : List Int} {S : Nat → Int → Int} {test t : Int} (hP : rxPREW S0 ws) (hin : bx_same rxL (bx_mdl rxCREW.2.2.1) S0 S) (I0 : bx_Inv rxL S) (hinv : rxIREW_3 S0 ws S test t) (l8 : 0 ≤ test) (u8 : test ≤ 1) (l9 : 0 ≤ t) (u9 : t ≤ 3) : (True) ∧ (True) ∧ rxIREW_1 S0 ws S test t ∧ rxmREW_1 S0 ws S test t < rxmREW_3 S0 ws S test t := by
  obtain ⟨hI, hx⟩ := hinv
  obtain ⟨a_, b_, c_, d_⟩ := rxcRE_3_0 hP hin I0 hI l8 u8 l9 u9
  exact ⟨a_, b_, ⟨c_, hx⟩, d_⟩
theorem rxgREW_3_0 {X : (Nat → Int → Int) → Prop} {S0 : Nat → Int → Int} {ws : List Int} (hP : rxPREW S0 ws) : bx_obC rxL X S0 rxCREW.2.2.1 (rxIREW S0 ws) (rxmREW S0 ws) 3 rxzREW_3 rxoREW_3_0 := by
  intro S S_p r r_p hinv hX hin hsm_ hseg
  obtain ⟨I0, I1, h0_, hr_, b_, f_, d_⟩ := bx_cl (evs := []) (fvs := []) hseg (by decide +kernel) (by decide +kernel)
  have hinv : rxIREW_3 S0 ws S (r 8) (r 9) := hinv
  rw [← hr_ 8 (by decide), ← hr_ 9 (by decide)] at hinv
  obtain ⟨⟨l8, u8⟩, ⟨l9, u9⟩, -⟩ := b_
  have w_ := d_
  subst w_
  have g := rxcREW_3_0 hP hin I0 hinv l8 u8 l9 u9
  refine ⟨bx_narP_ok (l := []) g.1, bx_nfP_ok h0_ (fvs := []) (by decide +kernel) g.2.1, ?_, ?_⟩
  · show rxIREW_1 S0 ws S_p (bx_val [(0, 0), (0, 0), (0, 0), (0, 0), (0, 0), (0, 0), (0, 0), (0, 0), (8, 0), (9, 0)] r_p 8) (bx_val [(0, 0), (0, 0), (0, 0), (0, 0), (0, 0), (0, 0), (0, 0), (0, 0), (8, 0), (9, 0)] r_p 9)
    rw [bx_val_x (n := 8) (e := (8, 0)) h0_ rfl, bx_val_x (n := 9) (e := (9, 0)) h0_ rfl]
    exact g.2.2.1
  · show rxmREW_1 S0 ws S_p (bx_val [(0, 0), (0, 0), (0, 0), (0, 0), (0, 0), (0, 0), (0, 0), (0, 0), (8, 0), (9, 0)] r_p 8) (bx_val [(0, 0), (0, 0), (0, 0), (0, 0), (0, 0), (0, 0), (0, 0), (0, 0), (8, 0), (9, 0)] r_p 9) < rxmREW_3 S0 ws S_p (r 8) (r 9)
    rw [bx_val_x (n := 8) (e := (8, 0)) h0_ rfl, bx_val_x (n := 9) (e := (9, 0)) h0_ rfl, ← hr_ 8 (by decide), ← hr_ 9 (by decide)]
    exact g.2.2.2
theorem rxcREW_5_0 {S0 : Nat → Int → Int} {ws : List Int} {S : Nat → Int → Int} {test t : Int} (hP : rxPREW S0 ws) (hin : bx_same rxL (bx_mdl rxCREW.2.2.1) S0 S) (I0 : bx_Inv rxL S) (hinv : rxIREW_5 S0 ws S test t) (l8 : 0 ≤ test) (u8 : test ≤ 1) (l9 : 0 ≤ t) (u9 : t ≤ 3) : (True) ∧ (True) ∧ rxIREW_1 S0 ws S test t ∧ rxmREW_1 S0 ws S test t < rxmREW_5 S0 ws S test t := by
  obtain ⟨hI, hx⟩ := hinv
  obtain ⟨a_, b_, c_, d_⟩ := rxcRE_5_0 hP hin I0 hI l8 u8 l9 u9
  exact ⟨a_, b_, ⟨c_, hx⟩, d_⟩
theorem rxgREW_5_0 {X : (Nat → Int → Int) → Prop} {S0 : Nat → Int → Int} {ws : List Int} (hP : rxPREW S0 ws) : bx_obC rxL X S0 rxCREW.2.2.1 (rxIREW S0 ws) (rxmREW S0 ws) 5 rxzREW_5 rxoREW_5_0 := by
  intro S S_p r r_p hinv hX hin hsm_ hseg
  obtain ⟨I0, I1, h0_, hr_, b_, f_, d_⟩ := bx_cl (evs := []) (fvs := []) hseg (by decide +kernel) (by decide +kernel)
  have hinv : rxIREW_5 S0 ws S (r 8) (r 9) := hinv
  rw [← hr_ 8 (by decide), ← hr_ 9 (by decide)] at hinv
  obtain ⟨⟨l8, u8⟩, ⟨l9, u9⟩, -⟩ := b_
  have w_ := d_
  subst w_
  have g := rxcREW_5_0 hP hin I0 hinv l8 u8 l9 u9
  refine ⟨bx_narP_ok (l := []) g.1, bx_nfP_ok h0_ (fvs := []) (by decide +kernel) g.2.1, ?_, ?_⟩
  · show rxIREW_1 S0 ws S_p (bx_val [(0, 0), (0, 0), (0, 0), (0, 0), (0, 0), (0, 0), (0, 0), (0, 0), (8, 0), (9, 0)] r_p 8) (bx_val [(0, 0), (0, 0), (0, 0), (0, 0), (0, 0), (0, 0), (0, 0), (0, 0), (8, 0), (9, 0)] r_p 9)
    rw [bx_val_x (n := 8) (e := (8, 0)) h0_ rfl, bx_val_x (n := 9) (e := (9, 0)) h0_ rfl]
    exact g.2.2.1
  · show rxmREW_1 S0 ws S_p (bx_val [(0, 0), (0, 0), (0, 0), (0, 0), (0, 0), (0, 0), (0, 0), (0, 0), (8, 0), (9, 0)] r_p 8) (bx_val [(0, 0), (0, 0), (0, 0), (0, 0), (0, 0), (0, 0), (0, 0), (0, 0), (8, 0), (9, 0)] r_p 9) < rxmREW_5 S0 ws S_p (r 8) (r 9)
    rw [bx_val_x (n := 8) (e := (8, 0)) h0_ rfl, bx_val_x (n := 9) (e := (9, 0)) h0_ rfl, ← hr_ 8 (by decide), ← hr_ 9 (by decide)]
    exact g.2.2.2
theorem rxcREW_7_0 {S0 : Nat → Int → Int} {ws : List Int} {S : Nat → Int → Int} {test tb t : Int} (hP : rxPREW S0 ws) (hin : bx_same rxL (bx_mdl rxCREW.2.2.1) S0 S) (I0 : bx_Inv rxL S) (hinv : rxIREW_7 S0 ws S test tb t) (l8 : 0 ≤ test) (u8 : test ≤ 1) (l9 : 0 ≤ tb) (u9 : tb ≤ 1) (l10 : 0 ≤ t) (u10 : t ≤ 4) : (True) ∧ (True) ∧ rxIREW_1 S0 ws S test t ∧ rxmREW_1 S0 ws S test t < rxmREW_7 S0 ws S test tb t := by
  obtain ⟨hI, hx⟩ := hinv
  obtain ⟨a_, b_, c_, d_⟩ := rxcRE_7_0 hP hin I0 hI l8 u8 l9 u9 l10 u10
  exact ⟨a_, b_, ⟨c_, hx⟩, d_⟩
theorem rxgREW_7_0 {X : (Nat → Int → Int) → Prop} {S0 : Nat → Int → Int} {ws : List Int} (hP : rxPREW S0 ws) : bx_obC rxL X S0 rxCREW.2.2.1 (rxIREW S0 ws) (rxmREW S0 ws) 7 rxzREW_7 rxoREW_7_0 := by
  intro S S_p r r_p hinv hX hin hsm_ hseg
  obtain ⟨I0, I1, h0_, hr_, b_, f_, d_⟩ := bx_cl (evs := []) (fvs := []) hseg (by decide +kernel) (by decide +kernel)
  have hinv : rxIREW_7 S0 ws S (r 8) (r 9) (r 10) := hinv
  rw [← hr_ 8 (by decide), ← hr_ 9 (by decide), ← hr_ 10 (by decide)] at hinv
  obtain ⟨⟨l8, u8⟩, ⟨l9, u9⟩, ⟨l10, u10⟩, -⟩ := b_
  have w_ := d_
  subst w_
  have g := rxcREW_7_0 hP hin I0 hinv l8 u8 l9 u9 l10 u10
  refine ⟨bx_narP_ok (l := []) g.1, bx_nfP_ok h0_ (fvs := []) (by decide +kernel) g.2.1, ?_, ?_⟩
  · show rxIREW_1 S0 ws S_p (bx_val [(0, 0), (0, 0), (0, 0), (0, 0), (0, 0), (0, 0), (0, 0), (0, 0), (8, 0), (10, 0)] r_p 8) (bx_val [(0, 0), (0, 0), (0, 0), (0, 0), (0, 0), (0, 0), (0, 0), (0, 0), (8, 0), (10, 0)] r_p 9)
    rw [bx_val_x (n := 8) (e := (8, 0)) h0_ rfl, bx_val_x (n := 9) (e := (10, 0)) h0_ rfl]
    exact g.2.2.1
  · show rxmREW_1 S0 ws S_p (bx_val [(0, 0), (0, 0), (0, 0), (0, 0), (0, 0), (0, 0), (0, 0), (0, 0), (8, 0), (10, 0)] r_p 8) (bx_val [(0, 0), (0, 0), (0, 0), (0, 0), (0, 0), (0, 0), (0, 0), (0, 0), (8, 0), (10, 0)] r_p 9) < rxmREW_7 S0 ws S_p (r 8) (r 9) (r 10)
    rw [bx_val_x (n := 8) (e := (8, 0)) h0_ rfl, bx_val_x (n := 9) (e := (10, 0)) h0_ rfl, ← hr_ 8 (by decide), ← hr_ 9 (by decide), ← hr_ 10 (by decide)]
    exact g.2.2.2
theorem rxcREW_9_0 {S0 : Nat → Int → Int} {ws : List Int} {S : Nat → Int → Int} {test t : Int} (hP : rxPREW S0 ws) (hin : bx_same rxL (bx_mdl rxCREW.2.2.1) S0 S) (I0 : bx_Inv rxL S) (hinv : rxIREW_9 S0 ws S test t) (l8 : 0 ≤ test) (u8 : test ≤ 1) (l9 : 0 ≤ t) (u9 : t ≤ 4) : (True) ∧ (True) ∧ rxIREW_1 S0 ws S test t ∧ rxmREW_1 S0 ws S test t < rxmREW_9 S0 ws S test t := by
  obtain ⟨hI, hx⟩ := hinv
  obtain ⟨a_, b_, c_, d_⟩ := rxcRE_9_0 hP hin I0 hI l8 u8 l9 u9
  exact ⟨a_, b_, ⟨c_, hx⟩, d_⟩
theorem rxgREW_9_0 {X : (Nat → Int → Int) → Prop} {S0 : Nat → Int → Int} {ws : List Int} (hP : rxPREW S0 ws) : bx_obC rxL X S0 rxCREW.2.2.1 (rxIREW S0 ws) (rxmREW S0 ws) 9 rxzREW_9 rxoREW_9_0 := by
  intro S S_p r r_p hinv hX hin hsm_ hseg
  obtain ⟨I0, I1, h0_, hr_, b_, f_, d_⟩ := bx_cl (evs := []) (fvs := []) hseg (by decide +kernel) (by decide +kernel)
  have hinv : rxIREW_9 S0 ws S (r 8) (r 9) := hinv
  rw [← hr_ 8 (by decide), ← hr_ 9 (by decide)] at hinv
  obtain ⟨⟨l8, u8⟩, ⟨l9, u9⟩, -⟩ := b_
  have w_ := d_
  subst w_
  have g := rxcREW_9_0 hP hin I0 hinv l8 u8 l9 u9
  refine ⟨bx_narP_ok (l := []) g.1, bx_nfP_ok h0_ (fvs := []) (by decide +kernel) g.2.1, ?_, ?_⟩
  · show rxIREW_1 S0 ws S_p (bx_val [(0, 0), (0, 0), (0, 0), (0, 0), (0, 0), (0, 0), (0, 0), (0, 0), (8, 0), (9, 0)] r_p 8) (bx_val [(0, 0), (0, 0), (0, 0), (0, 0), (0, 0), (0, 0), (0, 0), (0, 0), (8, 0), (9, 0)] r_p 9)
    rw [bx_val_x (n := 8) (e := (8, 0)) h0_ rfl, bx_val_x (n := 9) (e := (9, 0)) h0_ rfl]
    exact g.2.2.1
  · show rxmREW_1 S0 ws S_p (bx_val [(0, 0), (0, 0), (0, 0), (0, 0), (0, 0), (0, 0), (0, 0), (0, 0), (8, 0), (9, 0)] r_p 8) (bx_val [(0, 0), (0, 0), (0, 0), (0, 0), (0, 0), (0, 0), (0, 0), (0, 0), (8, 0), (9, 0)] r_p 9) < rxmREW_9 S0 ws S_p (r 8) (r 9)
    rw [bx_val_x (n := 8) (e := (8, 0)) h0_ rfl, bx_val_x (n := 9) (e := (9, 0)) h0_ rfl, ← hr_ 8 (by decide), ← hr_ 9 (by decide)]
    exact g.2.2.2
theorem rxdREW_11_0 {S0 : Nat → Int → Int} {ws : List Int} {S : Nat → Int → Int} (hP : rxPREW S0 ws) (hin : bx_same rxL (bx_mdl rxCREW.2.2.1) S0 S) (hin2 : bx_same rxL (bx_mdl rxCREW.2.2.1) S S) (I0 : bx_Inv rxL S) (I1 : bx_Inv rxL S) (hinv : rxIREW_11 S0 ws S)  : (True) ∧ rxPSREW S0 ws S none := by
  obtain ⟨hI, hx⟩ := hinv
  obtain ⟨a_, c_⟩ := rxdRE_11_0 hP hin hin2 I0 I1 hI
  exact ⟨a_, rfl, c_, hx⟩
theorem rxfREW_11_0 {X : (Nat → Int → Int) → Prop} {S0 : Nat → Int → Int} {ws : List Int} (hP : rxPREW S0 ws) : bx_obE rxL X S0 rxCREW.2.2.1 (rxIREW S0 ws) (rxPSREW S0 ws) 11 rxzREW_11 rxeREW_11_0 := by
  intro S S_p r r_p hinv hX hin hsm_ hseg
  obtain ⟨I0, I1, h0_, hr_, b_, f_, d_⟩ := bx_cl (evs := []) (fvs := []) hseg (by decide +kernel) (by decide +kernel)
  have hinv : rxIREW_11 S0 ws S := hinv
  have w_ := d_
  subst w_
  have g := rxdREW_11_0 hP hin hsm_ I0 I1 hinv 
  refine ⟨bx_narP_ok (l := []) g.1, ?_⟩
  exact g.2
theorem rxgCREW {X : (Nat → Int → Int) → Prop} {S0 : Nat → Int → Int} {ws : List Int} (hP : rxPREW S0 ws) : bx_allI (fun i q => rxUREW q = true ∨ bx_allP (fun o => bx_obC rxL X S0 rxCREW.2.2.1 (rxIREW S0 ws) (rxmREW S0 ws) i q.1 o) q.2.1) 0 rxYREW := ⟨Or.inr ⟨rxgREW_0_0 hP, rxgREW_0_1 hP, trivial⟩, Or.inr ⟨rxgREW_1_0 hP, rxgREW_1_1 hP, rxgREW_1_2 hP, rxgREW_1_3 hP, rxgREW_1_4 hP, rxgREW_1_5 hP, trivial⟩, Or.inl rfl, Or.inr ⟨rxgREW_3_0 hP, trivial⟩, Or.inl rfl, Or.inr ⟨rxgREW_5_0 hP, trivial⟩, Or.inl rfl, Or.inr ⟨rxgREW_7_0 hP, trivial⟩, Or.inl rfl, Or.inr ⟨rxgREW_9_0 hP, trivial⟩, Or.inl rfl, Or.inr trivial, trivial⟩
theorem rxgEREW {X : (Nat → Int → Int) → Prop} {S0 : Nat → Int → Int} {ws : List Int} (hP : rxPREW S0 ws) : bx_allI (fun i q => rxUREW q = true ∨ bx_allP (fun E => bx_obE rxL X S0 rxCREW.2.2.1 (rxIREW S0 ws) (rxPSREW S0 ws) i q.1 E) q.2.2) 0 rxYREW := ⟨Or.inr trivial, Or.inr trivial, Or.inl rfl, Or.inr trivial, Or.inl rfl, Or.inr trivial, Or.inl rfl, Or.inr trivial, Or.inl rfl, Or.inr trivial, Or.inl rfl, Or.inr ⟨rxfREW_11_0 hP, trivial⟩, trivial⟩
theorem rxuREW {PX : State → Prop} {Dg : va_G} {A : Nat → Prop} {ad xa : Nat → Nat} {l : Launch} {X : (Nat → Int → Int) → Prop} (hPX : rx_PXOK rxNW A PX) (hX : ∀ S S1 : Nat → Int → Int, X S → bx_same rxL (bx_mdl rxCREW.2.2.1) S S1 → X S1) (hQRNW : bx_ConP rxG rxNW rxAO PX Dg rxL X vwCl A ad l rxM278 rxCRNW rxPRNW rxPSRNW) (hQRPW : bx_ConP rxG rxNW rxAO PX Dg rxL X vwCl A ad l rxM274 rxCRPW rxPRPW rxPSRPW) (hQBSW : bx_ConP rxG rxNW rxAO PX Dg rxL X vwCl A ad l rxM279 rxCBSW rxPBSW rxPSBSW) (hQBTW : bx_ConP rxG rxNW rxAO PX Dg rxL X vwCl A ad l rxM280 rxCBTW rxPBTW rxPSBTW) (hQST : bx_ConP rxG rxNW rxAO PX Dg rxL X vwCl A ad l rxM275 rxCST rxPST rxPSST) {S0 : Nat → Int → Int} {ws : List Int} (hP : rxPREW S0 ws) : ∀ (i : Nat) (q : bx_HE), rxYREW[i]? = some q → rxUREW q = true → ∀ {p : Program} {e : Env} {R : Room} {s : State} {m : MethodId} {args : Array Value} {below : List Frame} {meth : Method} {c : Code} {Q : State → Prop} {H0 : Heap}, rx_Fr rxG rxNW rxAO PX p s m args meth c rxM282 → (∀ q, H0.size ≤ q → A q) → H0 = s.heap → rxM282.2.2.2.2.2.2.1 ≤ R.cells → rxM282.2.2.2.2.2.2.2 ≤ R.slots → rxCREW.2.2.2.1 ≤ R.frames → rxCREW.2.2.2.1 * 40 ≤ R.locals → bx_Step p l e R s m args below meth c Q Dg rxL X vwCl A xa H0 ad rxM282 rxYREW (rxIREW S0 ws) (rxmREW S0 ws) S0 rxCREW.2.2.1 i q := by
  intro i q hq hus p e R s m args below meth c Q H0 hF hA hH0 hmc hms hd hdl
  match i, hq with
  | 0, hq =>
    cases hq
    exact absurd (show false = true from hus) Bool.false_ne_true
  | 1, hq =>
    cases hq
    exact absurd (show false = true from hus) Bool.false_ne_true
  | 2, hq =>
    cases hq
    exact rx_stepC (ins := .invokevirtual 361) (len := 3) (i_p := 3) (M_p := rxM278) (d := rxCREW.2.2.2.1) (as := [.inr (3, (0, 480))]) (t := []) (ct := rxCRNW) hPX hF rfl hA hH0 hmc hms hd hdl (by decide +kernel) rfl rfl (by decide +kernel) (by decide +kernel) hQRNW (by decide +kernel) rfl (Or.inr ⟨_, _, _, 1, rfl, rfl, by omega, rfl, rfl, rfl⟩) (rxsREW_2 hP)
  | 3, hq =>
    cases hq
    exact absurd (show false = true from hus) Bool.false_ne_true
  | 4, hq =>
    cases hq
    exact rx_stepC (ins := .invokevirtual 344) (len := 3) (i_p := 5) (M_p := rxM274) (d := rxCREW.2.2.2.1) (as := [.inr (3, (0, 480))]) (t := []) (ct := rxCRPW) hPX hF rfl hA hH0 hmc hms hd hdl (by decide +kernel) rfl rfl (by decide +kernel) (by decide +kernel) hQRPW (by decide +kernel) rfl (Or.inr ⟨_, _, _, 1, rfl, rfl, by omega, rfl, rfl, rfl⟩) (rxsREW_4 hP)
  | 5, hq =>
    cases hq
    exact absurd (show false = true from hus) Bool.false_ne_true
  | 6, hq =>
    cases hq
    exact rx_stepC (ins := .invokevirtual 364) (len := 3) (i_p := 7) (M_p := rxM279) (d := rxCREW.2.2.2.1) (as := [.inr (3, (0, 480)), .inr (0, (9, 0))]) (t := []) (ct := rxCBSW) hPX hF rfl hA hH0 hmc hms hd hdl (by decide +kernel) rfl rfl (by decide +kernel) (by decide +kernel) hQBSW (by decide +kernel) rfl (Or.inr ⟨_, _, _, 1, rfl, rfl, by omega, rfl, rfl, rfl⟩) (rxsREW_6 hP)
  | 7, hq =>
    cases hq
    exact absurd (show false = true from hus) Bool.false_ne_true
  | 8, hq =>
    cases hq
    exact rx_stepC (ins := .invokevirtual 368) (len := 3) (i_p := 9) (M_p := rxM280) (d := rxCREW.2.2.2.1) (as := [.inr (3, (0, 480))]) (t := []) (ct := rxCBTW) hPX hF rfl hA hH0 hmc hms hd hdl (by decide +kernel) rfl rfl (by decide +kernel) (by decide +kernel) hQBTW (by decide +kernel) rfl (Or.inr ⟨_, _, _, 1, rfl, rfl, by omega, rfl, rfl, rfl⟩) (rxsREW_8 hP)
  | 9, hq =>
    cases hq
    exact absurd (show false = true from hus) Bool.false_ne_true
  | 10, hq =>
    cases hq
    exact rx_stepC (ins := .invokevirtual 347) (len := 3) (i_p := 11) (M_p := rxM275) (d := rxCREW.2.2.2.1) (as := [.inr (3, (0, 480)), .inr (0, (0, 1))]) (t := []) (ct := rxCST) hPX hF rfl hA hH0 hmc hms hd hdl (by decide +kernel) rfl rfl (by decide +kernel) (by decide +kernel) hQST (by decide +kernel) rfl (Or.inl ⟨rfl, rfl, rfl⟩) (rxsREW_10 hP)
  | 11, hq =>
    cases hq
    exact absurd (show false = true from hus) Bool.false_ne_true
  | n + 12, hq => cases hq
theorem rxQREW {PX : State → Prop} {Dg : va_G} {A : Nat → Prop} {ad xa : Nat → Nat} {l : Launch} {X : (Nat → Int → Int) → Prop} (hPX : rx_PXOK rxNW A PX) (hsl : ∀ s : State, PX s → ∀ o idx n : Nat, rxSl o idx = some n → ∃ tx : String, vk_R (rxNm o) idx tx (ad n) s)
    (hX : ∀ S S_p : Nat → Int → Int, X S → bx_same rxL (bx_mdl rxCREW.2.2.1) S S_p → X S_p)
    (ih : ∀ (j2 : Nat) (ct2 : bx_Ct) (M2 : rx_Mt), ct2 ∈ rxCnE j2 → ct2.2.2.2.1 + 1 ≤ rxCREW.2.2.2.1 → rxT.2.2.2.2.2 j2 = some M2 → bx_Con rxG rxNW rxAO PX Dg rxL X vwCl A ad l M2 ct2) (hQRNW : bx_ConP rxG rxNW rxAO PX Dg rxL X vwCl A ad l rxM278 rxCRNW rxPRNW rxPSRNW) (hQRPW : bx_ConP rxG rxNW rxAO PX Dg rxL X vwCl A ad l rxM274 rxCRPW rxPRPW rxPSRPW) (hQBSW : bx_ConP rxG rxNW rxAO PX Dg rxL X vwCl A ad l rxM279 rxCBSW rxPBSW rxPSBSW) (hQBTW : bx_ConP rxG rxNW rxAO PX Dg rxL X vwCl A ad l rxM280 rxCBTW rxPBTW rxPSBTW) (hQST : bx_ConP rxG rxNW rxAO PX Dg rxL X vwCl A ad l rxM275 rxCST rxPST rxPSST) : bx_ConP rxG rxNW rxAO PX Dg rxL X vwCl A ad l rxM282 rxCREW rxPREW rxPSREW :=
  rxQof (xa := xa) (Cn := rxCnE) (f := 30000) (j := 282) (tab := rxYREW) (us := rxUREW) hPX hsl hX ih rfl rxYcREW rxIREW rxmREW
    (fun S0 ws r I0 I ht0 ht as he he1 hX0 hI0 hP hs ha => by
      have e := he.symm.trans (show bx_ent0 rxNP rxCREW.1 bx_I0 [] = some ([(0, 0), (0, 0), (0, 0), (0, 0), (0, 0), (0, 0), (0, 0), (0, 0), (0, 1)], [], [.inr (3, (0, 480)), .inr (0, (8, 0))]) from rfl)
      cases e
      subst ha
      have h0 : r 0 = 0 := hs.1
      show rxIREW_0 S0 _ S0 (r 8)
      refine ⟨⟨rfl, ?_⟩, trivial⟩
      simp only [List.map_cons, List.map_nil, bx_xv_ok h0]
      rfl)
    (fun S0 ws hP => rxuREW (xa := xa) hPX hX hQRNW hQRPW hQBSW hQBTW hQST hP) (fun S0 ws hP => rxgCREW hP) (fun S0 ws hP => rxgEREW hP)
