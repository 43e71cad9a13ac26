noncomputable def rzCo (S0 S : Nat → Int → Int) (P : rzR → Prop) : Prop :=
  (S 480 14 = 0 → rzKr S0 S ∧ rzDq S ∧ ∃ r : rzR, P r ∧ r.1 = true ∧ S 480 9 = r.2.1 ∧ S 480 21 = r.2.2) ∧ (S 480 14 ≠ 0 → ∃ r : rzR, P r ∧ r.1 = false ∧ S 480 13 = r.2.1)
noncomputable def rzCa (S0 S : Nat → Int → Int) (G : rzR → Prop) (C : Int → Int → rzR → Prop) : Prop :=
  (S 480 14 = 0 → rzKr S0 S ∧ rzDq S ∧ ∀ r : rzR, C (S 480 9) (S 480 21) r → G r) ∧ (S 480 14 ≠ 0 → ∃ r : rzR, G r ∧ r.1 = false ∧ S 480 13 = r.2.1)
section RZCA
variable {S0 S S_p : Nat → Int → Int} {G P : rzR → Prop} {C C_p : Int → Int → rzR → Prop}
theorem rzCa_im (h : rzCa S0 S G C) (k : S 480 14 = 0 → ∀ r : rzR, C_p (S 480 9) (S 480 21) r → C (S 480 9) (S 480 21) r) : rzCa S0 S G C_p :=
  ⟨fun z => ⟨(h.1 z).1, (h.1 z).2.1, fun r q => (h.1 z).2.2 r (k z r q)⟩, h.2⟩
theorem rzCa_dn (h : rzCa S0 S G C) (k : S 480 14 = 0 → C (S 480 9) (S 480 21) (true, S 480 9, S 480 21)) : rzCo S0 S G :=
  ⟨fun z => ⟨(h.1 z).1, (h.1 z).2.1, _, (h.1 z).2.2 _ (k z), rfl, rfl, rfl⟩, h.2⟩
theorem rzCa_bd (h : rzCa S0 S G C) (z : S 480 14 ≠ 0) : rzCo S0 S G := ⟨fun g => absurd g z, fun _ => h.2 z⟩
theorem rzCa_c (h : rzCa S0 S G C) (k : rzKr S S_p) (t : rzTs S S_p) (e14 : S_p 480 14 = S 480 14) (e21 : S_p 480 21 = S 480 21) : rzCa S0 S_p G C := by
  refine ⟨fun z => ?_, fun z => ?_⟩
  · obtain ⟨a, b, c⟩ := h.1 (e14.symm.trans z)
    refine ⟨a.tr k, rzDq_c b k t, fun r q => c r ?_⟩
    rw [t.1, e21] at q
    exact q
  · obtain ⟨r, a, b, c⟩ := h.2 (fun g => z (e14.trans g))
    exact ⟨r, a, b, k.2.2.2.1.trans c⟩
theorem rzCo_c (h : rzCo S0 S G) (k : rzKr S S_p) (t : rzTs S S_p) (e14 : S_p 480 14 = S 480 14) (e21 : S_p 480 21 = S 480 21) : rzCo S0 S_p G := by
  refine ⟨fun z => ?_, fun z => ?_⟩
  · obtain ⟨a, b, r, c, d, e, f⟩ := h.1 (e14.symm.trans z)
    exact ⟨a.tr k, rzDq_c b k t, r, c, d, t.1.trans e, e21.trans f⟩
  · obtain ⟨r, a, b, c⟩ := h.2 (fun g => z (e14.trans g))
    exact ⟨r, a, b, k.2.2.2.1.trans c⟩
theorem rzCa_mu {is : Int} (h : rzCa S0 S G C) (e21 : S_p 480 21 = S 480 21) (hm : (S 480 14 = 0 → rzDq S → (S_p 480 14 = 0 → rzNw S S_p) ∧ (S_p 480 14 ≠ 0 → S_p 480 13 = S 480 9)) ∧ (S 480 14 ≠ 0 → S_p 480 14 ≠ 0 ∧ S_p 480 13 = S 480 13)) (hi : (S_p 480 14 = 0 → S 480 14 = 0 ∧ is = 1) ∧ (S_p 480 14 ≠ 0 → S 480 14 ≠ 0 ∨ is ≠ 1))
    (k1 : S 480 14 = 0 → is = 1 → ∀ r : rzR, C_p (rzN (rzCut (S0 485)) (S0 480 8) (S 480 9)) (S 480 21) r → C (S 480 9) (S 480 21) r) (k0 : S 480 14 = 0 → is ≠ 1 → C (S 480 9) (S 480 21) (false, S 480 9, S 480 21)) : rzCa S0 S_p G C_p := by
  refine ⟨fun z => ?_, fun z => ?_⟩
  · obtain ⟨z0, i1⟩ := hi.1 z
    obtain ⟨a, b, c⟩ := h.1 z0
    obtain ⟨n1, n2, n3⟩ := (hm.1 z0 b).1 z
    refine ⟨a.tr n1, n2, fun r q => c r (k1 z0 i1 r ?_)⟩
    rw [n3, e21, a.1, a.2.1] at q
    exact q
  · by_cases z0 : S 480 14 = 0
    · obtain ⟨a, b, c⟩ := h.1 z0
      have i1 : is ≠ 1 := by
        rcases hi.2 z with q | q
        · exact absurd z0 q
        · exact q
      exact ⟨_, c _ (k0 z0 i1), rfl, (hm.1 z0 b).2 z⟩
    · obtain ⟨r, a, b, c⟩ := h.2 z0
      exact ⟨r, a, b, (hm.2 z0).2.trans c⟩
theorem rzCa_nx (h : rzCa S0 S G C) (z0 : S 480 14 = 0) (e14 : S_p 480 14 = S 480 14) (e21 : S_p 480 21 = S 480 21) (k : rzKr S S_p) (d : rzDq S_p) (e : S_p 480 9 = rzF (rzCut (S 485)) (S 480 8) (S 480 10)) (k1 : ∀ r : rzR, C_p (rzN (rzCut (S0 485)) (S0 480 8) (S 480 9)) (S 480 21) r → C (S 480 9) (S 480 21) r) : rzCa S0 S_p G C_p := by
  obtain ⟨a, b, c⟩ := h.1 z0
  obtain ⟨n1, n2, n3⟩ := rzNw_nx b k d e
  refine ⟨fun _ => ⟨a.tr n1, n2, fun r q => c r (k1 r ?_)⟩, fun z => absurd (e14.trans z0) z⟩
  rw [n3, e21, a.1, a.2.1] at q
  exact q
theorem rzCa_ex {tst : Int} (h : rzCa S0 S G C) (z0 : S 480 14 = 0) (x : rzXo S S_p tst) (k : ∀ r : rzR, rzThen (rzEx (rzCut (S0 485)) (S0 480 8) (rzWr S0) tst (S 480 9) (S 480 21)) C_p r → C (S 480 9) (S 480 21) r) : rzCa S0 S_p G C_p := by
  obtain ⟨a, b, c⟩ := h.1 z0
  unfold rzXo at x
  rw [a.1, a.2.1, a.w] at x
  refine ⟨fun z => ?_, fun z => ?_⟩
  · obtain ⟨k2, d, r, r1, r2, r3, r4⟩ := x.1 z
    refine ⟨a.tr k2, d, fun q hq => c q (k q ⟨r, r1, Or.inr ⟨r2, ?_⟩⟩)⟩
    rw [r3, r4] at hq
    exact hq
  · obtain ⟨r, r1, r2, r3⟩ := x.2 z
    exact ⟨r, c r (k r ⟨r, r1, Or.inl ⟨r2, rfl⟩⟩), r2, r3⟩
theorem rzCa_tl {tst : Int} (h : rzCa S0 S G C) (z0 : S 480 14 = 0) (x : rzXo S S_p tst) (k : ∀ r : rzR, rzEx (rzCut (S0 485)) (S0 480 8) (rzWr S0) tst (S 480 9) (S 480 21) r → C (S 480 9) (S 480 21) r) : rzCo S0 S_p G := by
  obtain ⟨a, b, c⟩ := h.1 z0
  unfold rzXo at x
  rw [a.1, a.2.1, a.w] at x
  refine ⟨fun z => ?_, fun z => ?_⟩
  · obtain ⟨k2, d, r, r1, r2⟩ := x.1 z
    exact ⟨a.tr k2, d, r, c r (k r r1), r2⟩
  · obtain ⟨r, r1, r2⟩ := x.2 z
    exact ⟨r, c r (k r r1), r2⟩
end RZCA
noncomputable def rzLK (T : Int → Int) (n : Int) (ws : List (List Int)) (wh : Int) (f lf : Int) (r : rzR) : Prop := rzAlt (decide (wh = 2)) (rzIf T n ws f lf r) (rzThen (rzEx T n ws 0 f lf) (rzIf T n ws) r)
noncomputable def rzLR (T : Int → Int) (n nc f lf : Int) (r : rzR) : Prop := rzAlt (decide (nc < 12)) (rzLC T n f lf r) (r = (false, f, lf))
theorem rzCa_b {S0 S : Nat → Int → Int} {G : rzR → Prop} {C C_p : Int → Int → rzR → Prop} (h : rzCa S0 S G C) (z : S 480 14 ≠ 0) : rzCa S0 S G C_p := ⟨fun g => absurd g z, h.2⟩
theorem rzCa_pl {S0 S S_p : Nat → Int → Int} {G : rzR → Prop} {C C_p : Int → Int → rzR → Prop} (h : rzCa S0 S G C) (z0 : S 480 14 = 0) (e21 : S_p 480 21 = S 480 21) (hm : (S_p 480 14 = 0 → rzPlc (rzCut (S 485)) (S 480 8) (S 480 9) = true ∧ rzNw S S_p) ∧ (S_p 480 14 ≠ 0 → rzPlc (rzCut (S 485)) (S 480 8) (S 480 9) = false ∧ S_p 480 13 = S 480 9))
    (k1 : rzPlc (rzCut (S0 485)) (S0 480 8) (S 480 9) = true → ∀ r : rzR, C_p (rzN (rzCut (S0 485)) (S0 480 8) (S 480 9)) (S 480 21) r → C (S 480 9) (S 480 21) r) (k0 : rzPlc (rzCut (S0 485)) (S0 480 8) (S 480 9) = false → C (S 480 9) (S 480 21) (false, S 480 9, S 480 21)) : rzCa S0 S_p G C_p := by
  obtain ⟨a, b, c⟩ := h.1 z0
  rw [a.1, a.2.1] at hm
  refine ⟨fun z => ?_, fun z => ?_⟩
  · obtain ⟨p, n1, n2, n3⟩ := hm.1 z
    refine ⟨a.tr n1, n2, fun r q => c r (k1 p r ?_)⟩
    rw [n3, e21, a.1, a.2.1] at q
    exact q
  · obtain ⟨p, q⟩ := hm.2 z
    exact ⟨_, c _ (k0 p), rfl, q⟩
noncomputable def rzPRr (T : Int → Int) (n nc f lf : Int) (r : rzR) : Prop := rzAlt (decide (nc < 12)) (rzPC T n f lf r) (r = (false, f, lf))
noncomputable def rzPK (T : Int → Int) (n dd f lf : Int) (r : rzR) : Prop := rzAlt (decide (dd = 1)) (rzIf T n rzPn f lf r) (rzThen (rzEx T n rzPn 0 f lf) (rzGo T n) r)
noncomputable def rzPQ (T : Int → Int) (n dd f lf : Int) (r : rzR) : Prop := rzAlt (decide (dd = 1)) (rzIf T n rzPn f lf r) (rzGo T n f lf r)
noncomputable def rxCRLW : bx_Ct := ([(3, (1, 480, 0))], none, [(12, 9), (12, 10), (12, 11), (12, 12), (12, 13), (12, 14), (12, 16), (12, 18), (12, 21), (12, 24), (12, 25), (1067, 0), (1068, 0), (1069, 0), (1070, 0), (1071, 0)], 7, [])
noncomputable def rxIRLW_0 (S0 : Nat → Int → Int) (ws : List Int) (S : Nat → Int → Int) : Prop := rxIRL_0 S0 ws S ∧ True
noncomputable def rxmRLW_0 (S0 : Nat → Int → Int) (ws : List Int) (S : Nat → Int → Int) : Nat := rxmRL_0 S0 ws S
noncomputable def rxIRLW_1 (S0 : Nat → Int → Int) (ws : List Int) (S : Nat → Int → Int) (which : Int) : Prop := rxIRL_1 S0 ws S which ∧ (rzDq S0 → ((which = 0 ∧ rzIs (rzCut (S0 485)) (S0 480 8) rzW_slips (S0 480 9) = true ∧ rzIs (rzCut (S0 485)) (S0 480 8) rzW_bars (S0 480 9) = false) ∨ (which = 1 ∧ rzIs (rzCut (S0 485)) (S0 480 8) rzW_hours (S0 480 9) = true ∧ rzIs (rzCut (S0 485)) (S0 480 8) rzW_bars (S0 480 9) = false) ∨ (which = 2 ∧ rzIs (rzCut (S0 485)) (S0 480 8) rzW_bars (S0 480 9) = true) ∨ (which = -1 ∧ rzIs (rzCut (S0 485)) (S0 480 8) rzW_slips (S0 480 9) = false ∧ rzIs (rzCut (S0 485)) (S0 480 8) rzW_hours (S0 480 9) = false ∧ rzIs (rzCut (S0 485)) (S0 480 8) rzW_bars (S0 480 9) = false)))
noncomputable def rxmRLW_1 (S0 : Nat → Int → Int) (ws : List Int) (S : Nat → Int → Int) (which : Int) : Nat := rxmRL_1 S0 ws S which
noncomputable def rxIRLW_2 (S0 : Nat → Int → Int) (ws : List Int) (S : Nat → Int → Int) (which is : Int) : Prop := rxIRL_2 S0 ws S which is ∧ ((rzDq S0 → ((which = 0 ∧ rzIs (rzCut (S0 485)) (S0 480 8) rzW_slips (S0 480 9) = true ∧ rzIs (rzCut (S0 485)) (S0 480 8) rzW_bars (S0 480 9) = false) ∨ (which = 1 ∧ rzIs (rzCut (S0 485)) (S0 480 8) rzW_hours (S0 480 9) = true ∧ rzIs (rzCut (S0 485)) (S0 480 8) rzW_bars (S0 480 9) = false) ∨ (which = 2 ∧ rzIs (rzCut (S0 485)) (S0 480 8) rzW_bars (S0 480 9) = true) ∨ (which = -1 ∧ rzIs (rzCut (S0 485)) (S0 480 8) rzW_slips (S0 480 9) = false ∧ rzIs (rzCut (S0 485)) (S0 480 8) rzW_hours (S0 480 9) = false ∧ rzIs (rzCut (S0 485)) (S0 480 8) rzW_bars (S0 480 9) = false))) ∧ ((is = 1 ∧ 0 ≤ which ∧ S0 480 16 < 12) ∨ (is = 0 ∧ (which = -1 ∨ ¬ S0 480 16 < 12))))
noncomputable def rxmRLW_2 (S0 : Nat → Int → Int) (ws : List Int) (S : Nat → Int → Int) (which is : Int) : Nat := rxmRL_2 S0 ws S which is
noncomputable def rxIRLW_3 (S0 : Nat → Int → Int) (ws : List Int) (S : Nat → Int → Int) (which is : Int) : Prop := rxIRL_3 S0 ws S which is ∧ (rzCk S0 → rzDq S0 → rzWr S0 = rzLn_ → rzCa S0 S (rzLR (rzCut (S0 485)) (S0 480 8) (S0 480 16) (S0 480 9) (S0 480 21)) (rzLK (rzCut (S0 485)) (S0 480 8) rzLn_ which))
noncomputable def rxmRLW_3 (S0 : Nat → Int → Int) (ws : List Int) (S : Nat → Int → Int) (which is : Int) : Nat := rxmRL_3 S0 ws S which is
noncomputable def rxIRLW_4 (S0 : Nat → Int → Int) (ws : List Int) (S : Nat → Int → Int) (which nc : Int) : Prop := rxIRL_4 S0 ws S which nc ∧ (rzCk S0 → rzDq S0 → rzWr S0 = rzLn_ → rzCa S0 S (rzLR (rzCut (S0 485)) (S0 480 8) (S0 480 16) (S0 480 9) (S0 480 21)) (rzLK (rzCut (S0 485)) (S0 480 8) rzLn_ which))
noncomputable def rxmRLW_4 (S0 : Nat → Int → Int) (ws : List Int) (S : Nat → Int → Int) (which nc : Int) : Nat := rxmRL_4 S0 ws S which nc
noncomputable def rxIRLW_5 (S0 : Nat → Int → Int) (ws : List Int) (S : Nat → Int → Int) (which base i : Int) : Prop := rxIRL_5 S0 ws S which base i ∧ (rzCk S0 → rzDq S0 → rzWr S0 = rzLn_ → rzCa S0 S (rzLR (rzCut (S0 485)) (S0 480 8) (S0 480 16) (S0 480 9) (S0 480 21)) (rzLK (rzCut (S0 485)) (S0 480 8) rzLn_ which))
noncomputable def rxmRLW_5 (S0 : Nat → Int → Int) (ws : List Int) (S : Nat → Int → Int) (which base i : Int) : Nat := rxmRL_5 S0 ws S which base i
noncomputable def rxIRLW_6 (S0 : Nat → Int → Int) (ws : List Int) (S : Nat → Int → Int) (which base i a zz : Int) : Prop := rxIRL_6 S0 ws S which base i a zz ∧ (rzCk S0 → rzDq S0 → rzWr S0 = rzLn_ → rzCa S0 S (rzLR (rzCut (S0 485)) (S0 480 8) (S0 480 16) (S0 480 9) (S0 480 21)) (rzLK (rzCut (S0 485)) (S0 480 8) rzLn_ which))
noncomputable def rxmRLW_6 (S0 : Nat → Int → Int) (ws : List Int) (S : Nat → Int → Int) (which base i a zz : Int) : Nat := rxmRL_6 S0 ws S which base i a zz
noncomputable def rxIRLW_7 (S0 : Nat → Int → Int) (ws : List Int) (S : Nat → Int → Int) (which base i a zz : Int) : Prop := rxIRL_7 S0 ws S which base i a zz ∧ (rzCk S0 → rzDq S0 → rzWr S0 = rzLn_ → rzCa S0 S (rzLR (rzCut (S0 485)) (S0 480 8) (S0 480 16) (S0 480 9) (S0 480 21)) (rzLK (rzCut (S0 485)) (S0 480 8) rzLn_ which))
noncomputable def rxmRLW_7 (S0 : Nat → Int → Int) (ws : List Int) (S : Nat → Int → Int) (which base i a zz : Int) : Nat := rxmRL_7 S0 ws S which base i a zz
noncomputable def rxIRLW_8 (S0 : Nat → Int → Int) (ws : List Int) (S : Nat → Int → Int) (which base a v : Int) : Prop := rxIRL_8 S0 ws S which base a v ∧ (rzCk S0 → rzDq S0 → rzWr S0 = rzLn_ → rzCa S0 S (rzLR (rzCut (S0 485)) (S0 480 8) (S0 480 16) (S0 480 9) (S0 480 21)) (rzLK (rzCut (S0 485)) (S0 480 8) rzLn_ which))
noncomputable def rxmRLW_8 (S0 : Nat → Int → Int) (ws : List Int) (S : Nat → Int → Int) (which base a v : Int) : Nat := rxmRL_8 S0 ws S which base a v
noncomputable def rxIRLW_9 (S0 : Nat → Int → Int) (ws : List Int) (S : Nat → Int → Int) (which base a v : Int) : Prop := rxIRL_9 S0 ws S which base a v ∧ (rzCk S0 → rzDq S0 → rzWr S0 = rzLn_ → rzCa S0 S (rzLR (rzCut (S0 485)) (S0 480 8) (S0 480 16) (S0 480 9) (S0 480 21)) (rzLK (rzCut (S0 485)) (S0 480 8) rzLn_ which))
noncomputable def rxmRLW_9 (S0 : Nat → Int → Int) (ws : List Int) (S : Nat → Int → Int) (which base a v : Int) : Nat := rxmRL_9 S0 ws S which base a v
noncomputable def rxIRLW_10 (S0 : Nat → Int → Int) (ws : List Int) (S : Nat → Int → Int) (which base nc : Int) : Prop := rxIRL_10 S0 ws S which base nc ∧ (rzCk S0 → rzDq S0 → rzWr S0 = rzLn_ → rzCa S0 S (rzLR (rzCut (S0 485)) (S0 480 8) (S0 480 16) (S0 480 9) (S0 480 21)) (rzLK (rzCut (S0 485)) (S0 480 8) rzLn_ which))
noncomputable def rxmRLW_10 (S0 : Nat → Int → Int) (ws : List Int) (S : Nat → Int → Int) (which base nc : Int) : Nat := rxmRL_10 S0 ws S which base nc
noncomputable def rxIRLW_11 (S0 : Nat → Int → Int) (ws : List Int) (S : Nat → Int → Int) (which base a v : Int) : Prop := rxIRL_11 S0 ws S which base a v ∧ (rzCk S0 → rzDq S0 → rzWr S0 = rzLn_ → rzCa S0 S (rzLR (rzCut (S0 485)) (S0 480 8) (S0 480 16) (S0 480 9) (S0 480 21)) (rzLK (rzCut (S0 485)) (S0 480 8) rzLn_ which))
noncomputable def rxmRLW_11 (S0 : Nat → Int → Int) (ws : List Int) (S : Nat → Int → Int) (which base a v : Int) : Nat := rxmRL_11 S0 ws S which base a v
noncomputable def rxIRLW_12 (S0 : Nat → Int → Int) (ws : List Int) (S : Nat → Int → Int) (which base a v : Int) : Prop := rxIRL_12 S0 ws S which base a v ∧ (rzCk S0 → rzDq S0 → rzWr S0 = rzLn_ → rzCa S0 S (rzLR (rzCut (S0 485)) (S0 480 8) (S0 480 16) (S0 480 9) (S0 480 21)) (rzLK (rzCut (S0 485)) (S0 480 8) rzLn_ which))
noncomputable def rxmRLW_12 (S0 : Nat → Int → Int) (ws : List Int) (S : Nat → Int → Int) (which base a v : Int) : Nat := rxmRL_12 S0 ws S which base a v
noncomputable def rxIRLW_13 (S0 : Nat → Int → Int) (ws : List Int) (S : Nat → Int → Int) (base : Int) : Prop := rxIRL_13 S0 ws S base ∧ (S 480 14 = 0 ∧ (rzCk S0 → rzDq S0 → rzWr S0 = rzLn_ → rzCa S0 S (rzLR (rzCut (S0 485)) (S0 480 8) (S0 480 16) (S0 480 9) (S0 480 21)) (fun f lf => rzThen (rzEx (rzCut (S0 485)) (S0 480 8) rzLn_ 0 f lf) (rzIf (rzCut (S0 485)) (S0 480 8) rzLn_))))
noncomputable def rxmRLW_13 (S0 : Nat → Int → Int) (ws : List Int) (S : Nat → Int → Int) (base : Int) : Nat := rxmRL_13 S0 ws S base
noncomputable def rxIRLW_14 (S0 : Nat → Int → Int) (ws : List Int) (S : Nat → Int → Int) (base : Int) : Prop := rxIRL_14 S0 ws S base ∧ (rzCk S0 → rzDq S0 → rzWr S0 = rzLn_ → rzCa S0 S (rzLR (rzCut (S0 485)) (S0 480 8) (S0 480 16) (S0 480 9) (S0 480 21)) (rzIf (rzCut (S0 485)) (S0 480 8) rzLn_))
noncomputable def rxmRLW_14 (S0 : Nat → Int → Int) (ws : List Int) (S : Nat → Int → Int) (base : Int) : Nat := rxmRL_14 S0 ws S base
noncomputable def rxIRLW_15 (S0 : Nat → Int → Int) (ws : List Int) (S : Nat → Int → Int) (base a v : Int) : Prop := rxIRL_15 S0 ws S base a v ∧ (rzCk S0 → rzDq S0 → rzWr S0 = rzLn_ → rzCa S0 S (rzLR (rzCut (S0 485)) (S0 480 8) (S0 480 16) (S0 480 9) (S0 480 21)) (rzIf (rzCut (S0 485)) (S0 480 8) rzLn_))
noncomputable def rxmRLW_15 (S0 : Nat → Int → Int) (ws : List Int) (S : Nat → Int → Int) (base a v : Int) : Nat := rxmRL_15 S0 ws S base a v
noncomputable def rxIRLW_16 (S0 : Nat → Int → Int) (ws : List Int) (S : Nat → Int → Int) (base a v : Int) : Prop := rxIRL_16 S0 ws S base a v ∧ (rzCk S0 → rzDq S0 → rzWr S0 = rzLn_ → rzCa S0 S (rzLR (rzCut (S0 485)) (S0 480 8) (S0 480 16) (S0 480 9) (S0 480 21)) (rzIf (rzCut (S0 485)) (S0 480 8) rzLn_))
noncomputable def rxmRLW_16 (S0 : Nat → Int → Int) (ws : List Int) (S : Nat → Int → Int) (base a v : Int) : Nat := rxmRL_16 S0 ws S base a v
noncomputable def rxIRLW_17 (S0 : Nat → Int → Int) (ws : List Int) (S : Nat → Int → Int) (base a v : Int) : Prop := rxIRL_17 S0 ws S base a v ∧ (rzCk S0 → rzDq S0 → rzWr S0 = rzLn_ → rzCa S0 S (rzLR (rzCut (S0 485)) (S0 480 8) (S0 480 16) (S0 480 9) (S0 480 21)) (rzIf (rzCut (S0 485)) (S0 480 8) rzLn_))
noncomputable def rxmRLW_17 (S0 : Nat → Int → Int) (ws : List Int) (S : Nat → Int → Int) (base a v : Int) : Nat := rxmRL_17 S0 ws S base a v
noncomputable def rxIRLW_18 (S0 : Nat → Int → Int) (ws : List Int) (S : Nat → Int → Int) (base a v : Int) : Prop := rxIRL_18 S0 ws S base a v ∧ (rzCk S0 → rzDq S0 → rzWr S0 = rzLn_ → rzCa S0 S (rzLR (rzCut (S0 485)) (S0 480 8) (S0 480 16) (S0 480 9) (S0 480 21)) (rzIf (rzCut (S0 485)) (S0 480 8) rzLn_))
noncomputable def rxmRLW_18 (S0 : Nat → Int → Int) (ws : List Int) (S : Nat → Int → Int) (base a v : Int) : Nat := rxmRL_18 S0 ws S base a v
noncomputable def rxIRLW_19 (S0 : Nat → Int → Int) (ws : List Int) (S : Nat → Int → Int) (base : Int) : Prop := rxIRL_19 S0 ws S base ∧ ((rzCk S0 → rzDq S0 → rzWr S0 = rzLn_ → rzCa S0 S (rzLR (rzCut (S0 485)) (S0 480 8) (S0 480 16) (S0 480 9) (S0 480 21)) (rzIf (rzCut (S0 485)) (S0 480 8) rzLn_)) ∧ (rzDq S → rzIs (rzCut (S 485)) (S 480 8) rzW_if (S 480 9) = true))
noncomputable def rxmRLW_19 (S0 : Nat → Int → Int) (ws : List Int) (S : Nat → Int → Int) (base : Int) : Nat := rxmRL_19 S0 ws S base
noncomputable def rxIRLW_20 (S0 : Nat → Int → Int) (ws : List Int) (S : Nat → Int → Int) (base : Int) : Prop := rxIRL_20 S0 ws S base ∧ (rzCk S0 → rzDq S0 → rzWr S0 = rzLn_ → rzCa S0 S (rzLR (rzCut (S0 485)) (S0 480 8) (S0 480 16) (S0 480 9) (S0 480 21)) (rzEx (rzCut (S0 485)) (S0 480 8) rzLn_ 1))
noncomputable def rxmRLW_20 (S0 : Nat → Int → Int) (ws : List Int) (S : Nat → Int → Int) (base : Int) : Nat := rxmRL_20 S0 ws S base
noncomputable def rxIRLW_21 (S0 : Nat → Int → Int) (ws : List Int) (S : Nat → Int → Int) (base : Int) : Prop := rxIRL_21 S0 ws S base ∧ (rzCk S0 → rzDq S0 → rzWr S0 = rzLn_ → rzCa S0 S (rzLR (rzCut (S0 485)) (S0 480 8) (S0 480 16) (S0 480 9) (S0 480 21)) (rzEx (rzCut (S0 485)) (S0 480 8) rzLn_ 1))
noncomputable def rxmRLW_21 (S0 : Nat → Int → Int) (ws : List Int) (S : Nat → Int → Int) (base : Int) : Nat := rxmRL_21 S0 ws S base
noncomputable def rxIRLW_22 (S0 : Nat → Int → Int) (ws : List Int) (S : Nat → Int → Int) (base : Int) : Prop := rxIRL_22 S0 ws S base ∧ (rzCk S0 → rzDq S0 → rzWr S0 = rzLn_ → rzCo S0 S (rzLR (rzCut (S0 485)) (S0 480 8) (S0 480 16) (S0 480 9) (S0 480 21)))
noncomputable def rxmRLW_22 (S0 : Nat → Int → Int) (ws : List Int) (S : Nat → Int → Int) (base : Int) : Nat := rxmRL_22 S0 ws S base
noncomputable def rxIRLW_23 (S0 : Nat → Int → Int) (ws : List Int) (S : Nat → Int → Int) (base a v : Int) : Prop := rxIRL_23 S0 ws S base a v ∧ (rzCk S0 → rzDq S0 → rzWr S0 = rzLn_ → rzCo S0 S (rzLR (rzCut (S0 485)) (S0 480 8) (S0 480 16) (S0 480 9) (S0 480 21)))
noncomputable def rxmRLW_23 (S0 : Nat → Int → Int) (ws : List Int) (S : Nat → Int → Int) (base a v : Int) : Nat := rxmRL_23 S0 ws S base a v
noncomputable def rxIRLW_24 (S0 : Nat → Int → Int) (ws : List Int) (S : Nat → Int → Int) (base a v : Int) : Prop := rxIRL_24 S0 ws S base a v ∧ (rzCk S0 → rzDq S0 → rzWr S0 = rzLn_ → rzCo S0 S (rzLR (rzCut (S0 485)) (S0 480 8) (S0 480 16) (S0 480 9) (S0 480 21)))
noncomputable def rxmRLW_24 (S0 : Nat → Int → Int) (ws : List Int) (S : Nat → Int → Int) (base a v : Int) : Nat := rxmRL_24 S0 ws S base a v
noncomputable def rxPRLW (S0 : Nat → Int → Int) (ws : List Int) : Prop := rxPRL S0 ws
noncomputable def rxPSRLW (S0 : Nat → Int → Int) (ws : List Int) (S : Nat → Int → Int) (w : Option Int) : Prop := w = none ∧ rxPSRL S0 ws S w ∧ (rzCk S0 → rzDq S0 → rzWr S0 = rzLn_ → rzCo S0 S (rzLR (rzCut (S0 485)) (S0 480 8) (S0 480 16) (S0 480 9) (S0 480 21)))
theorem rxkRLW_2 {S0 : Nat → Int → Int} {ws : List Int} {S : Nat → Int → Int} {which is : Int} (hP : rxPRLW S0 ws) (hin : bx_same rxL (bx_mdl rxCRLW.2.2.1) S0 S) (I0 : bx_Inv rxL S) (hinv : rxIRLW_2 S0 ws S which is) (l8 : (-1) ≤ which) (u8 : which ≤ 2) (l9 : 0 ≤ is) (u9 : is ≤ 1) : rxPMUW S [480, is] ∧ ∀ (S_p : Nat → Int → Int), rxPSMUW S [480, is] S_p none → bx_Inv rxL S_p → bx_same rxL (bx_mdl rxCMUW.2.2.1) S S_p → rxIRLW_3 S0 ws S_p which is ∧ rxmRLW_3 S0 ws S_p which is < rxmRLW_2 S0 ws S which is := by
  obtain ⟨hI, hx⟩ := hinv
  have g_ := rxkRL_2 hP hin I0 hI l8 u8 l9 u9
  exact ⟨g_.1, fun S_p hq I1 hsm => ⟨⟨(g_.2 S_p hq.2.1 I1 hsm).1, (fun c hD hW => by
    have e := hI.1
    subst e
    obtain ⟨hw, hi⟩ := hx
    have hw := hw hD
    have h14 := hP.2.1
    obtain ⟨-, -, is2, hw2, hc⟩ := hq.2.1
    have he : is = is2 := Option.some.inj (congrArg (fun l : List Int => l[1]?) hw2)
    have h0 : rzCa S S (rzLR (rzCut (S 485)) (S 480 8) (S 480 16) (S 480 9) (S 480 21)) (rzLR (rzCut (S 485)) (S 480 8) (S 480 16)) := ⟨fun _ => ⟨rzKr_rf, hD, fun r q => q⟩, fun z => absurd h14 z⟩
    refine rzCa_mu (is := is) h0 (hsm 480 21 (by decide) (by decide) (by decide +kernel)) hq.2.2 ⟨fun z => by omega, fun z => by omega⟩ (fun z i1 r q => ?_) fun z i1 => ?_
    · refine Or.inl ⟨decide_eq_true (by omega), ?_⟩
      rcases hw with v | v | v | v
      · rcases q with q | q
        · have := of_decide_eq_true q.1
          omega
        · exact Or.inr ⟨v.2.2, Or.inl ⟨by rw [v.2.1]; rfl, q.2⟩⟩
      · rcases q with q | q
        · have := of_decide_eq_true q.1
          omega
        · exact Or.inr ⟨v.2.2, Or.inl ⟨by rw [v.2.1, Bool.or_true], q.2⟩⟩
      · rcases q with q | q
        · exact Or.inl ⟨v.2, q.2⟩
        · exact absurd v.1 (of_decide_eq_false q.1)
      · omega
    · by_cases z2 : S 480 16 < 12
      · refine Or.inl ⟨decide_eq_true z2, ?_⟩
        rcases hw with v | v | v | v
        · omega
        · omega
        · omega
        · exact Or.inr ⟨v.2.2.2, Or.inr ⟨by rw [v.2.1, v.2.2.1]; rfl, rfl⟩⟩
      · exact Or.inr ⟨decide_eq_false z2, rfl⟩)⟩, (g_.2 S_p hq.2.1 I1 hsm).2⟩⟩
theorem rxtRLW_6 {S0 : Nat → Int → Int} {ws : List Int} {S : Nat → Int → Int} {which base i a zz : Int} (hP : rxPRLW S0 ws) (hin : bx_same rxL (bx_mdl rxCRLW.2.2.1) S0 S) (I0 : bx_Inv rxL S) (hinv : rxIRLW_6 S0 ws S which base i a zz) (l8 : 0 ≤ which) (u8 : which ≤ 2) (l9 : 0 ≤ base) (u9 : base ≤ 88) (l10 : 0 ≤ i) (u10 : i ≤ 7) (l11 : 0 ≤ a) (u11 : a ≤ 95) (l12 : 0 ≤ zz) (u12 : zz ≤ 0) : bx_okT rxL (rxL.2.2.1 486 a) zz ∧ rxIRLW_7 S0 ws (bx_up S 486 a zz) which base i a zz ∧ rxmRLW_7 S0 ws (bx_up S 486 a zz) which base i a zz < rxmRLW_6 S0 ws S which base i a zz := by
  obtain ⟨hI, hx⟩ := hinv
  obtain ⟨a_, c_, d_⟩ := rxtRL_6 hP hin I0 hI l8 u8 l9 u9 l10 u10 l11 u11 l12 u12
  exact ⟨a_, ⟨c_, (fun c hD hW => rzCa_c (hx c hD hW) ⟨congrArg rzCut (funext fun _ => (bx_up_ne (by omega))), (bx_up_ne (by omega)), (bx_up_ne (by omega)), (bx_up_ne (by omega)), fun c => rzCk_c c (funext fun _ => (bx_up_ne (by omega))) (funext fun _ => (bx_up_ne (by omega)))⟩ ⟨(bx_up_ne (by omega)), (bx_up_ne (by omega)), (bx_up_ne (by omega)), (bx_up_ne (by omega))⟩ ((bx_up_ne (by omega))) ((bx_up_ne (by omega))))⟩, d_⟩
theorem rxtRLW_8 {S0 : Nat → Int → Int} {ws : List Int} {S : Nat → Int → Int} {which base a v : Int} (hP : rxPRLW S0 ws) (hin : bx_same rxL (bx_mdl rxCRLW.2.2.1) S0 S) (I0 : bx_Inv rxL S) (hinv : rxIRLW_8 S0 ws S which base a v) (l8 : 0 ≤ which) (u8 : which ≤ 2) (l9 : 0 ≤ base) (u9 : base ≤ 88) (l10 : 0 ≤ a) (u10 : a ≤ 88) (l11 : 0 ≤ v) (u11 : v ≤ 2) : bx_okT rxL (rxL.2.2.1 486 a) v ∧ rxIRLW_9 S0 ws (bx_up S 486 a v) which base a v ∧ rxmRLW_9 S0 ws (bx_up S 486 a v) which base a v < rxmRLW_8 S0 ws S which base a v := by
  obtain ⟨hI, hx⟩ := hinv
  obtain ⟨a_, c_, d_⟩ := rxtRL_8 hP hin I0 hI l8 u8 l9 u9 l10 u10 l11 u11
  exact ⟨a_, ⟨c_, (fun c hD hW => rzCa_c (hx c hD hW) ⟨congrArg rzCut (funext fun _ => (bx_up_ne (by omega))), (bx_up_ne (by omega)), (bx_up_ne (by omega)), (bx_up_ne (by omega)), fun c => rzCk_c c (funext fun _ => (bx_up_ne (by omega))) (funext fun _ => (bx_up_ne (by omega)))⟩ ⟨(bx_up_ne (by omega)), (bx_up_ne (by omega)), (bx_up_ne (by omega)), (bx_up_ne (by omega))⟩ ((bx_up_ne (by omega))) ((bx_up_ne (by omega))))⟩, d_⟩
theorem rxtRLW_11 {S0 : Nat → Int → Int} {ws : List Int} {S : Nat → Int → Int} {which base a v : Int} (hP : rxPRLW S0 ws) (hin : bx_same rxL (bx_mdl rxCRLW.2.2.1) S0 S) (I0 : bx_Inv rxL S) (hinv : rxIRLW_11 S0 ws S which base a v) (l8 : 0 ≤ which) (u8 : which ≤ 2) (l9 : 0 ≤ base) (u9 : base ≤ 88) (l10 : 3 ≤ a) (u10 : a ≤ 91) (l11 : 0 ≤ v) (u11 : v ≤ 400) : bx_okT rxL (rxL.2.2.1 486 a) v ∧ rxIRLW_12 S0 ws (bx_up S 486 a v) which base a v ∧ rxmRLW_12 S0 ws (bx_up S 486 a v) which base a v < rxmRLW_11 S0 ws S which base a v := by
  obtain ⟨hI, hx⟩ := hinv
  obtain ⟨a_, c_, d_⟩ := rxtRL_11 hP hin I0 hI l8 u8 l9 u9 l10 u10 l11 u11
  exact ⟨a_, ⟨c_, (fun c hD hW => rzCa_c (hx c hD hW) ⟨congrArg rzCut (funext fun _ => (bx_up_ne (by omega))), (bx_up_ne (by omega)), (bx_up_ne (by omega)), (bx_up_ne (by omega)), fun c => rzCk_c c (funext fun _ => (bx_up_ne (by omega))) (funext fun _ => (bx_up_ne (by omega)))⟩ ⟨(bx_up_ne (by omega)), (bx_up_ne (by omega)), (bx_up_ne (by omega)), (bx_up_ne (by omega))⟩ ((bx_up_ne (by omega))) ((bx_up_ne (by omega))))⟩, d_⟩
theorem rxkRLW_13 {S0 : Nat → Int → Int} {ws : List Int} {S : Nat → Int → Int} {base : Int} (hP : rxPRLW S0 ws) (hin : bx_same rxL (bx_mdl rxCRLW.2.2.1) S0 S) (I0 : bx_Inv rxL S) (hinv : rxIRLW_13 S0 ws S base) (l8 : 0 ≤ base) (u8 : base ≤ 88) : rxPREW S [480, 0] ∧ ∀ (S_p : Nat → Int → Int), rxPSREW S [480, 0] S_p none → bx_Inv rxL S_p → bx_same rxL (bx_mdl rxCREW.2.2.1) S S_p → rxIRLW_14 S0 ws S_p base ∧ rxmRLW_14 S0 ws S_p base < rxmRLW_13 S0 ws S base := by
  obtain ⟨hI, hx⟩ := hinv
  have g_ := rxkRL_13 hP hin I0 hI l8 u8
  exact ⟨g_.1, fun S_p hq I1 hsm => ⟨⟨(g_.2 S_p hq.2.1 I1 hsm).1, (fun c hD hW => by
    have h := hx.2 c hD hW
    obtain ⟨a, b, -⟩ := h.1 hx.1
    have x := hq.2.2 0 rfl (a.2.2.2.2 c) b
    refine rzCa_ex h hx.1 x fun r q => ?_
    rw [hW] at q
    exact q)⟩, (g_.2 S_p hq.2.1 I1 hsm).2⟩⟩
theorem rxtRLW_15 {S0 : Nat → Int → Int} {ws : List Int} {S : Nat → Int → Int} {base a v : Int} (hP : rxPRLW S0 ws) (hin : bx_same rxL (bx_mdl rxCRLW.2.2.1) S0 S) (I0 : bx_Inv rxL S) (hinv : rxIRLW_15 S0 ws S base a v) (l8 : 0 ≤ base) (u8 : base ≤ 88) (l9 : 4 ≤ a) (u9 : a ≤ 92) (l10 : 0 ≤ v) (u10 : v ≤ 400) : bx_okT rxL (rxL.2.2.1 486 a) v ∧ rxIRLW_16 S0 ws (bx_up S 486 a v) base a v ∧ rxmRLW_16 S0 ws (bx_up S 486 a v) base a v < rxmRLW_15 S0 ws S base a v := by
  obtain ⟨hI, hx⟩ := hinv
  obtain ⟨a_, c_, d_⟩ := rxtRL_15 hP hin I0 hI l8 u8 l9 u9 l10 u10
  exact ⟨a_, ⟨c_, (fun c hD hW => rzCa_c (hx c hD hW) ⟨congrArg rzCut (funext fun _ => (bx_up_ne (by omega))), (bx_up_ne (by omega)), (bx_up_ne (by omega)), (bx_up_ne (by omega)), fun c => rzCk_c c (funext fun _ => (bx_up_ne (by omega))) (funext fun _ => (bx_up_ne (by omega)))⟩ ⟨(bx_up_ne (by omega)), (bx_up_ne (by omega)), (bx_up_ne (by omega)), (bx_up_ne (by omega))⟩ ((bx_up_ne (by omega))) ((bx_up_ne (by omega))))⟩, d_⟩
theorem rxtRLW_17 {S0 : Nat → Int → Int} {ws : List Int} {S : Nat → Int → Int} {base a v : Int} (hP : rxPRLW S0 ws) (hin : bx_same rxL (bx_mdl rxCRLW.2.2.1) S0 S) (I0 : bx_Inv rxL S) (hinv : rxIRLW_17 S0 ws S base a v) (l8 : 0 ≤ base) (u8 : base ≤ 88) (l9 : 5 ≤ a) (u9 : a ≤ 93) (l10 : 0 ≤ v) (u10 : v ≤ 400) : bx_okT rxL (rxL.2.2.1 486 a) v ∧ rxIRLW_18 S0 ws (bx_up S 486 a v) base a v ∧ rxmRLW_18 S0 ws (bx_up S 486 a v) base a v < rxmRLW_17 S0 ws S base a v := by
  obtain ⟨hI, hx⟩ := hinv
  obtain ⟨a_, c_, d_⟩ := rxtRL_17 hP hin I0 hI l8 u8 l9 u9 l10 u10
  exact ⟨a_, ⟨c_, (fun c hD hW => rzCa_c (hx c hD hW) ⟨congrArg rzCut (funext fun _ => (bx_up_ne (by omega))), (bx_up_ne (by omega)), (bx_up_ne (by omega)), (bx_up_ne (by omega)), fun c => rzCk_c c (funext fun _ => (bx_up_ne (by omega))) (funext fun _ => (bx_up_ne (by omega)))⟩ ⟨(bx_up_ne (by omega)), (bx_up_ne (by omega)), (bx_up_ne (by omega)), (bx_up_ne (by omega))⟩ ((bx_up_ne (by omega))) ((bx_up_ne (by omega))))⟩, d_⟩
theorem rxkRLW_19 {S0 : Nat → Int → Int} {ws : List Int} {S : Nat → Int → Int} {base : Int} (hP : rxPRLW S0 ws) (hin : bx_same rxL (bx_mdl rxCRLW.2.2.1) S0 S) (I0 : bx_Inv rxL S) (hinv : rxIRLW_19 S0 ws S base) (l8 : 0 ≤ base) (u8 : base ≤ 88) : rxPNXX S [480] ∧ ∀ (S_p : Nat → Int → Int), rxPSNXX S [480] S_p none → bx_Inv rxL S_p → bx_same rxL (bx_mdl rxCNXX.2.2.1) S S_p → rxIRLW_20 S0 ws S_p base ∧ rxmRLW_20 S0 ws S_p base < rxmRLW_19 S0 ws S base := by
  obtain ⟨hI, hx⟩ := hinv
  have g_ := rxkRL_19 hP hin I0 hI l8 u8
  exact ⟨g_.1, fun S_p hq I1 hsm => ⟨⟨(g_.2 S_p hq.2.1 I1 hsm).1, (fun c hD hW => by
    have z14 := hI.1
    have h := hx.1 c hD hW
    obtain ⟨a, b, -⟩ := h.1 z14
    have hi := hx.2 b
    rw [a.1, a.2.1] at hi
    exact rzCa_nx h z14 (show S_p 480 14 = S 480 14 from hsm 480 14 (by decide) (by decide) (by decide +kernel)) (hsm 480 21 (by decide) (by decide) (by decide +kernel)) (rzKr_of hsm (by decide +kernel)) hq.2.2.1 hq.2.2.2 fun r q => Or.inl ⟨hi, q⟩)⟩, (g_.2 S_p hq.2.1 I1 hsm).2⟩⟩
theorem rxkRLW_21 {S0 : Nat → Int → Int} {ws : List Int} {S : Nat → Int → Int} {base : Int} (hP : rxPRLW S0 ws) (hin : bx_same rxL (bx_mdl rxCRLW.2.2.1) S0 S) (I0 : bx_Inv rxL S) (hinv : rxIRLW_21 S0 ws S base) (l8 : 0 ≤ base) (u8 : base ≤ 88) : rxPREW S [480, 1] ∧ ∀ (S_p : Nat → Int → Int), rxPSREW S [480, 1] S_p none → bx_Inv rxL S_p → bx_same rxL (bx_mdl rxCREW.2.2.1) S S_p → rxIRLW_22 S0 ws S_p base ∧ rxmRLW_22 S0 ws S_p base < rxmRLW_21 S0 ws S base := by
  obtain ⟨hI, hx⟩ := hinv
  have g_ := rxkRL_21 hP hin I0 hI l8 u8
  exact ⟨g_.1, fun S_p hq I1 hsm => ⟨⟨(g_.2 S_p hq.2.1 I1 hsm).1, (fun c hD hW => by
    have z14 := hI.1
    have h := hx c hD hW
    obtain ⟨a, b, -⟩ := h.1 z14
    have x := hq.2.2 1 rfl (a.2.2.2.2 c) b
    refine rzCa_tl h z14 x fun r q => ?_
    rw [hW] at q
    exact q)⟩, (g_.2 S_p hq.2.1 I1 hsm).2⟩⟩
theorem rxtRLW_23 {S0 : Nat → Int → Int} {ws : List Int} {S : Nat → Int → Int} {base a v : Int} (hP : rxPRLW S0 ws) (hin : bx_same rxL (bx_mdl rxCRLW.2.2.1) S0 S) (I0 : bx_Inv rxL S) (hinv : rxIRLW_23 S0 ws S base a v) (l8 : 0 ≤ base) (u8 : base ≤ 88) (l9 : 6 ≤ a) (u9 : a ≤ 94) (l10 : 0 ≤ v) (u10 : v ≤ 400) : bx_okT rxL (rxL.2.2.1 486 a) v ∧ rxIRLW_24 S0 ws (bx_up S 486 a v) base a v ∧ rxmRLW_24 S0 ws (bx_up S 486 a v) base a v < rxmRLW_23 S0 ws S base a v := by
  obtain ⟨hI, hx⟩ := hinv
  obtain ⟨a_, c_, d_⟩ := rxtRL_23 hP hin I0 hI l8 u8 l9 u9 l10 u10
  exact ⟨a_, ⟨c_, (fun c hD hW => rzCo_c (hx c hD hW) ⟨congrArg rzCut (funext fun _ => (bx_up_ne (by omega))), (bx_up_ne (by omega)), (bx_up_ne (by omega)), (bx_up_ne (by omega)), fun c => rzCk_c c (funext fun _ => (bx_up_ne (by omega))) (funext fun _ => (bx_up_ne (by omega)))⟩ ⟨(bx_up_ne (by omega)), (bx_up_ne (by omega)), (bx_up_ne (by omega)), (bx_up_ne (by omega))⟩ ((bx_up_ne (by omega))) ((bx_up_ne (by omega))))⟩, d_⟩
theorem rxcRLW_0_0 {S0 : Nat → Int → Int} {ws : List Int} {S : Nat → Int → Int} {x8 : Int} (hP : rxPRLW S0 ws) (hin : bx_same rxL (bx_mdl rxCRLW.2.2.1) S0 S) (I0 : bx_Inv rxL S) (hinv : rxIRLW_0 S0 ws S) (l8 : 0 ≤ x8) (u8 : x8 ≤ 3) (f0 : x8 ≠ 1) (f1 : x8 ≠ 1) (f2 : x8 ≠ 1) (e0 : S 480 11 = x8) : (True) ∧ (True) ∧ rxIRLW_1 S0 ws S ((-1)) ∧ rxmRLW_1 S0 ws S ((-1)) < rxmRLW_0 S0 ws S := by
  obtain ⟨hI, hx⟩ := hinv
  obtain ⟨a_, b_, c_, d_⟩ := rxcRL_0_0 hP hin I0 hI l8 u8 f0 f1 f2 e0
  exact ⟨a_, b_, ⟨c_, (fun hD => by
    have e := hI.1
    subst e
    exact Or.inr (Or.inr (Or.inr ⟨rfl, rzDq_no hD (w := rzW_slips) (v := 20325907) (by decide) (by decide) (by omega), rzDq_no hD (w := rzW_hours) (v := 8902227) (by decide) (by decide) (by omega), rzDq_no hD (w := rzW_bars) (v := 67155) (by decide) (by decide) (by omega)⟩)))⟩, d_⟩
theorem rxcRLW_0_1 {S0 : Nat → Int → Int} {ws : List Int} {S : Nat → Int → Int} {x8 x9 : Int} (hP : rxPRLW S0 ws) (hin : bx_same rxL (bx_mdl rxCRLW.2.2.1) S0 S) (I0 : bx_Inv rxL S) (hinv : rxIRLW_0 S0 ws S) (l8 : 1 ≤ x8) (u8 : x8 ≤ 1) (l9 : (-9223372036854775808) ≤ x9) (u9 : x9 ≤ 9223372036854775807) (f0 : x9 ≠ 67155) (f1 : x9 ≠ 8902227) (f2 : x9 ≠ 20325907) (e1 : S 480 11 = x8) (e0 : S 480 12 = x9) : (True) ∧ (True) ∧ rxIRLW_1 S0 ws S ((-1)) ∧ rxmRLW_1 S0 ws S ((-1)) < rxmRLW_0 S0 ws S := by
  obtain ⟨hI, hx⟩ := hinv
  obtain ⟨a_, b_, c_, d_⟩ := rxcRL_0_1 hP hin I0 hI l8 u8 l9 u9 f0 f1 f2 e1 e0
  exact ⟨a_, b_, ⟨c_, (fun hD => by
    have e := hI.1
    subst e
    exact Or.inr (Or.inr (Or.inr ⟨rfl, rzDq_no hD (w := rzW_slips) (v := 20325907) (by decide) (by decide) (by omega), rzDq_no hD (w := rzW_hours) (v := 8902227) (by decide) (by decide) (by omega), rzDq_no hD (w := rzW_bars) (v := 67155) (by decide) (by decide) (by omega)⟩)))⟩, d_⟩
theorem rxcRLW_0_2 {S0 : Nat → Int → Int} {ws : List Int} {S : Nat → Int → Int} {x8 x9 : Int} (hP : rxPRLW S0 ws) (hin : bx_same rxL (bx_mdl rxCRLW.2.2.1) S0 S) (I0 : bx_Inv rxL S) (hinv : rxIRLW_0 S0 ws S) (l8 : 1 ≤ x8) (u8 : x8 ≤ 1) (l9 : 67155 ≤ x9) (u9 : x9 ≤ 67155) (f0 : x9 ≠ 8902227) (f1 : x9 ≠ 20325907) (e1 : S 480 11 = x8) (e0 : S 480 12 = x9) : (True) ∧ (True) ∧ rxIRLW_1 S0 ws S 2 ∧ rxmRLW_1 S0 ws S 2 < rxmRLW_0 S0 ws S := by
  obtain ⟨hI, hx⟩ := hinv
  obtain ⟨a_, b_, c_, d_⟩ := rxcRL_0_2 hP hin I0 hI l8 u8 l9 u9 f0 f1 e1 e0
  exact ⟨a_, b_, ⟨c_, (fun hD => by
    have e := hI.1
    subst e
    exact Or.inr (Or.inr (Or.inl ⟨rfl, (rzDq_is hD (w := rzW_bars) (v := 67155) (by decide) (by decide)).mp ⟨by omega, by omega⟩⟩)))⟩, d_⟩
theorem rxcRLW_0_3 {S0 : Nat → Int → Int} {ws : List Int} {S : Nat → Int → Int} {x8 x9 : Int} (hP : rxPRLW S0 ws) (hin : bx_same rxL (bx_mdl rxCRLW.2.2.1) S0 S) (I0 : bx_Inv rxL S) (hinv : rxIRLW_0 S0 ws S) (l8 : 1 ≤ x8) (u8 : x8 ≤ 1) (l9 : 8902227 ≤ x9) (u9 : x9 ≤ 8902227) (f0 : x9 ≠ 20325907) (e1 : S 480 11 = x8) (e0 : S 480 12 = x9) : (True) ∧ (True) ∧ rxIRLW_1 S0 ws S 1 ∧ rxmRLW_1 S0 ws S 1 < rxmRLW_0 S0 ws S := by
  obtain ⟨hI, hx⟩ := hinv
  obtain ⟨a_, b_, c_, d_⟩ := rxcRL_0_3 hP hin I0 hI l8 u8 l9 u9 f0 e1 e0
  exact ⟨a_, b_, ⟨c_, (fun hD => by
    have e := hI.1
    subst e
    exact Or.inr (Or.inl ⟨rfl, (rzDq_is hD (w := rzW_hours) (v := 8902227) (by decide) (by decide)).mp ⟨by omega, by omega⟩, rzDq_no hD (w := rzW_bars) (v := 67155) (by decide) (by decide) (by omega)⟩))⟩, d_⟩
theorem rxcRLW_0_4 {S0 : Nat → Int → Int} {ws : List Int} {S : Nat → Int → Int} {x8 x9 : Int} (hP : rxPRLW S0 ws) (hin : bx_same rxL (bx_mdl rxCRLW.2.2.1) S0 S) (I0 : bx_Inv rxL S) (hinv : rxIRLW_0 S0 ws S) (l8 : 1 ≤ x8) (u8 : x8 ≤ 1) (l9 : 20325907 ≤ x9) (u9 : x9 ≤ 20325907) (e1 : S 480 11 = x8) (e0 : S 480 12 = x9) : (True) ∧ (True) ∧ rxIRLW_1 S0 ws S 0 ∧ rxmRLW_1 S0 ws S 0 < rxmRLW_0 S0 ws S := by
  obtain ⟨hI, hx⟩ := hinv
  obtain ⟨a_, b_, c_, d_⟩ := rxcRL_0_4 hP hin I0 hI l8 u8 l9 u9 e1 e0
  exact ⟨a_, b_, ⟨c_, (fun hD => by
    have e := hI.1
    subst e
    exact Or.inl ⟨rfl, (rzDq_is hD (w := rzW_slips) (v := 20325907) (by decide) (by decide)).mp ⟨by omega, by omega⟩, rzDq_no hD (w := rzW_bars) (v := 67155) (by decide) (by decide) (by omega)⟩)⟩, d_⟩
theorem rxcRLW_1_0 {S0 : Nat → Int → Int} {ws : List Int} {S : Nat → Int → Int} {which x9 : Int} (hP : rxPRLW S0 ws) (hin : bx_same rxL (bx_mdl rxCRLW.2.2.1) S0 S) (I0 : bx_Inv rxL S) (hinv : rxIRLW_1 S0 ws S which) (l8 : 0 ≤ which) (u8 : which ≤ 2) (l9 : 0 ≤ x9) (u9 : x9 ≤ 11) (f0 : which ≠ (-1)) (e0 : S 480 16 = x9) : (True) ∧ (True) ∧ rxIRLW_2 S0 ws S which 1 ∧ rxmRLW_2 S0 ws S which 1 < rxmRLW_1 S0 ws S which := by
  obtain ⟨hI, hx⟩ := hinv
  obtain ⟨a_, b_, c_, d_⟩ := rxcRL_1_0 hP hin I0 hI l8 u8 l9 u9 f0 e0
  exact ⟨a_, b_, ⟨c_, (by
    have e : S = S0 := hI
    subst e
    exact ⟨hx, Or.inl ⟨rfl, by omega, by omega⟩⟩)⟩, d_⟩
theorem rxcRLW_1_1 {S0 : Nat → Int → Int} {ws : List Int} {S : Nat → Int → Int} {which x9 : Int} (hP : rxPRLW S0 ws) (hin : bx_same rxL (bx_mdl rxCRLW.2.2.1) S0 S) (I0 : bx_Inv rxL S) (hinv : rxIRLW_1 S0 ws S which) (l8 : 0 ≤ which) (u8 : which ≤ 2) (l9 : 12 ≤ x9) (u9 : x9 ≤ 12) (f0 : which ≠ (-1)) (e0 : S 480 16 = x9) : (True) ∧ (True) ∧ rxIRLW_2 S0 ws S which 0 ∧ rxmRLW_2 S0 ws S which 0 < rxmRLW_1 S0 ws S which := by
  obtain ⟨hI, hx⟩ := hinv
  obtain ⟨a_, b_, c_, d_⟩ := rxcRL_1_1 hP hin I0 hI l8 u8 l9 u9 f0 e0
  exact ⟨a_, b_, ⟨c_, (by
    have e : S = S0 := hI
    subst e
    exact ⟨hx, Or.inr ⟨rfl, by omega⟩⟩)⟩, d_⟩
theorem rxcRLW_1_2 {S0 : Nat → Int → Int} {ws : List Int} {S : Nat → Int → Int} {which : Int} (hP : rxPRLW S0 ws) (hin : bx_same rxL (bx_mdl rxCRLW.2.2.1) S0 S) (I0 : bx_Inv rxL S) (hinv : rxIRLW_1 S0 ws S which) (l8 : (-1) ≤ which) (u8 : which ≤ (-1)) : (True) ∧ (True) ∧ rxIRLW_2 S0 ws S which 0 ∧ rxmRLW_2 S0 ws S which 0 < rxmRLW_1 S0 ws S which := by
  obtain ⟨hI, hx⟩ := hinv
  obtain ⟨a_, b_, c_, d_⟩ := rxcRL_1_2 hP hin I0 hI l8 u8
  exact ⟨a_, b_, ⟨c_, (by
    have e : S = S0 := hI
    subst e
    exact ⟨hx, Or.inr ⟨rfl, by omega⟩⟩)⟩, d_⟩
theorem rxcRLW_3_0 {S0 : Nat → Int → Int} {ws : List Int} {S : Nat → Int → Int} {which is x10 x11 : Int} (hP : rxPRLW S0 ws) (hin : bx_same rxL (bx_mdl rxCRLW.2.2.1) S0 S) (I0 : bx_Inv rxL S) (hinv : rxIRLW_3 S0 ws S which is) (l8 : (-1) ≤ which) (u8 : which ≤ 2) (l9 : 0 ≤ is) (u9 : is ≤ 1) (l10 : 0 ≤ x10) (u10 : x10 ≤ 0) (l11 : 0 ≤ x11) (u11 : x11 ≤ 12) (e1 : S 480 14 = x10) (e0 : S 480 16 = x11) : ((0 ≤ which ∧ which ≤ 2) ∧ (0 ≤ x11 ∧ x11 ≤ 11) ∧ True) ∧ (True) ∧ rxIRLW_4 S0 ws S which x11 ∧ rxmRLW_4 S0 ws S which x11 < rxmRLW_3 S0 ws S which is := by
  obtain ⟨hI, hx⟩ := hinv
  obtain ⟨a_, b_, c_, d_⟩ := rxcRL_3_0 hP hin I0 hI l8 u8 l9 u9 l10 u10 l11 u11 e1 e0
  exact ⟨a_, b_, ⟨c_, (fun c hD hW => hx c hD hW)⟩, d_⟩
theorem rxdRLW_3_0 {S0 : Nat → Int → Int} {ws : List Int} {S : Nat → Int → Int} {which is x10 : Int} (hP : rxPRLW S0 ws) (hin : bx_same rxL (bx_mdl rxCRLW.2.2.1) S0 S) (hin2 : bx_same rxL (bx_mdl rxCRLW.2.2.1) S S) (I0 : bx_Inv rxL S) (I1 : bx_Inv rxL S) (hinv : rxIRLW_3 S0 ws S which is) (l8 : (-1) ≤ which) (u8 : which ≤ 2) (l9 : 0 ≤ is) (u9 : is ≤ 1) (l10 : 1 ≤ x10) (u10 : x10 ≤ 1) (f0 : x10 ≠ 0) (e0 : S 480 14 = x10) : (True) ∧ rxPSRLW S0 ws S none := by
  obtain ⟨hI, hx⟩ := hinv
  obtain ⟨a_, c_⟩ := rxdRL_3_0 hP hin hin2 I0 I1 hI l8 u8 l9 u9 l10 u10 f0 e0
  exact ⟨a_, rfl, c_, (fun c hD hW => rzCa_bd (hx c hD hW) (by omega))⟩
theorem rxcRLW_4_0 {S0 : Nat → Int → Int} {ws : List Int} {S : Nat → Int → Int} {which nc x10 : Int} (hP : rxPRLW S0 ws) (hin : bx_same rxL (bx_mdl rxCRLW.2.2.1) S0 S) (I0 : bx_Inv rxL S) (hinv : rxIRLW_4 S0 ws S which nc) (l8 : 0 ≤ which) (u8 : which ≤ 2) (l9 : 0 ≤ nc) (u9 : nc ≤ 11) (l10 : 0 ≤ x10) (u10 : x10 ≤ 88) (f0 : x10 = 8 * (nc)) : (True) ∧ (True) ∧ rxIRLW_5 S0 ws S which x10 0 ∧ rxmRLW_5 S0 ws S which x10 0 < rxmRLW_4 S0 ws S which nc := by
  obtain ⟨hI, hx⟩ := hinv
  obtain ⟨a_, b_, c_, d_⟩ := rxcRL_4_0 hP hin I0 hI l8 u8 l9 u9 l10 u10 f0
  exact ⟨a_, b_, ⟨c_, (fun c hD hW => hx c hD hW)⟩, d_⟩
theorem rxcRLW_5_0 {S0 : Nat → Int → Int} {ws : List Int} {S : Nat → Int → Int} {which base i x11 : Int} (hP : rxPRLW S0 ws) (hin : bx_same rxL (bx_mdl rxCRLW.2.2.1) S0 S) (I0 : bx_Inv rxL S) (hinv : rxIRLW_5 S0 ws S which base i) (l8 : 0 ≤ which) (u8 : which ≤ 2) (l9 : 0 ≤ base) (u9 : base ≤ 88) (l10 : 0 ≤ i) (u10 : i ≤ 7) (l11 : 0 ≤ x11) (u11 : x11 ≤ 95) (f0 : x11 = base + i) : (True) ∧ (True) ∧ rxIRLW_6 S0 ws S which base i x11 0 ∧ rxmRLW_6 S0 ws S which base i x11 0 < rxmRLW_5 S0 ws S which base i := by
  obtain ⟨hI, hx⟩ := hinv
  obtain ⟨a_, b_, c_, d_⟩ := rxcRL_5_0 hP hin I0 hI l8 u8 l9 u9 l10 u10 l11 u11 f0
  exact ⟨a_, b_, ⟨c_, (fun c hD hW => hx c hD hW)⟩, d_⟩
theorem rxcRLW_5_1 {S0 : Nat → Int → Int} {ws : List Int} {S : Nat → Int → Int} {which base i : Int} (hP : rxPRLW S0 ws) (hin : bx_same rxL (bx_mdl rxCRLW.2.2.1) S0 S) (I0 : bx_Inv rxL S) (hinv : rxIRLW_5 S0 ws S which base i) (l8 : 0 ≤ which) (u8 : which ≤ 2) (l9 : 0 ≤ base) (u9 : base ≤ 88) (l10 : 8 ≤ i) (u10 : i ≤ 8) : (True) ∧ (True) ∧ rxIRLW_8 S0 ws S which base base which ∧ rxmRLW_8 S0 ws S which base base which < rxmRLW_5 S0 ws S which base i := by
  obtain ⟨hI, hx⟩ := hinv
  obtain ⟨a_, b_, c_, d_⟩ := rxcRL_5_1 hP hin I0 hI l8 u8 l9 u9 l10 u10
  exact ⟨a_, b_, ⟨c_, (fun c hD hW => hx c hD hW)⟩, d_⟩
theorem rxcRLW_7_0 {S0 : Nat → Int → Int} {ws : List Int} {S : Nat → Int → Int} {which base i a zz : Int} (hP : rxPRLW S0 ws) (hin : bx_same rxL (bx_mdl rxCRLW.2.2.1) S0 S) (I0 : bx_Inv rxL S) (hinv : rxIRLW_7 S0 ws S which base i a zz) (l8 : 0 ≤ which) (u8 : which ≤ 2) (l9 : 0 ≤ base) (u9 : base ≤ 88) (l10 : 0 ≤ i) (u10 : i ≤ 7) (l11 : 0 ≤ a) (u11 : a ≤ 95) (l12 : 0 ≤ zz) (u12 : zz ≤ 0) : (True) ∧ (True) ∧ rxIRLW_5 S0 ws S which base (i + 1) ∧ rxmRLW_5 S0 ws S which base (i + 1) < rxmRLW_7 S0 ws S which base i a zz := by
  obtain ⟨hI, hx⟩ := hinv
  obtain ⟨a_, b_, c_, d_⟩ := rxcRL_7_0 hP hin I0 hI l8 u8 l9 u9 l10 u10 l11 u11 l12 u12
  exact ⟨a_, b_, ⟨c_, (fun c hD hW => hx c hD hW)⟩, d_⟩
theorem rxcRLW_9_0 {S0 : Nat → Int → Int} {ws : List Int} {S : Nat → Int → Int} {which base a v x12 : Int} (hP : rxPRLW S0 ws) (hin : bx_same rxL (bx_mdl rxCRLW.2.2.1) S0 S) (I0 : bx_Inv rxL S) (hinv : rxIRLW_9 S0 ws S which base a v) (l8 : 0 ≤ which) (u8 : which ≤ 2) (l9 : 0 ≤ base) (u9 : base ≤ 88) (l10 : 0 ≤ a) (u10 : a ≤ 88) (l11 : 0 ≤ v) (u11 : v ≤ 2) (l12 : 0 ≤ x12) (u12 : x12 ≤ 12) (e0 : S 480 16 = x12) : ((0 ≤ x12 ∧ x12 ≤ 11) ∧ True) ∧ (True) ∧ rxIRLW_10 S0 ws S which base x12 ∧ rxmRLW_10 S0 ws S which base x12 < rxmRLW_9 S0 ws S which base a v := by
  obtain ⟨hI, hx⟩ := hinv
  obtain ⟨a_, b_, c_, d_⟩ := rxcRL_9_0 hP hin I0 hI l8 u8 l9 u9 l10 u10 l11 u11 l12 u12 e0
  exact ⟨a_, b_, ⟨c_, (fun c hD hW => hx c hD hW)⟩, d_⟩
theorem rxcRLW_10_0 {S0 : Nat → Int → Int} {ws : List Int} {S : Nat → Int → Int} {which base nc x11 : Int} (hP : rxPRLW S0 ws) (hin : bx_same rxL (bx_mdl rxCRLW.2.2.1) S0 S) (I0 : bx_Inv rxL S) (hinv : rxIRLW_10 S0 ws S which base nc) (l8 : 0 ≤ which) (u8 : which ≤ 2) (l9 : 0 ≤ base) (u9 : base ≤ 88) (l10 : 0 ≤ nc) (u10 : nc ≤ 11) (l11 : 0 ≤ x11) (u11 : x11 ≤ 400) (e0 : (bx_up S 480 16 (nc + 1)) 480 18 = x11) : (True) ∧ (True) ∧ rxIRLW_11 S0 ws (bx_up S 480 16 (nc + 1)) which base (base + 3) x11 ∧ rxmRLW_11 S0 ws (bx_up S 480 16 (nc + 1)) which base (base + 3) x11 < rxmRLW_10 S0 ws S which base nc := by
  obtain ⟨hI, hx⟩ := hinv
  obtain ⟨a_, b_, c_, d_⟩ := rxcRL_10_0 hP hin I0 hI l8 u8 l9 u9 l10 u10 l11 u11 e0
  exact ⟨a_, b_, ⟨c_, (fun c hD hW => rzCa_c (hx c hD hW) ⟨congrArg rzCut (funext fun _ => (bx_up_ne (by omega))), (bx_up_ne (by omega)), (bx_up_ne (by omega)), (bx_up_ne (by omega)), fun c => rzCk_c c (funext fun _ => (bx_up_ne (by omega))) (funext fun _ => (bx_up_ne (by omega)))⟩ ⟨(bx_up_ne (by omega)), (bx_up_ne (by omega)), (bx_up_ne (by omega)), (bx_up_ne (by omega))⟩ ((bx_up_ne (by omega))) ((bx_up_ne (by omega))))⟩, d_⟩
theorem rxcRLW_12_0 {S0 : Nat → Int → Int} {ws : List Int} {S : Nat → Int → Int} {which base a v : Int} (hP : rxPRLW S0 ws) (hin : bx_same rxL (bx_mdl rxCRLW.2.2.1) S0 S) (I0 : bx_Inv rxL S) (hinv : rxIRLW_12 S0 ws S which base a v) (l8 : 0 ≤ which) (u8 : which ≤ 1) (l9 : 0 ≤ base) (u9 : base ≤ 88) (l10 : 3 ≤ a) (u10 : a ≤ 91) (l11 : 0 ≤ v) (u11 : v ≤ 400) (f0 : which ≠ 2) : (True) ∧ (True) ∧ rxIRLW_13 S0 ws S base ∧ rxmRLW_13 S0 ws S base < rxmRLW_12 S0 ws S which base a v := by
  obtain ⟨hI, hx⟩ := hinv
  obtain ⟨a_, b_, c_, d_⟩ := rxcRL_12_0 hP hin I0 hI l8 u8 l9 u9 l10 u10 l11 u11 f0
  exact ⟨a_, b_, ⟨c_, (by
    have z14 : S 480 14 = 0 := hI.2.2
    exact ⟨z14, fun c hD hW => rzCa_im (hx c hD hW) fun _ r q => Or.inr ⟨decide_eq_false (by omega), q⟩⟩)⟩, d_⟩
theorem rxcRLW_12_1 {S0 : Nat → Int → Int} {ws : List Int} {S : Nat → Int → Int} {which base a v x12 : Int} (hP : rxPRLW S0 ws) (hin : bx_same rxL (bx_mdl rxCRLW.2.2.1) S0 S) (I0 : bx_Inv rxL S) (hinv : rxIRLW_12 S0 ws S which base a v) (l8 : 2 ≤ which) (u8 : which ≤ 2) (l9 : 0 ≤ base) (u9 : base ≤ 88) (l10 : 3 ≤ a) (u10 : a ≤ 91) (l11 : 0 ≤ v) (u11 : v ≤ 400) (l12 : 0 ≤ x12) (u12 : x12 ≤ 400) (e0 : S 480 18 = x12) : (True) ∧ (True) ∧ rxIRLW_15 S0 ws S base (base + 4) x12 ∧ rxmRLW_15 S0 ws S base (base + 4) x12 < rxmRLW_12 S0 ws S which base a v := by
  obtain ⟨hI, hx⟩ := hinv
  obtain ⟨a_, b_, c_, d_⟩ := rxcRL_12_1 hP hin I0 hI l8 u8 l9 u9 l10 u10 l11 u11 l12 u12 e0
  exact ⟨a_, b_, ⟨c_, (fun c hD hW => rzCa_im (hx c hD hW) fun _ r q => Or.inl ⟨decide_eq_true (by omega), q⟩)⟩, d_⟩
theorem rxcRLW_14_0 {S0 : Nat → Int → Int} {ws : List Int} {S : Nat → Int → Int} {base x9 : Int} (hP : rxPRLW S0 ws) (hin : bx_same rxL (bx_mdl rxCRLW.2.2.1) S0 S) (I0 : bx_Inv rxL S) (hinv : rxIRLW_14 S0 ws S base) (l8 : 0 ≤ base) (u8 : base ≤ 88) (l9 : 0 ≤ x9) (u9 : x9 ≤ 400) (e0 : S 480 18 = x9) : (True) ∧ (True) ∧ rxIRLW_15 S0 ws S base (base + 4) x9 ∧ rxmRLW_15 S0 ws S base (base + 4) x9 < rxmRLW_14 S0 ws S base := by
  obtain ⟨hI, hx⟩ := hinv
  obtain ⟨a_, b_, c_, d_⟩ := rxcRL_14_0 hP hin I0 hI l8 u8 l9 u9 e0
  exact ⟨a_, b_, ⟨c_, (fun c hD hW => hx c hD hW)⟩, d_⟩
theorem rxcRLW_16_0 {S0 : Nat → Int → Int} {ws : List Int} {S : Nat → Int → Int} {base a v x11 : Int} (hP : rxPRLW S0 ws) (hin : bx_same rxL (bx_mdl rxCRLW.2.2.1) S0 S) (I0 : bx_Inv rxL S) (hinv : rxIRLW_16 S0 ws S base a v) (l8 : 0 ≤ base) (u8 : base ≤ 88) (l9 : 4 ≤ a) (u9 : a ≤ 92) (l10 : 0 ≤ v) (u10 : v ≤ 400) (l11 : 0 ≤ x11) (u11 : x11 ≤ 400) (e0 : S 480 18 = x11) : (True) ∧ (True) ∧ rxIRLW_17 S0 ws S base (base + 5) x11 ∧ rxmRLW_17 S0 ws S base (base + 5) x11 < rxmRLW_16 S0 ws S base a v := by
  obtain ⟨hI, hx⟩ := hinv
  obtain ⟨a_, b_, c_, d_⟩ := rxcRL_16_0 hP hin I0 hI l8 u8 l9 u9 l10 u10 l11 u11 e0
  exact ⟨a_, b_, ⟨c_, (fun c hD hW => hx c hD hW)⟩, d_⟩
theorem rxcRLW_18_0 {S0 : Nat → Int → Int} {ws : List Int} {S : Nat → Int → Int} {base a v x11 x12 x13 : Int} (hP : rxPRLW S0 ws) (hin : bx_same rxL (bx_mdl rxCRLW.2.2.1) S0 S) (I0 : bx_Inv rxL S) (hinv : rxIRLW_18 S0 ws S base a v) (l8 : 0 ≤ base) (u8 : base ≤ 88) (l9 : 5 ≤ a) (u9 : a ≤ 93) (l10 : 0 ≤ v) (u10 : v ≤ 400) (l11 : 0 ≤ x11) (u11 : x11 ≤ 0) (l12 : 0 ≤ x12) (u12 : x12 ≤ 3) (l13 : 0 ≤ x13) (u13 : x13 ≤ 400) (f0 : x12 ≠ 1) (e2 : S 480 14 = x11) (e1 : S 480 11 = x12) (e0 : S 480 18 = x13) : (True) ∧ (True) ∧ rxIRLW_23 S0 ws S base (base + 6) x13 ∧ rxmRLW_23 S0 ws S base (base + 6) x13 < rxmRLW_18 S0 ws S base a v := by
  obtain ⟨hI, hx⟩ := hinv
  obtain ⟨a_, b_, c_, d_⟩ := rxcRL_18_0 hP hin I0 hI l8 u8 l9 u9 l10 u10 l11 u11 l12 u12 l13 u13 f0 e2 e1 e0
  exact ⟨a_, b_, ⟨c_, (fun c hD hW => rzCa_dn (hx c hD hW) fun z => by
    obtain ⟨a, b, -⟩ := (hx c hD hW).1 z
    have q := rzDq_no b (w := rzW_if) (v := 294) (by decide) (by decide) (by omega)
    rw [a.1, a.2.1] at q
    exact Or.inr ⟨q, rfl⟩)⟩, d_⟩
theorem rxcRLW_18_1 {S0 : Nat → Int → Int} {ws : List Int} {S : Nat → Int → Int} {base a v x11 x12 x13 x14 : Int} (hP : rxPRLW S0 ws) (hin : bx_same rxL (bx_mdl rxCRLW.2.2.1) S0 S) (I0 : bx_Inv rxL S) (hinv : rxIRLW_18 S0 ws S base a v) (l8 : 0 ≤ base) (u8 : base ≤ 88) (l9 : 5 ≤ a) (u9 : a ≤ 93) (l10 : 0 ≤ v) (u10 : v ≤ 400) (l11 : 0 ≤ x11) (u11 : x11 ≤ 0) (l12 : 1 ≤ x12) (u12 : x12 ≤ 1) (l13 : (-9223372036854775808) ≤ x13) (u13 : x13 ≤ 9223372036854775807) (l14 : 0 ≤ x14) (u14 : x14 ≤ 400) (f0 : x13 ≠ 294) (e3 : S 480 14 = x11) (e2 : S 480 11 = x12) (e1 : S 480 12 = x13) (e0 : S 480 18 = x14) : (True) ∧ (True) ∧ rxIRLW_23 S0 ws S base (base + 6) x14 ∧ rxmRLW_23 S0 ws S base (base + 6) x14 < rxmRLW_18 S0 ws S base a v := by
  obtain ⟨hI, hx⟩ := hinv
  obtain ⟨a_, b_, c_, d_⟩ := rxcRL_18_1 hP hin I0 hI l8 u8 l9 u9 l10 u10 l11 u11 l12 u12 l13 u13 l14 u14 f0 e3 e2 e1 e0
  exact ⟨a_, b_, ⟨c_, (fun c hD hW => rzCa_dn (hx c hD hW) fun z => by
    obtain ⟨a, b, -⟩ := (hx c hD hW).1 z
    have q := rzDq_no b (w := rzW_if) (v := 294) (by decide) (by decide) (by omega)
    rw [a.1, a.2.1] at q
    exact Or.inr ⟨q, rfl⟩)⟩, d_⟩
theorem rxcRLW_18_2 {S0 : Nat → Int → Int} {ws : List Int} {S : Nat → Int → Int} {base a v x11 x12 x13 : Int} (hP : rxPRLW S0 ws) (hin : bx_same rxL (bx_mdl rxCRLW.2.2.1) S0 S) (I0 : bx_Inv rxL S) (hinv : rxIRLW_18 S0 ws S base a v) (l8 : 0 ≤ base) (u8 : base ≤ 88) (l9 : 5 ≤ a) (u9 : a ≤ 93) (l10 : 0 ≤ v) (u10 : v ≤ 400) (l11 : 0 ≤ x11) (u11 : x11 ≤ 0) (l12 : 1 ≤ x12) (u12 : x12 ≤ 1) (l13 : 294 ≤ x13) (u13 : x13 ≤ 294) (e2 : S 480 14 = x11) (e1 : S 480 11 = x12) (e0 : S 480 12 = x13) : (True) ∧ (True) ∧ rxIRLW_19 S0 ws S base ∧ rxmRLW_19 S0 ws S base < rxmRLW_18 S0 ws S base a v := by
  obtain ⟨hI, hx⟩ := hinv
  obtain ⟨a_, b_, c_, d_⟩ := rxcRL_18_2 hP hin I0 hI l8 u8 l9 u9 l10 u10 l11 u11 l12 u12 l13 u13 e2 e1 e0
  exact ⟨a_, b_, ⟨c_, ⟨hx, fun hD => (rzDq_is hD (w := rzW_if) (v := 294) (by decide) (by decide)).mp ⟨by omega, by omega⟩⟩⟩, d_⟩
theorem rxcRLW_18_3 {S0 : Nat → Int → Int} {ws : List Int} {S : Nat → Int → Int} {base a v x11 x12 : Int} (hP : rxPRLW S0 ws) (hin : bx_same rxL (bx_mdl rxCRLW.2.2.1) S0 S) (I0 : bx_Inv rxL S) (hinv : rxIRLW_18 S0 ws S base a v) (l8 : 0 ≤ base) (u8 : base ≤ 88) (l9 : 5 ≤ a) (u9 : a ≤ 93) (l10 : 0 ≤ v) (u10 : v ≤ 400) (l11 : 1 ≤ x11) (u11 : x11 ≤ 1) (l12 : 0 ≤ x12) (u12 : x12 ≤ 400) (f0 : x11 ≠ 0) (e1 : S 480 14 = x11) (e0 : S 480 18 = x12) : (True) ∧ (True) ∧ rxIRLW_23 S0 ws S base (base + 6) x12 ∧ rxmRLW_23 S0 ws S base (base + 6) x12 < rxmRLW_18 S0 ws S base a v := by
  obtain ⟨hI, hx⟩ := hinv
  obtain ⟨a_, b_, c_, d_⟩ := rxcRL_18_3 hP hin I0 hI l8 u8 l9 u9 l10 u10 l11 u11 l12 u12 f0 e1 e0
  exact ⟨a_, b_, ⟨c_, (fun c hD hW => rzCa_bd (hx c hD hW) (by omega))⟩, d_⟩
theorem rxcRLW_20_0 {S0 : Nat → Int → Int} {ws : List Int} {S : Nat → Int → Int} {base : Int} (hP : rxPRLW S0 ws) (hin : bx_same rxL (bx_mdl rxCRLW.2.2.1) S0 S) (I0 : bx_Inv rxL S) (hinv : rxIRLW_20 S0 ws S base) (l8 : 0 ≤ base) (u8 : base ≤ 88) : (True) ∧ (True) ∧ rxIRLW_21 S0 ws S base ∧ rxmRLW_21 S0 ws S base < rxmRLW_20 S0 ws S base := by
  obtain ⟨hI, hx⟩ := hinv
  obtain ⟨a_, b_, c_, d_⟩ := rxcRL_20_0 hP hin I0 hI l8 u8
  exact ⟨a_, b_, ⟨c_, (fun c hD hW => hx c hD hW)⟩, d_⟩
theorem rxcRLW_22_0 {S0 : Nat → Int → Int} {ws : List Int} {S : Nat → Int → Int} {base x9 : Int} (hP : rxPRLW S0 ws) (hin : bx_same rxL (bx_mdl rxCRLW.2.2.1) S0 S) (I0 : bx_Inv rxL S) (hinv : rxIRLW_22 S0 ws S base) (l8 : 0 ≤ base) (u8 : base ≤ 88) (l9 : 0 ≤ x9) (u9 : x9 ≤ 400) (e0 : S 480 18 = x9) : (True) ∧ (True) ∧ rxIRLW_23 S0 ws S base (base + 6) x9 ∧ rxmRLW_23 S0 ws S base (base + 6) x9 < rxmRLW_22 S0 ws S base := by
  obtain ⟨hI, hx⟩ := hinv
  obtain ⟨a_, b_, c_, d_⟩ := rxcRL_22_0 hP hin I0 hI l8 u8 l9 u9 e0
  exact ⟨a_, b_, ⟨c_, (fun c hD hW => hx c hD hW)⟩, d_⟩
theorem rxdRLW_24_0 {S0 : Nat → Int → Int} {ws : List Int} {S : Nat → Int → Int} {base a v : Int} (hP : rxPRLW S0 ws) (hin : bx_same rxL (bx_mdl rxCRLW.2.2.1) S0 S) (hin2 : bx_same rxL (bx_mdl rxCRLW.2.2.1) S S) (I0 : bx_Inv rxL S) (I1 : bx_Inv rxL S) (hinv : rxIRLW_24 S0 ws S base a v) (l8 : 0 ≤ base) (u8 : base ≤ 88) (l9 : 6 ≤ a) (u9 : a ≤ 94) (l10 : 0 ≤ v) (u10 : v ≤ 400) : (True) ∧ rxPSRLW S0 ws S none := by
  obtain ⟨hI, hx⟩ := hinv
  obtain ⟨a_, c_⟩ := rxdRL_24_0 hP hin hin2 I0 I1 hI l8 u8 l9 u9 l10 u10
  exact ⟨a_, rfl, c_, hx⟩
noncomputable def rxCIWW : bx_Ct := ([(3, (1, 480, 0)), (2, (0, 0, 100000000))], some (0, (0, 0, 1)), [], 0, [])
noncomputable def rxIIWW_0 (S0 : Nat → Int → Int) (ws : List Int) (S : Nat → Int → Int) (x : Int) : Prop := rxIIW_0 S0 ws S x ∧ True
noncomputable def rxmIWW_0 (S0 : Nat → Int → Int) (ws : List Int) (S : Nat → Int → Int) (x : Int) : Nat := rxmIW_0 S0 ws S x
noncomputable def rxzIWW_0 : rx_Z := ([(0, 0), (0, 0), (0, 0), (0, 0), (0, 0), (0, 0), (0, 0), (0, 0), (0, 100000000)], [], [], 0, 0, 0, [(0, .inr (3, (0, 480))), (1, .inr (1, (8, 0)))], [])
noncomputable def rxeIWW_0_0 : rx_End × List (Nat × Int × Int) := (([(0, 0), (0, 0), (0, 0), (0, 0), (0, 0), (0, 0), (0, 0), (0, 0), (0, 100000000), (1, 1), (0, 100000000)], [(2, (10, 0), (8, 0))], [(((0, 0), 1851192626986356799832820811818326617396875588472066220482363392000000), .inr (1, (10, 0))), (((0, 480), 12), .inr (1, (10, 0))), (((0, 0), 1851192626986356799632114105031551009123054124018230966928539648000000), .inr (0, (9, 0))), (((0, 480), 11), .inr (0, (9, 0)))], some (.inr (0, (0, 1)))), [])
noncomputable def rxeIWW_0_1 : rx_End × List (Nat × Int × Int) := (([(0, 0), (0, 0), (0, 0), (0, 0), (0, 0), (0, 0), (0, 0), (0, 0), (0, 100000000), (1, 1), ((-9223372036854775808), 9223372036854775807)], [(3, (10, 0), (8, 0))], [(((0, 0), 1851192626986356799832820811818326617396875588472066220482363392000000), .inr (1, (10, 0))), (((0, 480), 12), .inr (1, (10, 0))), (((0, 0), 1851192626986356799632114105031551009123054124018230966928539648000000), .inr (0, (9, 0))), (((0, 480), 11), .inr (0, (9, 0)))], some (.inr (0, (0, 0)))), [])
noncomputable def rxeIWW_0_2 : rx_End × List (Nat × Int × Int) := (([(0, 0), (0, 0), (0, 0), (0, 0), (0, 0), (0, 0), (0, 0), (0, 0), (0, 100000000), (0, 3)], [(3, (9, 0), (0, 1))], [(((0, 0), 1851192626986356799632114105031551009123054124018230966928539648000000), .inr (0, (9, 0))), (((0, 480), 11), .inr (0, (9, 0)))], some (.inr (0, (0, 0)))), [])
noncomputable def rxYIWW : List bx_HE := [(rxzIWW_0, [], [rxeIWW_0_0, rxeIWW_0_1, rxeIWW_0_2])]
noncomputable def rxUIWW (q : bx_HE) : Bool := false
noncomputable def rxYBIWW : bx_B := (rxV, rxNP, rxDmf, bx_mdH rxCIWW.2.2.1)
set_option maxRecDepth 100000 in
theorem rxYcIWW : bx_chkH rxYBIWW rxM267 rxCIWW rxYIWW (rxUIWW, fun cut z => rx_ex2 (rxCT rxYBIWW rxCnE) cut 30000 rxCIWW.2.2.2.1 267 z) = true := by decide +kernel
noncomputable def rxIIWW (S0 : Nat → Int → Int) (ws : List Int) (i : Nat) : bx_SP := fun S r => match i with | 0 => rxIIWW_0 S0 ws S (r 8) | _ => False
noncomputable def rxmIWW (S0 : Nat → Int → Int) (ws : List Int) (i : Nat) (S : Nat → Int → Int) (r : Nat → Int) : Nat := match i with | 0 => rxmIWW_0 S0 ws S (r 8) | _ => 0
noncomputable def rxPIWW (S0 : Nat → Int → Int) (ws : List Int) : Prop := rxPIW S0 ws
noncomputable def rxPSIWW (S0 : Nat → Int → Int) (ws : List Int) (S : Nat → Int → Int) (w : Option Int) : Prop := rxPSIW S0 ws S w ∧ (∃ x : Int, ws = [480, x] ∧ ((w = some 1 ∧ S0 480 11 = 1 ∧ S0 480 12 = x) ∨ (w = some 0 ∧ ¬ (S0 480 11 = 1 ∧ S0 480 12 = x))))
theorem rxdIWW_0_0 {S0 : Nat → Int → Int} {ws : List Int} {S : Nat → Int → Int} {x x9 x10 : Int} (hP : rxPIWW S0 ws) (hin : bx_same rxL (bx_mdl rxCIWW.2.2.1) S0 S) (hin2 : bx_same rxL (bx_mdl rxCIWW.2.2.1) S S) (I0 : bx_Inv rxL S) (I1 : bx_Inv rxL S) (hinv : rxIIWW_0 S0 ws S x) (l8 : 0 ≤ x) (u8 : x ≤ 100000000) (l9 : 1 ≤ x9) (u9 : x9 ≤ 1) (l10 : 0 ≤ x10) (u10 : x10 ≤ 100000000) (f0 : x10 = x) (e1 : S 480 11 = x9) (e0 : S 480 12 = x10) : (True) ∧ rxPSIWW S0 ws S (some 1) := by
  obtain ⟨hI, hx⟩ := hinv
  obtain ⟨a_, c_⟩ := rxdIW_0_0 hP hin hin2 I0 I1 hI l8 u8 l9 u9 l10 u10 f0 e1 e0
  exact ⟨a_, c_, (by
    have e := hI.1
    have hw := hI.2
    subst e
    exact ⟨x, hw, Or.inl ⟨rfl, by omega, by omega⟩⟩)⟩
theorem rxfIWW_0_0 {X : (Nat → Int → Int) → Prop} {S0 : Nat → Int → Int} {ws : List Int} (hP : rxPIWW S0 ws) : bx_obE rxL X S0 rxCIWW.2.2.1 (rxIIWW S0 ws) (rxPSIWW S0 ws) 0 rxzIWW_0 rxeIWW_0_0 := by
  intro S S_p r r_p hinv hX hin hsm_ hseg
  obtain ⟨I0, I1, h0_, hr_, b_, f_, d_⟩ := bx_cl (evs := [(0, (0, 480), (0, 12), .inr (1, (10, 0))), (0, (0, 480), (0, 11), .inr (0, (9, 0)))]) (fvs := [(2, (10, 0), (8, 0), (0, 0))]) hseg (by decide +kernel) (by decide +kernel)
  have hinv : rxIIWW_0 S0 ws S (r 8) := hinv
  rw [← hr_ 8 (by decide)] at hinv
  obtain ⟨⟨l8, u8⟩, ⟨l9, u9⟩, ⟨l10, u10⟩, -⟩ := b_
  obtain ⟨f0, -⟩ := f_
  obtain ⟨e0, ⟨e1, w_⟩⟩ := d_
  subst w_
  have g := rxdIWW_0_0 hP hin hsm_ I0 I1 hinv l8 u8 l9 u9 l10 u10 f0 e1 e0
  refine ⟨bx_narP_ok (l := []) g.1, ?_⟩
  show rxPSIWW S0 ws S_p (some (bx_num r_p (.inr (0, (0, 1)))))
  rw [bx_xv_ok h0_]
  exact g.2
theorem rxdIWW_0_1 {S0 : Nat → Int → Int} {ws : List Int} {S : Nat → Int → Int} {x x9 x10 : Int} (hP : rxPIWW S0 ws) (hin : bx_same rxL (bx_mdl rxCIWW.2.2.1) S0 S) (hin2 : bx_same rxL (bx_mdl rxCIWW.2.2.1) S S) (I0 : bx_Inv rxL S) (I1 : bx_Inv rxL S) (hinv : rxIIWW_0 S0 ws S x) (l8 : 0 ≤ x) (u8 : x ≤ 100000000) (l9 : 1 ≤ x9) (u9 : x9 ≤ 1) (l10 : (-9223372036854775808) ≤ x10) (u10 : x10 ≤ 9223372036854775807) (f0 : x10 ≠ x) (e1 : S 480 11 = x9) (e0 : S 480 12 = x10) : (True) ∧ rxPSIWW S0 ws S (some 0) := by
  obtain ⟨hI, hx⟩ := hinv
  obtain ⟨a_, c_⟩ := rxdIW_0_1 hP hin hin2 I0 I1 hI l8 u8 l9 u9 l10 u10 f0 e1 e0
  exact ⟨a_, c_, (by
    have e := hI.1
    have hw := hI.2
    subst e
    exact ⟨x, hw, Or.inr ⟨rfl, fun g => by omega⟩⟩)⟩
theorem rxfIWW_0_1 {X : (Nat → Int → Int) → Prop} {S0 : Nat → Int → Int} {ws : List Int} (hP : rxPIWW S0 ws) : bx_obE rxL X S0 rxCIWW.2.2.1 (rxIIWW S0 ws) (rxPSIWW S0 ws) 0 rxzIWW_0 rxeIWW_0_1 := by
  intro S S_p r r_p hinv hX hin hsm_ hseg
  obtain ⟨I0, I1, h0_, hr_, b_, f_, d_⟩ := bx_cl (evs := [(0, (0, 480), (0, 12), .inr (1, (10, 0))), (0, (0, 480), (0, 11), .inr (0, (9, 0)))]) (fvs := [(3, (10, 0), (8, 0), (0, 0))]) hseg (by decide +kernel) (by decide +kernel)
  have hinv : rxIIWW_0 S0 ws S (r 8) := hinv
  rw [← hr_ 8 (by decide)] at hinv
  obtain ⟨⟨l8, u8⟩, ⟨l9, u9⟩, ⟨l10, u10⟩, -⟩ := b_
  obtain ⟨f0, -⟩ := f_
  obtain ⟨e0, ⟨e1, w_⟩⟩ := d_
  subst w_
  have g := rxdIWW_0_1 hP hin hsm_ I0 I1 hinv l8 u8 l9 u9 l10 u10 f0 e1 e0
  refine ⟨bx_narP_ok (l := []) g.1, ?_⟩
  show rxPSIWW S0 ws S_p (some (bx_num r_p (.inr (0, (0, 0)))))
  rw [bx_xv_ok h0_]
  exact g.2
theorem rxdIWW_0_2 {S0 : Nat → Int → Int} {ws : List Int} {S : Nat → Int → Int} {x x9 : Int} (hP : rxPIWW S0 ws) (hin : bx_same rxL (bx_mdl rxCIWW.2.2.1) S0 S) (hin2 : bx_same rxL (bx_mdl rxCIWW.2.2.1) S S) (I0 : bx_Inv rxL S) (I1 : bx_Inv rxL S) (hinv : rxIIWW_0 S0 ws S x) (l8 : 0 ≤ x) (u8 : x ≤ 100000000) (l9 : 0 ≤ x9) (u9 : x9 ≤ 3) (f0 : x9 ≠ 1) (e0 : S 480 11 = x9) : (True) ∧ rxPSIWW S0 ws S (some 0) := by
  obtain ⟨hI, hx⟩ := hinv
  obtain ⟨a_, c_⟩ := rxdIW_0_2 hP hin hin2 I0 I1 hI l8 u8 l9 u9 f0 e0
  exact ⟨a_, c_, (by
    have e := hI.1
    have hw := hI.2
    subst e
    exact ⟨x, hw, Or.inr ⟨rfl, fun g => by omega⟩⟩)⟩
theorem rxfIWW_0_2 {X : (Nat → Int → Int) → Prop} {S0 : Nat → Int → Int} {ws : List Int} (hP : rxPIWW S0 ws) : bx_obE rxL X S0 rxCIWW.2.2.1 (rxIIWW S0 ws) (rxPSIWW S0 ws) 0 rxzIWW_0 rxeIWW_0_2 := by
  intro S S_p r r_p hinv hX hin hsm_ hseg
  obtain ⟨I0, I1, h0_, hr_, b_, f_, d_⟩ := bx_cl (evs := [(0, (0, 480), (0, 11), .inr (0, (9, 0)))]) (fvs := [(3, (9, 0), (0, 1), (0, 0))]) hseg (by decide +kernel) (by decide +kernel)
  have hinv : rxIIWW_0 S0 ws S (r 8) := hinv
  rw [← hr_ 8 (by decide)] at hinv
  obtain ⟨⟨l8, u8⟩, ⟨l9, u9⟩, -⟩ := b_
  obtain ⟨f0, -⟩ := f_
  obtain ⟨e0, w_⟩ := d_
  subst w_
  have g := rxdIWW_0_2 hP hin hsm_ I0 I1 hinv l8 u8 l9 u9 f0 e0
  refine ⟨bx_narP_ok (l := []) g.1, ?_⟩
  show rxPSIWW S0 ws S_p (some (bx_num r_p (.inr (0, (0, 0)))))
  rw [bx_xv_ok h0_]
  exact g.2
theorem rxgCIWW {X : (Nat → Int → Int) → Prop} {S0 : Nat → Int → Int} {ws : List Int} (hP : rxPIWW S0 ws) : bx_allI (fun i q => rxUIWW q = true ∨ bx_allP (fun o => bx_obC rxL X S0 rxCIWW.2.2.1 (rxIIWW S0 ws) (rxmIWW S0 ws) i q.1 o) q.2.1) 0 rxYIWW := ⟨Or.inr trivial, trivial⟩
theorem rxgEIWW {X : (Nat → Int → Int) → Prop} {S0 : Nat → Int → Int} {ws : List Int} (hP : rxPIWW S0 ws) : bx_allI (fun i q => rxUIWW q = true ∨ bx_allP (fun E => bx_obE rxL X S0 rxCIWW.2.2.1 (rxIIWW S0 ws) (rxPSIWW S0 ws) i q.1 E) q.2.2) 0 rxYIWW := ⟨Or.inr ⟨rxfIWW_0_0 hP, rxfIWW_0_1 hP, rxfIWW_0_2 hP, trivial⟩, trivial⟩
theorem rxQIWW {PX : State → Prop} {Dg : va_G} {A : Nat → Prop} {ad xa : Nat → Nat} {l : Launch} {X : (Nat → Int → Int) → Prop} (hPX : rx_PXOK rxNW A PX) (hsl : ∀ s : State, PX s → ∀ o idx n : Nat, rxSl o idx = some n → ∃ tx : String, vk_R (rxNm o) idx tx (ad n) s)
    (hX : ∀ S S_p : Nat → Int → Int, X S → bx_same rxL (bx_mdl rxCIWW.2.2.1) S S_p → X S_p)
    (ih : ∀ (j2 : Nat) (ct2 : bx_Ct) (M2 : rx_Mt), ct2 ∈ rxCnE j2 → ct2.2.2.2.1 + 1 ≤ rxCIWW.2.2.2.1 → rxT.2.2.2.2.2 j2 = some M2 → bx_Con rxG rxNW rxAO PX Dg rxL X vwCl A ad l M2 ct2) : bx_ConP rxG rxNW rxAO PX Dg rxL X vwCl A ad l rxM267 rxCIWW rxPIWW rxPSIWW :=
  rxQof (xa := xa) (Cn := rxCnE) (f := 30000) (j := 267) (tab := rxYIWW) (us := rxUIWW) hPX hsl hX ih rfl rxYcIWW rxIIWW rxmIWW
    (fun S0 ws r I0 I ht0 ht as he he1 hX0 hI0 hP hs ha => by
      have e := he.symm.trans (show bx_ent0 rxNP rxCIWW.1 bx_I0 [] = some ([(0, 0), (0, 0), (0, 0), (0, 0), (0, 0), (0, 0), (0, 0), (0, 0), (0, 100000000)], [], [.inr (3, (0, 480)), .inr (1, (8, 0))]) from rfl)
      cases e
      subst ha
      have h0 : r 0 = 0 := hs.1
      show rxIIWW_0 S0 _ S0 (r 8)
      refine ⟨⟨rfl, ?_⟩, trivial⟩
      simp only [List.map_cons, List.map_nil, bx_xv_ok h0]
      rfl)
    (fun S0 ws hP => fun i q hq hus => absurd (show false = true from hus) Bool.false_ne_true) (fun S0 ws hP => rxgCIWW hP) (fun S0 ws hP => rxgEIWW hP)
noncomputable def rxCNUW : bx_Ct := ([(3, (1, 480, 0)), (2, (0, (-9223372036854775808), 9223372036854775807)), (2, (0, (-9223372036854775808), 9223372036854775807))], some (0, (0, (-2147483648), 2147483647)), [(12, 9), (12, 10), (12, 11), (12, 12), (12, 13), (12, 14)], 3, [])
noncomputable def rxINUW_0 (S0 : Nat → Int → Int) (ws : List Int) (S : Nat → Int → Int) (lo hi : Int) : Prop := rxINU_0 S0 ws S lo hi ∧ True
noncomputable def rxmNUW_0 (S0 : Nat → Int → Int) (ws : List Int) (S : Nat → Int → Int) (lo hi : Int) : Nat := rxmNU_0 S0 ws S lo hi
noncomputable def rxzNUW_0 : rx_Z := ([(0, 0), (0, 0), (0, 0), (0, 0), (0, 0), (0, 0), (0, 0), (0, 0), ((-9223372036854775808), 9223372036854775807), ((-9223372036854775808), 9223372036854775807)], [], [], 0, 0, 0, [(0, .inr (3, (0, 480))), (1, .inr (1, (8, 0))), (3, .inr (1, (9, 0)))], [])
noncomputable def rxINUW_1 (S0 : Nat → Int → Int) (ws : List Int) (S : Nat → Int → Int) (v is : Int) : Prop := rxINU_1 S0 ws S v is ∧ (∃ lo hi : Int, ws = [480, lo, hi] ∧ ((is = 1 ∧ (S0 480 11 = 2 ∧ lo ≤ S0 480 12 ∧ S0 480 12 ≤ hi)) ∨ (is = 0 ∧ ¬ (S0 480 11 = 2 ∧ lo ≤ S0 480 12 ∧ S0 480 12 ≤ hi))))
noncomputable def rxmNUW_1 (S0 : Nat → Int → Int) (ws : List Int) (S : Nat → Int → Int) (v is : Int) : Nat := rxmNU_1 S0 ws S v is
noncomputable def rxzNUW_1 : rx_Z := ([(0, 0), (0, 0), (0, 0), (0, 0), (0, 0), (0, 0), (0, 0), (0, 0), ((-2147483648), 2147483647), (0, 1)], [], [], 0, 0, 33, [(0, .inr (3, (0, 480))), (5, .inr (0, (8, 0)))], [.inr (0, (9, 0)), .inr (3, (0, 480))])
noncomputable def rxINUW_2 (S0 : Nat → Int → Int) (ws : List Int) (S : Nat → Int → Int) (v is : Int) : Prop := rxINU_2 S0 ws S v is ∧ (∃ lo hi : Int, ws = [480, lo, hi] ∧ (rzDq S0 → S0 480 14 = 0 → (S 480 14 = 0 → (S0 480 11 = 2 ∧ lo ≤ S0 480 12 ∧ S0 480 12 ≤ hi) ∧ rzNw S0 S) ∧ (S 480 14 ≠ 0 → ¬ (S0 480 11 = 2 ∧ lo ≤ S0 480 12 ∧ S0 480 12 ≤ hi) ∧ S 480 13 = S0 480 9)))
noncomputable def rxmNUW_2 (S0 : Nat → Int → Int) (ws : List Int) (S : Nat → Int → Int) (v is : Int) : Nat := rxmNU_2 S0 ws S v is
noncomputable def rxzNUW_2 : rx_Z := ([(0, 0), (0, 0), (0, 0), (0, 0), (0, 0), (0, 0), (0, 0), (0, 0), ((-2147483648), 2147483647), (0, 1)], [], [], 0, 0, 36, [(0, .inr (3, (0, 480))), (5, .inr (0, (8, 0)))], [])
noncomputable def rxoNUW_0_0 : bx_HO := (([(0, 0), (0, 0), (0, 0), (0, 0), (0, 0), (0, 0), (0, 0), (0, 0), ((-9223372036854775807), 9223372036854775807), ((-9223372036854775808), 9223372036854775807), ((-9223372036854775808), 9223372036854775806), ((-2147483648), 2147483647), (2, 2)], [(0, (10, 0), (8, 0))], [(((0, 0), 1851192626986356799632114105031551009123054124018230966928539648000000), .inr (0, (12, 0))), (((0, 480), 11), .inr (0, (12, 0))), (((0, 0), 1851192626986356799832820811818326617396875588472066220482363392000000), .inr (1, (10, 0))), (((0, 480), 12), .inr (1, (10, 0)))], 0, 0, 33, [(5, .inr (0, (11, 0))), (0, .inr (3, (0, 480))), (1, .inr (1, (8, 0))), (3, .inr (1, (9, 0)))], [.inr (0, (0, 0)), .inr (3, (0, 480))]), [], [], [(0, 0), (0, 0), (0, 0), (0, 0), (0, 0), (0, 0), (0, 0), (0, 0), (11, 0), (0, 0)], 1)
noncomputable def rxoNUW_0_1 : bx_HO := (([(0, 0), (0, 0), (0, 0), (0, 0), (0, 0), (0, 0), (0, 0), (0, 0), ((-9223372036854775808), 9223372036854775807), ((-9223372036854775808), 9223372036854775806), ((-9223372036854775807), 9223372036854775807), ((-2147483648), 2147483647), (2, 2)], [(0, (9, 0), (10, 0)), (1, (8, 0), (10, 0))], [(((0, 0), 1851192626986356799632114105031551009123054124018230966928539648000000), .inr (0, (12, 0))), (((0, 480), 11), .inr (0, (12, 0))), (((0, 0), 1851192626986356799832820811818326617396875588472066220482363392000000), .inr (1, (10, 0))), (((0, 480), 12), .inr (1, (10, 0)))], 0, 0, 33, [(5, .inr (0, (11, 0))), (0, .inr (3, (0, 480))), (1, .inr (1, (8, 0))), (3, .inr (1, (9, 0)))], [.inr (0, (0, 0)), .inr (3, (0, 480))]), [], [], [(0, 0), (0, 0), (0, 0), (0, 0), (0, 0), (0, 0), (0, 0), (0, 0), (11, 0), (0, 0)], 1)
noncomputable def rxoNUW_0_2 : bx_HO := (([(0, 0), (0, 0), (0, 0), (0, 0), (0, 0), (0, 0), (0, 0), (0, 0), ((-9223372036854775808), 9223372036854775807), ((-9223372036854775808), 9223372036854775807), ((-9223372036854775808), 9223372036854775807), ((-2147483648), 2147483647), (2, 2)], [(1, (10, 0), (9, 0)), (1, (8, 0), (10, 0))], [(((0, 0), 1851192626986356799632114105031551009123054124018230966928539648000000), .inr (0, (12, 0))), (((0, 480), 11), .inr (0, (12, 0))), (((0, 0), 1851192626986356799832820811818326617396875588472066220482363392000000), .inr (1, (10, 0))), (((0, 480), 12), .inr (1, (10, 0)))], 0, 0, 33, [(5, .inr (0, (11, 0))), (0, .inr (3, (0, 480))), (1, .inr (1, (8, 0))), (3, .inr (1, (9, 0)))], [.inr (0, (0, 1)), .inr (3, (0, 480))]), [], [], [(0, 0), (0, 0), (0, 0), (0, 0), (0, 0), (0, 0), (0, 0), (0, 0), (11, 0), (0, 1)], 1)
noncomputable def rxoNUW_0_3 : bx_HO := (([(0, 0), (0, 0), (0, 0), (0, 0), (0, 0), (0, 0), (0, 0), (0, 0), ((-9223372036854775808), 9223372036854775807), ((-9223372036854775808), 9223372036854775807), ((-9223372036854775808), 9223372036854775807), ((-2147483648), 2147483647), (0, 3)], [(3, (12, 0), (0, 2))], [(((0, 0), 1851192626986356799632114105031551009123054124018230966928539648000000), .inr (0, (12, 0))), (((0, 480), 11), .inr (0, (12, 0))), (((0, 0), 1851192626986356799832820811818326617396875588472066220482363392000000), .inr (1, (10, 0))), (((0, 480), 12), .inr (1, (10, 0)))], 0, 0, 33, [(5, .inr (0, (11, 0))), (0, .inr (3, (0, 480))), (1, .inr (1, (8, 0))), (3, .inr (1, (9, 0)))], [.inr (0, (0, 0)), .inr (3, (0, 480))]), [], [], [(0, 0), (0, 0), (0, 0), (0, 0), (0, 0), (0, 0), (0, 0), (0, 0), (11, 0), (0, 0)], 1)
noncomputable def rxeNUW_2_0 : rx_End × List (Nat × Int × Int) := (([(0, 0), (0, 0), (0, 0), (0, 0), (0, 0), (0, 0), (0, 0), (0, 0), ((-2147483648), 2147483647), (0, 1)], [], [], some (.inr (0, (8, 0)))), [])
noncomputable def rxYNUW : List bx_HE := [(rxzNUW_0, [rxoNUW_0_0, rxoNUW_0_1, rxoNUW_0_2, rxoNUW_0_3], []), (rxzNUW_1, [], []), (rxzNUW_2, [], [rxeNUW_2_0])]
noncomputable def rxUNUW (q : bx_HE) : Bool := Nat.beq (rx_zpc q.1) 33
noncomputable def rxYBNUW : bx_B := (rxV, rxNP, rxDmf, bx_mdH rxCNUW.2.2.1)
set_option maxRecDepth 100000 in
theorem rxYcNUW : bx_chkH rxYBNUW rxM293 rxCNUW rxYNUW (rxUNUW, fun cut z => rx_ex2 (rxCT rxYBNUW rxCnE) cut 30000 rxCNUW.2.2.2.1 293 z) = true := by decide +kernel
noncomputable def rxINUW (S0 : Nat → Int → Int) (ws : List Int) (i : Nat) : bx_SP := fun S r => match i with | 0 => rxINUW_0 S0 ws S (r 8) (r 9) | 1 => rxINUW_1 S0 ws S (r 8) (r 9) | 2 => rxINUW_2 S0 ws S (r 8) (r 9) | _ => False
noncomputable def rxmNUW (S0 : Nat → Int → Int) (ws : List Int) (i : Nat) (S : Nat → Int → Int) (r : Nat → Int) : Nat := match i with | 0 => rxmNUW_0 S0 ws S (r 8) (r 9) | 1 => rxmNUW_1 S0 ws S (r 8) (r 9) | 2 => rxmNUW_2 S0 ws S (r 8) (r 9) | _ => 0
noncomputable def rxPNUW (S0 : Nat → Int → Int) (ws : List Int) : Prop := rxPNU S0 ws
noncomputable def rxPSNUW (S0 : Nat → Int → Int) (ws : List Int) (S : Nat → Int → Int) (w : Option Int) : Prop := rxPSNU S0 ws S w ∧ (∃ lo hi : Int, ws = [480, lo, hi] ∧ (rzDq S0 → S0 480 14 = 0 → (S 480 14 = 0 → (S0 480 11 = 2 ∧ lo ≤ S0 480 12 ∧ S0 480 12 ≤ hi) ∧ rzNw S0 S) ∧ (S 480 14 ≠ 0 → ¬ (S0 480 11 = 2 ∧ lo ≤ S0 480 12 ∧ S0 480 12 ≤ hi) ∧ S 480 13 = S0 480 9)))
theorem rxkNUW_1 {S0 : Nat → Int → Int} {ws : List Int} {S : Nat → Int → Int} {v is : Int} (hP : rxPNUW S0 ws) (hin : bx_same rxL (bx_mdl rxCNUW.2.2.1) S0 S) (I0 : bx_Inv rxL S) (hinv : rxINUW_1 S0 ws S v is) (l8 : (-2147483648) ≤ v) (u8 : v ≤ 2147483647) (l9 : 0 ≤ is) (u9 : is ≤ 1) : rxPMUW S [480, is] ∧ ∀ (S_p : Nat → Int → Int), rxPSMUW S [480, is] S_p none → bx_Inv rxL S_p → bx_same rxL (bx_mdl rxCMUW.2.2.1) S S_p → rxINUW_2 S0 ws S_p v is ∧ rxmNUW_2 S0 ws S_p v is < rxmNUW_1 S0 ws S v is := by
  obtain ⟨hI, hx⟩ := hinv
  have g_ := rxkNU_1 hP hin I0 hI l8 u8 l9 u9
  exact ⟨g_.1, fun S_p hq I1 hsm => ⟨⟨(g_.2 S_p hq.2.1 I1 hsm).1, (by
    have e : S = S0 := hI
    subst e
    obtain ⟨lo, hi, hw, hc⟩ := hx
    refine ⟨lo, hi, hw, fun hD h14 => ?_⟩
    have g := hq.2.2.1 h14 hD
    obtain ⟨-, -, is2, hw2, hc2⟩ := hq.2.1
    have he : is = is2 := Option.some.inj (congrArg (fun l : List Int => l[1]?) hw2)
    refine ⟨fun z => ⟨?_, g.1 z⟩, fun z => ⟨?_, g.2 z⟩⟩
    · rcases hc with v | v
      · exact v.2
      · omega
    · rcases hc with v | v
      · omega
      · exact v.2)⟩, (g_.2 S_p hq.2.1 I1 hsm).2⟩⟩
theorem rxsNUW_1 {X : (Nat → Int → Int) → Prop} {S0 : Nat → Int → Int} {ws : List Int} (hP : rxPNUW S0 ws) : rx_obK X S0 rxCNUW.2.2.1 rxCMUW.2.2.1 (rxINUW S0 ws) (rxmNUW S0 ws) 1 2 rxzNUW_1 rxzNUW_2 [.inr (3, (0, 480)), .inr (0, (9, 0))] none rxPMUW rxPSMUW := by
  intro S r hinv hXS I0 hin hs_ hf_
  have b_ := bx_bds_sat hs_
  have f_ := bx_fcl_ok hs_.1 hf_
  obtain ⟨⟨l8, u8⟩, ⟨l9, u9⟩, -⟩ := b_
  have g := rxkNUW_1 hP hin I0 hinv l8 u8 l9 u9
  have ea : List.map (bx_num r) [.inr (3, (0, 480)), .inr (0, (9, 0))] = [480, (r 9)] := by
    simp only [List.map_cons, List.map_nil, bx_xv_ok hs_.1]
    rfl
  rw [ea]
  refine ⟨g.1, fun S_p w r_p hPS hX_p I1 hsm hr hw hs_p => ?_⟩
  have hw : w = none := hPS.1
  subst hw
  have g2 := g.2 S_p hPS I1 hsm
  show rxINUW_2 S0 ws S_p (r_p 8) (r_p 9) ∧ rxmNUW_2 S0 ws S_p (r_p 8) (r_p 9) < _
  rw [hr 8 (by decide), hr 9 (by decide)]
  exact g2
theorem rxcNUW_0_0 {S0 : Nat → Int → Int} {ws : List Int} {S : Nat → Int → Int} {lo hi x10 x11 x12 : Int} (hP : rxPNUW S0 ws) (hin : bx_same rxL (bx_mdl rxCNUW.2.2.1) S0 S) (I0 : bx_Inv rxL S) (hinv : rxINUW_0 S0 ws S lo hi) (l8 : (-9223372036854775807) ≤ lo) (u8 : lo ≤ 9223372036854775807) (l9 : (-9223372036854775808) ≤ hi) (u9 : hi ≤ 9223372036854775807) (l10 : (-9223372036854775808) ≤ x10) (u10 : x10 ≤ 9223372036854775806) (l11 : (-2147483648) ≤ x11) (u11 : x11 ≤ 2147483647) (l12 : 2 ≤ x12) (u12 : x12 ≤ 2) (f0 : x10 < lo) (e1 : S 480 12 = x10) (e0 : S 480 11 = x12) : (True) ∧ (True) ∧ rxINUW_1 S0 ws S x11 0 ∧ rxmNUW_1 S0 ws S x11 0 < rxmNUW_0 S0 ws S lo hi := by
  obtain ⟨hI, hx⟩ := hinv
  obtain ⟨a_, b_, c_, d_⟩ := rxcNU_0_0 hP hin I0 hI l8 u8 l9 u9 l10 u10 l11 u11 l12 u12 f0 e1 e0
  exact ⟨a_, b_, ⟨c_, (by
    have e := hI.1
    have hw := hI.2
    subst e
    exact ⟨lo, hi, hw, Or.inr ⟨rfl, fun g => by omega⟩⟩)⟩, d_⟩
theorem rxgNUW_0_0 {X : (Nat → Int → Int) → Prop} {S0 : Nat → Int → Int} {ws : List Int} (hP : rxPNUW S0 ws) : bx_obC rxL X S0 rxCNUW.2.2.1 (rxINUW S0 ws) (rxmNUW S0 ws) 0 rxzNUW_0 rxoNUW_0_0 := by
  intro S S_p r r_p hinv hX hin hsm_ hseg
  obtain ⟨I0, I1, h0_, hr_, b_, f_, d_⟩ := bx_cl (evs := [(0, (0, 480), (0, 11), .inr (0, (12, 0))), (0, (0, 480), (0, 12), .inr (1, (10, 0)))]) (fvs := [(0, (10, 0), (8, 0), (0, 0))]) hseg (by decide +kernel) (by decide +kernel)
  have hinv : rxINUW_0 S0 ws S (r 8) (r 9) := hinv
  rw [← hr_ 8 (by decide), ← hr_ 9 (by decide)] at hinv
  obtain ⟨⟨l8, u8⟩, ⟨l9, u9⟩, ⟨l10, u10⟩, ⟨l11, u11⟩, ⟨l12, u12⟩, -⟩ := b_
  obtain ⟨f0, -⟩ := f_
  obtain ⟨e0, ⟨e1, w_⟩⟩ := d_
  subst w_
  have g := rxcNUW_0_0 hP hin I0 hinv l8 u8 l9 u9 l10 u10 l11 u11 l12 u12 f0 e1 e0
  refine ⟨bx_narP_ok (l := []) g.1, bx_nfP_ok h0_ (fvs := []) (by decide +kernel) g.2.1, ?_, ?_⟩
  · show rxINUW_1 S0 ws S_p (bx_val [(0, 0), (0, 0), (0, 0), (0, 0), (0, 0), (0, 0), (0, 0), (0, 0), (11, 0), (0, 0)] r_p 8) (bx_val [(0, 0), (0, 0), (0, 0), (0, 0), (0, 0), (0, 0), (0, 0), (0, 0), (11, 0), (0, 0)] r_p 9)
    rw [bx_val_x (n := 8) (e := (11, 0)) h0_ rfl, bx_val_x (n := 9) (e := (0, 0)) h0_ rfl]
    exact g.2.2.1
  · show rxmNUW_1 S0 ws S_p (bx_val [(0, 0), (0, 0), (0, 0), (0, 0), (0, 0), (0, 0), (0, 0), (0, 0), (11, 0), (0, 0)] r_p 8) (bx_val [(0, 0), (0, 0), (0, 0), (0, 0), (0, 0), (0, 0), (0, 0), (0, 0), (11, 0), (0, 0)] r_p 9) < rxmNUW_0 S0 ws S_p (r 8) (r 9)
    rw [bx_val_x (n := 8) (e := (11, 0)) h0_ rfl, bx_val_x (n := 9) (e := (0, 0)) h0_ rfl, ← hr_ 8 (by decide), ← hr_ 9 (by decide)]
    exact g.2.2.2
theorem rxcNUW_0_1 {S0 : Nat → Int → Int} {ws : List Int} {S : Nat → Int → Int} {lo hi x10 x11 x12 : Int} (hP : rxPNUW S0 ws) (hin : bx_same rxL (bx_mdl rxCNUW.2.2.1) S0 S) (I0 : bx_Inv rxL S) (hinv : rxINUW_0 S0 ws S lo hi) (l8 : (-9223372036854775808) ≤ lo) (u8 : lo ≤ 9223372036854775807) (l9 : (-9223372036854775808) ≤ hi) (u9 : hi ≤ 9223372036854775806) (l10 : (-9223372036854775807) ≤ x10) (u10 : x10 ≤ 9223372036854775807) (l11 : (-2147483648) ≤ x11) (u11 : x11 ≤ 2147483647) (l12 : 2 ≤ x12) (u12 : x12 ≤ 2) (f0 : hi < x10) (f1 : lo ≤ x10) (e1 : S 480 12 = x10) (e0 : S 480 11 = x12) : (True) ∧ (True) ∧ rxINUW_1 S0 ws S x11 0 ∧ rxmNUW_1 S0 ws S x11 0 < rxmNUW_0 S0 ws S lo hi := by
  obtain ⟨hI, hx⟩ := hinv
  obtain ⟨a_, b_, c_, d_⟩ := rxcNU_0_1 hP hin I0 hI l8 u8 l9 u9 l10 u10 l11 u11 l12 u12 f0 f1 e1 e0
  exact ⟨a_, b_, ⟨c_, (by
    have e := hI.1
    have hw := hI.2
    subst e
    exact ⟨lo, hi, hw, Or.inr ⟨rfl, fun g => by omega⟩⟩)⟩, d_⟩
theorem rxgNUW_0_1 {X : (Nat → Int → Int) → Prop} {S0 : Nat → Int → Int} {ws : List Int} (hP : rxPNUW S0 ws) : bx_obC rxL X S0 rxCNUW.2.2.1 (rxINUW S0 ws) (rxmNUW S0 ws) 0 rxzNUW_0 rxoNUW_0_1 := by
  intro S S_p r r_p hinv hX hin hsm_ hseg
  obtain ⟨I0, I1, h0_, hr_, b_, f_, d_⟩ := bx_cl (evs := [(0, (0, 480), (0, 11), .inr (0, (12, 0))), (0, (0, 480), (0, 12), .inr (1, (10, 0)))]) (fvs := [(0, (9, 0), (10, 0), (0, 0)), (1, (8, 0), (10, 0), (0, 0))]) hseg (by decide +kernel) (by decide +kernel)
  have hinv : rxINUW_0 S0 ws S (r 8) (r 9) := hinv
  rw [← hr_ 8 (by decide), ← hr_ 9 (by decide)] at hinv
  obtain ⟨⟨l8, u8⟩, ⟨l9, u9⟩, ⟨l10, u10⟩, ⟨l11, u11⟩, ⟨l12, u12⟩, -⟩ := b_
  obtain ⟨f0, f1, -⟩ := f_
  obtain ⟨e0, ⟨e1, w_⟩⟩ := d_
  subst w_
  have g := rxcNUW_0_1 hP hin I0 hinv l8 u8 l9 u9 l10 u10 l11 u11 l12 u12 f0 f1 e1 e0
  refine ⟨bx_narP_ok (l := []) g.1, bx_nfP_ok h0_ (fvs := []) (by decide +kernel) g.2.1, ?_, ?_⟩
  · show rxINUW_1 S0 ws S_p (bx_val [(0, 0), (0, 0), (0, 0), (0, 0), (0, 0), (0, 0), (0, 0), (0, 0), (11, 0), (0, 0)] r_p 8) (bx_val [(0, 0), (0, 0), (0, 0), (0, 0), (0, 0), (0, 0), (0, 0), (0, 0), (11, 0), (0, 0)] r_p 9)
    rw [bx_val_x (n := 8) (e := (11, 0)) h0_ rfl, bx_val_x (n := 9) (e := (0, 0)) h0_ rfl]
    exact g.2.2.1
  · show rxmNUW_1 S0 ws S_p (bx_val [(0, 0), (0, 0), (0, 0), (0, 0), (0, 0), (0, 0), (0, 0), (0, 0), (11, 0), (0, 0)] r_p 8) (bx_val [(0, 0), (0, 0), (0, 0), (0, 0), (0, 0), (0, 0), (0, 0), (0, 0), (11, 0), (0, 0)] r_p 9) < rxmNUW_0 S0 ws S_p (r 8) (r 9)
    rw [bx_val_x (n := 8) (e := (11, 0)) h0_ rfl, bx_val_x (n := 9) (e := (0, 0)) h0_ rfl, ← hr_ 8 (by decide), ← hr_ 9 (by decide)]
    exact g.2.2.2
theorem rxcNUW_0_2 {S0 : Nat → Int → Int} {ws : List Int} {S : Nat → Int → Int} {lo hi x10 x11 x12 : Int} (hP : rxPNUW S0 ws) (hin : bx_same rxL (bx_mdl rxCNUW.2.2.1) S0 S) (I0 : bx_Inv rxL S) (hinv : rxINUW_0 S0 ws S lo hi) (l8 : (-9223372036854775808) ≤ lo) (u8 : lo ≤ 9223372036854775807) (l9 : (-9223372036854775808) ≤ hi) (u9 : hi ≤ 9223372036854775807) (l10 : (-9223372036854775808) ≤ x10) (u10 : x10 ≤ 9223372036854775807) (l11 : (-2147483648) ≤ x11) (u11 : x11 ≤ 2147483647) (l12 : 2 ≤ x12) (u12 : x12 ≤ 2) (f0 : x10 ≤ hi) (f1 : lo ≤ x10) (e1 : S 480 12 = x10) (e0 : S 480 11 = x12) : (True) ∧ (True) ∧ rxINUW_1 S0 ws S x11 1 ∧ rxmNUW_1 S0 ws S x11 1 < rxmNUW_0 S0 ws S lo hi := by
  obtain ⟨hI, hx⟩ := hinv
  obtain ⟨a_, b_, c_, d_⟩ := rxcNU_0_2 hP hin I0 hI l8 u8 l9 u9 l10 u10 l11 u11 l12 u12 f0 f1 e1 e0
  exact ⟨a_, b_, ⟨c_, (by
    have e := hI.1
    have hw := hI.2
    subst e
    exact ⟨lo, hi, hw, Or.inl ⟨rfl, by omega, by omega, by omega⟩⟩)⟩, d_⟩
theorem rxgNUW_0_2 {X : (Nat → Int → Int) → Prop} {S0 : Nat → Int → Int} {ws : List Int} (hP : rxPNUW S0 ws) : bx_obC rxL X S0 rxCNUW.2.2.1 (rxINUW S0 ws) (rxmNUW S0 ws) 0 rxzNUW_0 rxoNUW_0_2 := by
  intro S S_p r r_p hinv hX hin hsm_ hseg
  obtain ⟨I0, I1, h0_, hr_, b_, f_, d_⟩ := bx_cl (evs := [(0, (0, 480), (0, 11), .inr (0, (12, 0))), (0, (0, 480), (0, 12), .inr (1, (10, 0)))]) (fvs := [(1, (10, 0), (9, 0), (0, 0)), (1, (8, 0), (10, 0), (0, 0))]) hseg (by decide +kernel) (by decide +kernel)
  have hinv : rxINUW_0 S0 ws S (r 8) (r 9) := hinv
  rw [← hr_ 8 (by decide), ← hr_ 9 (by decide)] at hinv
  obtain ⟨⟨l8, u8⟩, ⟨l9, u9⟩, ⟨l10, u10⟩, ⟨l11, u11⟩, ⟨l12, u12⟩, -⟩ := b_
  obtain ⟨f0, f1, -⟩ := f_
  obtain ⟨e0, ⟨e1, w_⟩⟩ := d_
  subst w_
  have g := rxcNUW_0_2 hP hin I0 hinv l8 u8 l9 u9 l10 u10 l11 u11 l12 u12 f0 f1 e1 e0
  refine ⟨bx_narP_ok (l := []) g.1, bx_nfP_ok h0_ (fvs := []) (by decide +kernel) g.2.1, ?_, ?_⟩
  · show rxINUW_1 S0 ws S_p (bx_val [(0, 0), (0, 0), (0, 0), (0, 0), (0, 0), (0, 0), (0, 0), (0, 0), (11, 0), (0, 1)] r_p 8) (bx_val [(0, 0), (0, 0), (0, 0), (0, 0), (0, 0), (0, 0), (0, 0), (0, 0), (11, 0), (0, 1)] r_p 9)
    rw [bx_val_x (n := 8) (e := (11, 0)) h0_ rfl, bx_val_x (n := 9) (e := (0, 1)) h0_ rfl]
    exact g.2.2.1
  · show rxmNUW_1 S0 ws S_p (bx_val [(0, 0), (0, 0), (0, 0), (0, 0), (0, 0), (0, 0), (0, 0), (0, 0), (11, 0), (0, 1)] r_p 8) (bx_val [(0, 0), (0, 0), (0, 0), (0, 0), (0, 0), (0, 0), (0, 0), (0, 0), (11, 0), (0, 1)] r_p 9) < rxmNUW_0 S0 ws S_p (r 8) (r 9)
    rw [bx_val_x (n := 8) (e := (11, 0)) h0_ rfl, bx_val_x (n := 9) (e := (0, 1)) h0_ rfl, ← hr_ 8 (by decide), ← hr_ 9 (by decide)]
    exact g.2.2.2
theorem rxcNUW_0_3 {S0 : Nat → Int → Int} {ws : List Int} {S : Nat → Int → Int} {lo hi x10 x11 x12 : Int} (hP : rxPNUW S0 ws) (hin : bx_same rxL (bx_mdl rxCNUW.2.2.1) S0 S) (I0 : bx_Inv rxL S) (hinv : rxINUW_0 S0 ws S lo hi) (l8 : (-9223372036854775808) ≤ lo) (u8 : lo ≤ 9223372036854775807) (l9 : (-9223372036854775808) ≤ hi) (u9 : hi ≤ 9223372036854775807) (l10 : (-9223372036854775808) ≤ x10) (u10 : x10 ≤ 9223372036854775807) (l11 : (-2147483648) ≤ x11) (u11 : x11 ≤ 2147483647) (l12 : 0 ≤ x12) (u12 : x12 ≤ 3) (f0 : x12 ≠ 2) (e1 : S 480 12 = x10) (e0 : S 480 11 = x12) : (True) ∧ (True) ∧ rxINUW_1 S0 ws S x11 0 ∧ rxmNUW_1 S0 ws S x11 0 < rxmNUW_0 S0 ws S lo hi := by
  obtain ⟨hI, hx⟩ := hinv
  obtain ⟨a_, b_, c_, d_⟩ := rxcNU_0_3 hP hin I0 hI l8 u8 l9 u9 l10 u10 l11 u11 l12 u12 f0 e1 e0
  exact ⟨a_, b_, ⟨c_, (by
    have e := hI.1
    have hw := hI.2
    subst e
    exact ⟨lo, hi, hw, Or.inr ⟨rfl, fun g => by omega⟩⟩)⟩, d_⟩
theorem rxgNUW_0_3 {X : (Nat → Int → Int) → Prop} {S0 : Nat → Int → Int} {ws : List Int} (hP : rxPNUW S0 ws) : bx_obC rxL X S0 rxCNUW.2.2.1 (rxINUW S0 ws) (rxmNUW S0 ws) 0 rxzNUW_0 rxoNUW_0_3 := by
  intro S S_p r r_p hinv hX hin hsm_ hseg
  obtain ⟨I0, I1, h0_, hr_, b_, f_, d_⟩ := bx_cl (evs := [(0, (0, 480), (0, 11), .inr (0, (12, 0))), (0, (0, 480), (0, 12), .inr (1, (10, 0)))]) (fvs := [(3, (12, 0), (0, 2), (0, 0))]) hseg (by decide +kernel) (by decide +kernel)
  have hinv : rxINUW_0 S0 ws S (r 8) (r 9) := hinv
  rw [← hr_ 8 (by decide), ← hr_ 9 (by decide)] at hinv
  obtain ⟨⟨l8, u8⟩, ⟨l9, u9⟩, ⟨l10, u10⟩, ⟨l11, u11⟩, ⟨l12, u12⟩, -⟩ := b_
  obtain ⟨f0, -⟩ := f_
  obtain ⟨e0, ⟨e1, w_⟩⟩ := d_
  subst w_
  have g := rxcNUW_0_3 hP hin I0 hinv l8 u8 l9 u9 l10 u10 l11 u11 l12 u12 f0 e1 e0
  refine ⟨bx_narP_ok (l := []) g.1, bx_nfP_ok h0_ (fvs := []) (by decide +kernel) g.2.1, ?_, ?_⟩
  · show rxINUW_1 S0 ws S_p (bx_val [(0, 0), (0, 0), (0, 0), (0, 0), (0, 0), (0, 0), (0, 0), (0, 0), (11, 0), (0, 0)] r_p 8) (bx_val [(0, 0), (0, 0), (0, 0), (0, 0), (0, 0), (0, 0), (0, 0), (0, 0), (11, 0), (0, 0)] r_p 9)
    rw [bx_val_x (n := 8) (e := (11, 0)) h0_ rfl, bx_val_x (n := 9) (e := (0, 0)) h0_ rfl]
    exact g.2.2.1
  · show rxmNUW_1 S0 ws S_p (bx_val [(0, 0), (0, 0), (0, 0), (0, 0), (0, 0), (0, 0), (0, 0), (0, 0), (11, 0), (0, 0)] r_p 8) (bx_val [(0, 0), (0, 0), (0, 0), (0, 0), (0, 0), (0, 0), (0, 0), (0, 0), (11, 0), (0, 0)] r_p 9) < rxmNUW_0 S0 ws S_p (r 8) (r 9)
    rw [bx_val_x (n := 8) (e := (11, 0)) h0_ rfl, bx_val_x (n := 9) (e := (0, 0)) h0_ rfl, ← hr_ 8 (by decide), ← hr_ 9 (by decide)]
    exact g.2.2.2
theorem rxdNUW_2_0 {S0 : Nat → Int → Int} {ws : List Int} {S : Nat → Int → Int} {v is : Int} (hP : rxPNUW S0 ws) (hin : bx_same rxL (bx_mdl rxCNUW.2.2.1) S0 S) (hin2 : bx_same rxL (bx_mdl rxCNUW.2.2.1) S S) (I0 : bx_Inv rxL S) (I1 : bx_Inv rxL S) (hinv : rxINUW_2 S0 ws S v is) (l8 : (-2147483648) ≤ v) (u8 : v ≤ 2147483647) (l9 : 0 ≤ is) (u9 : is ≤ 1) : (True) ∧ rxPSNUW S0 ws S (some v) := by
  obtain ⟨hI, hx⟩ := hinv
  obtain ⟨a_, c_⟩ := rxdNU_2_0 hP hin hin2 I0 I1 hI l8 u8 l9 u9
  exact ⟨a_, c_, hx⟩
theorem rxfNUW_2_0 {X : (Nat → Int → Int) → Prop} {S0 : Nat → Int → Int} {ws : List Int} (hP : rxPNUW S0 ws) : bx_obE rxL X S0 rxCNUW.2.2.1 (rxINUW S0 ws) (rxPSNUW S0 ws) 2 rxzNUW_2 rxeNUW_2_0 := by
  intro S S_p r r_p hinv hX hin hsm_ hseg
  obtain ⟨I0, I1, h0_, hr_, b_, f_, d_⟩ := bx_cl (evs := []) (fvs := []) hseg (by decide +kernel) (by decide +kernel)
  have hinv : rxINUW_2 S0 ws S (r 8) (r 9) := hinv
  rw [← hr_ 8 (by decide), ← hr_ 9 (by decide)] at hinv
  obtain ⟨⟨l8, u8⟩, ⟨l9, u9⟩, -⟩ := b_
  have w_ := d_
  subst w_
  have g := rxdNUW_2_0 hP hin hsm_ I0 I1 hinv l8 u8 l9 u9
  refine ⟨bx_narP_ok (l := []) g.1, ?_⟩
  show rxPSNUW S0 ws S_p (some (bx_num r_p (.inr (0, (8, 0)))))
  rw [bx_xv_ok h0_]
  exact g.2
theorem rxgCNUW {X : (Nat → Int → Int) → Prop} {S0 : Nat → Int → Int} {ws : List Int} (hP : rxPNUW S0 ws) : bx_allI (fun i q => rxUNUW q = true ∨ bx_allP (fun o => bx_obC rxL X S0 rxCNUW.2.2.1 (rxINUW S0 ws) (rxmNUW S0 ws) i q.1 o) q.2.1) 0 rxYNUW := ⟨Or.inr ⟨rxgNUW_0_0 hP, rxgNUW_0_1 hP, rxgNUW_0_2 hP, rxgNUW_0_3 hP, trivial⟩, Or.inl rfl, Or.inr trivial, trivial⟩
theorem rxgENUW {X : (Nat → Int → Int) → Prop} {S0 : Nat → Int → Int} {ws : List Int} (hP : rxPNUW S0 ws) : bx_allI (fun i q => rxUNUW q = true ∨ bx_allP (fun E => bx_obE rxL X S0 rxCNUW.2.2.1 (rxINUW S0 ws) (rxPSNUW S0 ws) i q.1 E) q.2.2) 0 rxYNUW := ⟨Or.inr trivial, Or.inl rfl, Or.inr ⟨rxfNUW_2_0 hP, trivial⟩, trivial⟩
theorem rxuNUW {PX : State → Prop} {Dg : va_G} {A : Nat → Prop} {ad xa : Nat → Nat} {l : Launch} {X : (Nat → Int → Int) → Prop} (hPX : rx_PXOK rxNW A PX) (hX : ∀ S S1 : Nat → Int → Int, X S → bx_same rxL (bx_mdl rxCNUW.2.2.1) S S1 → X S1) (hQMUW : bx_ConP rxG rxNW rxAO PX Dg rxL X vwCl A ad l rxM265 rxCMUW rxPMUW rxPSMUW) {S0 : Nat → Int → Int} {ws : List Int} (hP : rxPNUW S0 ws) : ∀ (i : Nat) (q : bx_HE), rxYNUW[i]? = some q → rxUNUW q = true → ∀ {p : Program} {e : Env} {R : Room} {s : State} {m : MethodId} {args : Array Value} {below : List Frame} {meth : Method} {c : Code} {Q : State → Prop} {H0 : Heap}, rx_Fr rxG rxNW rxAO PX p s m args meth c rxM293 → (∀ q, H0.size ≤ q → A q) → H0 = s.heap → rxM293.2.2.2.2.2.2.1 ≤ R.cells → rxM293.2.2.2.2.2.2.2 ≤ R.slots → rxCNUW.2.2.2.1 ≤ R.frames → rxCNUW.2.2.2.1 * 40 ≤ R.locals → bx_Step p l e R s m args below meth c Q Dg rxL X vwCl A xa H0 ad rxM293 rxYNUW (rxINUW S0 ws) (rxmNUW S0 ws) S0 rxCNUW.2.2.1 i q := by
  intro i q hq hus p e R s m args below meth c Q H0 hF hA hH0 hmc hms hd hdl
  match i, hq with
  | 0, hq =>
    cases hq
    exact absurd (show false = true from hus) Bool.false_ne_true
  | 1, hq =>
    cases hq
    exact rx_stepC (ins := .invokevirtual 284) (len := 3) (i_p := 2) (M_p := rxM265) (d := rxCNUW.2.2.2.1) (as := [.inr (3, (0, 480)), .inr (0, (9, 0))]) (t := []) (ct := rxCMUW) hPX hF rfl hA hH0 hmc hms hd hdl (by decide +kernel) rfl rfl (by decide +kernel) (by decide +kernel) hQMUW (by decide +kernel) rfl (Or.inl ⟨rfl, rfl, rfl⟩) (rxsNUW_1 hP)
  | 2, hq =>
    cases hq
    exact absurd (show false = true from hus) Bool.false_ne_true
  | n + 3, hq => cases hq
theorem rxQNUW {PX : State → Prop} {Dg : va_G} {A : Nat → Prop} {ad xa : Nat → Nat} {l : Launch} {X : (Nat → Int → Int) → Prop} (hPX : rx_PXOK rxNW A PX) (hsl : ∀ s : State, PX s → ∀ o idx n : Nat, rxSl o idx = some n → ∃ tx : String, vk_R (rxNm o) idx tx (ad n) s)
    (hX : ∀ S S_p : Nat → Int → Int, X S → bx_same rxL (bx_mdl rxCNUW.2.2.1) S S_p → X S_p)
    (ih : ∀ (j2 : Nat) (ct2 : bx_Ct) (M2 : rx_Mt), ct2 ∈ rxCnE j2 → ct2.2.2.2.1 + 1 ≤ rxCNUW.2.2.2.1 → rxT.2.2.2.2.2 j2 = some M2 → bx_Con rxG rxNW rxAO PX Dg rxL X vwCl A ad l M2 ct2) (hQMUW : bx_ConP rxG rxNW rxAO PX Dg rxL X vwCl A ad l rxM265 rxCMUW rxPMUW rxPSMUW) : bx_ConP rxG rxNW rxAO PX Dg rxL X vwCl A ad l rxM293 rxCNUW rxPNUW rxPSNUW :=
  rxQof (xa := xa) (Cn := rxCnE) (f := 30000) (j := 293) (tab := rxYNUW) (us := rxUNUW) hPX hsl hX ih rfl rxYcNUW rxINUW rxmNUW
    (fun S0 ws r I0 I ht0 ht as he he1 hX0 hI0 hP hs ha => by
      have e := he.symm.trans (show bx_ent0 rxNP rxCNUW.1 bx_I0 [] = some ([(0, 0), (0, 0), (0, 0), (0, 0), (0, 0), (0, 0), (0, 0), (0, 0), ((-9223372036854775808), 9223372036854775807), ((-9223372036854775808), 9223372036854775807)], [], [.inr (3, (0, 480)), .inr (1, (8, 0)), .inr (1, (9, 0))]) from rfl)
      cases e
      subst ha
      have h0 : r 0 = 0 := hs.1
      show rxINUW_0 S0 _ S0 (r 8) (r 9)
      refine ⟨⟨rfl, ?_⟩, trivial⟩
      simp only [List.map_cons, List.map_nil, bx_xv_ok h0]
      rfl)
    (fun S0 ws hP => rxuNUW (xa := xa) hPX hX hQMUW hP) (fun S0 ws hP => rxgCNUW hP) (fun S0 ws hP => rxgENUW hP)
noncomputable def rxCRPLW : bx_Ct := ([(3, (1, 480, 0))], some (0, (0, (-2147483648), 2147483647)), [(12, 9), (12, 10), (12, 11), (12, 12), (12, 13), (12, 14)], 4, [])
noncomputable def rxIRPLW_0 (S0 : Nat → Int → Int) (ws : List Int) (S : Nat → Int → Int) : Prop := rxIRPL_0 S0 ws S ∧ True
noncomputable def rxmRPLW_0 (S0 : Nat → Int → Int) (ws : List Int) (S : Nat → Int → Int) : Nat := rxmRPL_0 S0 ws S
noncomputable def rxzRPLW_0 : rx_Z := ([(0, 0), (0, 0), (0, 0), (0, 0), (0, 0), (0, 0), (0, 0), (0, 0)], [], [], 0, 0, 0, [(0, .inr (3, (0, 480)))], [])
noncomputable def rxIRPLW_1 (S0 : Nat → Int → Int) (ws : List Int) (S : Nat → Int → Int) : Prop := rxIRPL_1 S0 ws S ∧ (rzDq S0 → rzIs (rzCut (S0 485)) (S0 480 8) rzW_any (S0 480 9) = true)
noncomputable def rxmRPLW_1 (S0 : Nat → Int → Int) (ws : List Int) (S : Nat → Int → Int) : Nat := rxmRPL_1 S0 ws S
noncomputable def rxzRPLW_1 : rx_Z := ([(0, 0), (0, 0), (0, 0), (0, 0), (0, 0), (0, 0), (0, 0), (0, 0)], [], [], 0, 0, 11, [(0, .inr (3, (0, 480)))], [.inr (3, (0, 480))])
noncomputable def rxIRPLW_2 (S0 : Nat → Int → Int) (ws : List Int) (S : Nat → Int → Int) : Prop := rxIRPL_2 S0 ws S ∧ (rzDq S0 → S0 480 14 = 0 → (S 480 14 = 0 → rzPlc (rzCut (S0 485)) (S0 480 8) (S0 480 9) = true ∧ rzNw S0 S) ∧ (S 480 14 ≠ 0 → rzPlc (rzCut (S0 485)) (S0 480 8) (S0 480 9) = false ∧ S 480 13 = S0 480 9))
noncomputable def rxmRPLW_2 (S0 : Nat → Int → Int) (ws : List Int) (S : Nat → Int → Int) : Nat := rxmRPL_2 S0 ws S
noncomputable def rxzRPLW_2 : rx_Z := ([(0, 0), (0, 0), (0, 0), (0, 0), (0, 0), (0, 0), (0, 0), (0, 0)], [], [], 0, 0, 14, [(0, .inr (3, (0, 480)))], [])
noncomputable def rxIRPLW_3 (S0 : Nat → Int → Int) (ws : List Int) (S : Nat → Int → Int) : Prop := rxIRPL_3 S0 ws S ∧ (rzDq S0 → rzIs (rzCut (S0 485)) (S0 480 8) rzW_any (S0 480 9) = false)
noncomputable def rxmRPLW_3 (S0 : Nat → Int → Int) (ws : List Int) (S : Nat → Int → Int) : Nat := rxmRPL_3 S0 ws S
noncomputable def rxzRPLW_3 : rx_Z := ([(0, 0), (0, 0), (0, 0), (0, 0), (0, 0), (0, 0), (0, 0), (0, 0)], [], [], 0, 0, 21, [(0, .inr (3, (0, 480)))], [.inr (1, (0, 5)), .inr (1, (0, 0)), .inr (3, (0, 480))])
noncomputable def rxIRPLW_4 (S0 : Nat → Int → Int) (ws : List Int) (S : Nat → Int → Int) (v : Int) : Prop := rxIRPL_4 S0 ws S v ∧ (rzDq S0 → S0 480 14 = 0 → (S 480 14 = 0 → rzPlc (rzCut (S0 485)) (S0 480 8) (S0 480 9) = true ∧ rzNw S0 S) ∧ (S 480 14 ≠ 0 → rzPlc (rzCut (S0 485)) (S0 480 8) (S0 480 9) = false ∧ S 480 13 = S0 480 9))
noncomputable def rxmRPLW_4 (S0 : Nat → Int → Int) (ws : List Int) (S : Nat → Int → Int) (v : Int) : Nat := rxmRPL_4 S0 ws S v
noncomputable def rxzRPLW_4 : rx_Z := ([(0, 0), (0, 0), (0, 0), (0, 0), (0, 0), (0, 0), (0, 0), (0, 0), ((-2147483648), 2147483647)], [], [], 0, 0, 24, [(0, .inr (3, (0, 480)))], [.inr (0, (8, 0))])
noncomputable def rxoRPLW_0_0 : bx_HO := (([(0, 0), (0, 0), (0, 0), (0, 0), (0, 0), (0, 0), (0, 0), (0, 0), (0, 3)], [(3, (8, 0), (0, 1))], [(((0, 0), 1851192626986356799632114105031551009123054124018230966928539648000000), .inr (0, (8, 0))), (((0, 480), 11), .inr (0, (8, 0)))], 0, 0, 21, [(0, .inr (3, (0, 480)))], [.inr (1, (0, 5)), .inr (1, (0, 0)), .inr (3, (0, 480))]), [], [], [(0, 0), (0, 0), (0, 0), (0, 0), (0, 0), (0, 0), (0, 0), (0, 0)], 3)
noncomputable def rxoRPLW_0_1 : bx_HO := (([(0, 0), (0, 0), (0, 0), (0, 0), (0, 0), (0, 0), (0, 0), (0, 0), (1, 1), ((-9223372036854775808), 9223372036854775807)], [(3, (9, 0), (0, 1497))], [(((0, 0), 1851192626986356799832820811818326617396875588472066220482363392000000), .inr (1, (9, 0))), (((0, 480), 12), .inr (1, (9, 0))), (((0, 0), 1851192626986356799632114105031551009123054124018230966928539648000000), .inr (0, (8, 0))), (((0, 480), 11), .inr (0, (8, 0)))], 0, 0, 21, [(0, .inr (3, (0, 480)))], [.inr (1, (0, 5)), .inr (1, (0, 0)), .inr (3, (0, 480))]), [], [], [(0, 0), (0, 0), (0, 0), (0, 0), (0, 0), (0, 0), (0, 0), (0, 0)], 3)
noncomputable def rxoRPLW_0_2 : bx_HO := (([(0, 0), (0, 0), (0, 0), (0, 0), (0, 0), (0, 0), (0, 0), (0, 0), (1, 1), (1497, 1497)], [], [(((0, 0), 1851192626986356799832820811818326617396875588472066220482363392000000), .inr (1, (9, 0))), (((0, 480), 12), .inr (1, (9, 0))), (((0, 0), 1851192626986356799632114105031551009123054124018230966928539648000000), .inr (0, (8, 0))), (((0, 480), 11), .inr (0, (8, 0)))], 0, 0, 11, [(0, .inr (3, (0, 480)))], [.inr (3, (0, 480))]), [], [], [(0, 0), (0, 0), (0, 0), (0, 0), (0, 0), (0, 0), (0, 0), (0, 0)], 1)
noncomputable def rxeRPLW_2_0 : rx_End × List (Nat × Int × Int) := (([(0, 0), (0, 0), (0, 0), (0, 0), (0, 0), (0, 0), (0, 0), (0, 0)], [], [], some (.inr (0, (0, (-1))))), [])
noncomputable def rxeRPLW_4_0 : rx_End × List (Nat × Int × Int) := (([(0, 0), (0, 0), (0, 0), (0, 0), (0, 0), (0, 0), (0, 0), (0, 0), ((-2147483648), 2147483647)], [], [], some (.inr (0, (8, 0)))), [])
noncomputable def rxYRPLW : List bx_HE := [(rxzRPLW_0, [rxoRPLW_0_0, rxoRPLW_0_1, rxoRPLW_0_2], []), (rxzRPLW_1, [], []), (rxzRPLW_2, [], [rxeRPLW_2_0]), (rxzRPLW_3, [], []), (rxzRPLW_4, [], [rxeRPLW_4_0])]
noncomputable def rxURPLW (q : bx_HE) : Bool := Nat.beq (rx_zpc q.1) 11 || Nat.beq (rx_zpc q.1) 21
noncomputable def rxYBRPLW : bx_B := (rxV, rxNP, rxDmf, bx_mdH rxCRPLW.2.2.1)
set_option maxRecDepth 100000 in
theorem rxYcRPLW : bx_chkH rxYBRPLW rxM294 rxCRPLW rxYRPLW (rxURPLW, fun cut z => rx_ex2 (rxCT rxYBRPLW rxCnE) cut 30000 rxCRPLW.2.2.2.1 294 z) = true := by decide +kernel
noncomputable def rxIRPLW (S0 : Nat → Int → Int) (ws : List Int) (i : Nat) : bx_SP := fun S r => match i with | 0 => rxIRPLW_0 S0 ws S | 1 => rxIRPLW_1 S0 ws S | 2 => rxIRPLW_2 S0 ws S | 3 => rxIRPLW_3 S0 ws S | 4 => rxIRPLW_4 S0 ws S (r 8) | _ => False
noncomputable def rxmRPLW (S0 : Nat → Int → Int) (ws : List Int) (i : Nat) (S : Nat → Int → Int) (r : Nat → Int) : Nat := match i with | 0 => rxmRPLW_0 S0 ws S | 1 => rxmRPLW_1 S0 ws S | 2 => rxmRPLW_2 S0 ws S | 3 => rxmRPLW_3 S0 ws S | 4 => rxmRPLW_4 S0 ws S (r 8) | _ => 0
noncomputable def rxPRPLW (S0 : Nat → Int → Int) (ws : List Int) : Prop := rxPRPL S0 ws
noncomputable def rxPSRPLW (S0 : Nat → Int → Int) (ws : List Int) (S : Nat → Int → Int) (w : Option Int) : Prop := rxPSRPL S0 ws S w ∧ (rzDq S0 → S0 480 14 = 0 → (S 480 14 = 0 → rzPlc (rzCut (S0 485)) (S0 480 8) (S0 480 9) = true ∧ rzNw S0 S) ∧ (S 480 14 ≠ 0 → rzPlc (rzCut (S0 485)) (S0 480 8) (S0 480 9) = false ∧ S 480 13 = S0 480 9))
theorem rxkRPLW_1 {S0 : Nat → Int → Int} {ws : List Int} {S : Nat → Int → Int} (hP : rxPRPLW S0 ws) (hin : bx_same rxL (bx_mdl rxCRPLW.2.2.1) S0 S) (I0 : bx_Inv rxL S) (hinv : rxIRPLW_1 S0 ws S)  : rxPNXX S [480] ∧ ∀ (S_p : Nat → Int → Int), rxPSNXX S [480] S_p none → bx_Inv rxL S_p → bx_same rxL (bx_mdl rxCNXX.2.2.1) S S_p → rxIRPLW_2 S0 ws S_p ∧ rxmRPLW_2 S0 ws S_p < rxmRPLW_1 S0 ws S := by
  obtain ⟨hI, hx⟩ := hinv
  have g_ := rxkRPL_1 hP hin I0 hI
  exact ⟨g_.1, fun S_p hq I1 hsm => ⟨⟨(g_.2 S_p hq.2.1 I1 hsm).1, (fun hD h14 => by
    have e : S = S0 := hI
    subst e
    refine ⟨fun _ => ⟨?_, rzNw_nx hD (rzKr_of hsm (by decide +kernel)) hq.2.2.1 hq.2.2.2⟩, fun z => absurd ((show S_p 480 14 = S 480 14 from hsm 480 14 (by decide) (by decide) (by decide +kernel)).trans h14) z⟩
    unfold rzPlc
    rw [hx hD]
    rfl)⟩, (g_.2 S_p hq.2.1 I1 hsm).2⟩⟩
theorem rxsRPLW_1 {X : (Nat → Int → Int) → Prop} {S0 : Nat → Int → Int} {ws : List Int} (hP : rxPRPLW S0 ws) : rx_obK X S0 rxCRPLW.2.2.1 rxCNXX.2.2.1 (rxIRPLW S0 ws) (rxmRPLW S0 ws) 1 2 rxzRPLW_1 rxzRPLW_2 [.inr (3, (0, 480))] none rxPNXX rxPSNXX := by
  intro S r hinv hXS I0 hin hs_ hf_
  have b_ := bx_bds_sat hs_
  have f_ := bx_fcl_ok hs_.1 hf_
  have g := rxkRPLW_1 hP hin I0 hinv 
  have ea : List.map (bx_num r) [.inr (3, (0, 480))] = [480] := by
    simp only [List.map_cons, List.map_nil, bx_xv_ok hs_.1]
    rfl
  rw [ea]
  refine ⟨g.1, fun S_p w r_p hPS hX_p I1 hsm hr hw hs_p => ?_⟩
  have hw : w = none := hPS.1
  subst hw
  have g2 := g.2 S_p hPS I1 hsm
  show rxIRPLW_2 S0 ws S_p ∧ rxmRPLW_2 S0 ws S_p < _
  exact g2
theorem rxkRPLW_3 {S0 : Nat → Int → Int} {ws : List Int} {S : Nat → Int → Int} (hP : rxPRPLW S0 ws) (hin : bx_same rxL (bx_mdl rxCRPLW.2.2.1) S0 S) (I0 : bx_Inv rxL S) (hinv : rxIRPLW_3 S0 ws S)  : rxPNUW S [480, 0, 5] ∧ ∀ (S_p : Nat → Int → Int) (v : Int), (-2147483648) ≤ v → v ≤ 2147483647 → rxPSNUW S [480, 0, 5] S_p (some v) → bx_Inv rxL S_p → bx_same rxL (bx_mdl rxCNUW.2.2.1) S S_p → rxIRPLW_4 S0 ws S_p v ∧ rxmRPLW_4 S0 ws S_p v < rxmRPLW_3 S0 ws S := by
  obtain ⟨hI, hx⟩ := hinv
  have g_ := rxkRPL_3 hP hin I0 hI
  exact ⟨g_.1, fun S_p v l_ u_ hq I1 hsm => ⟨⟨(g_.2 S_p v l_ u_ hq.1 I1 hsm).1, (fun hD h14 => by
    have e : S = S0 := hI
    subst e
    obtain ⟨lo, hi, hw, hc⟩ := hq.2
    have e1 : (0 : Int) = lo := Option.some.inj (congrArg (fun l : List Int => l[1]?) hw)
    have e2 : (5 : Int) = hi := Option.some.inj (congrArg (fun l : List Int => l[2]?) hw)
    subst e1
    subst e2
    have g := hc hD h14
    have ha := hx hD
    refine ⟨fun z => ⟨?_, (g.1 z).2⟩, fun z => ⟨?_, (g.2 z).2⟩⟩
    · obtain ⟨⟨c1, c2, c3⟩, -⟩ := g.1 z
      have q := rzDq_nm hD c1
      have q2 := q.2.1 (by omega)
      unfold rzPlc
      rw [ha, (rzDq_dg hD).mp c1, Bool.false_or, Bool.true_and]
      exact decide_eq_true (by omega)
    · have c := (g.2 z).1
      unfold rzPlc
      rw [ha, Bool.false_or]
      by_cases c1 : S 480 11 = 2
      · have q := rzDq_nm hD c1
        have c3 : ¬ rzNo (rzCut (S 485)) (S 480 8) (S 480 9) ≤ 5 := by
          by_cases c4 : S 480 12 ≤ 1000
          · have q2 := q.2.1 c4
            omega
          · have q2 := q.2.2 (by omega)
            omega
        rw [decide_eq_false c3, Bool.and_false]
      · cases hb : rzDg (rzCut (S 485)) (S 480 8) (S 480 9) with
        | false => rfl
        | true => exact absurd ((rzDq_dg hD).mpr hb) c1)⟩, (g_.2 S_p v l_ u_ hq.1 I1 hsm).2⟩⟩
theorem rxsRPLW_3 {X : (Nat → Int → Int) → Prop} {S0 : Nat → Int → Int} {ws : List Int} (hP : rxPRPLW S0 ws) : rx_obK X S0 rxCRPLW.2.2.1 rxCNUW.2.2.1 (rxIRPLW S0 ws) (rxmRPLW S0 ws) 3 4 rxzRPLW_3 rxzRPLW_4 [.inr (3, (0, 480)), .inr (1, (0, 0)), .inr (1, (0, 5))] (some 8) rxPNUW rxPSNUW := by
  intro S r hinv hXS I0 hin hs_ hf_
  have b_ := bx_bds_sat hs_
  have f_ := bx_fcl_ok hs_.1 hf_
  have g := rxkRPLW_3 hP hin I0 hinv 
  have ea : List.map (bx_num r) [.inr (3, (0, 480)), .inr (1, (0, 0)), .inr (1, (0, 5))] = [480, 0, 5] := by
    simp only [List.map_cons, List.map_nil, bx_xv_ok hs_.1]
    rfl
  rw [ea]
  refine ⟨g.1, fun S_p w r_p hPS hX_p I1 hsm hr hw hs_p => ?_⟩
  have hw := hw _ rfl
  subst hw
  have b_p := hs_p.2.2 8 _ _ rfl
  have g2 := g.2 S_p (r_p 8) b_p.1 b_p.2 hPS I1 hsm
  show rxIRPLW_4 S0 ws S_p (r_p 8) ∧ rxmRPLW_4 S0 ws S_p (r_p 8) < _
  exact g2
theorem rxcRPLW_0_0 {S0 : Nat → Int → Int} {ws : List Int} {S : Nat → Int → Int} {x8 : Int} (hP : rxPRPLW S0 ws) (hin : bx_same rxL (bx_mdl rxCRPLW.2.2.1) S0 S) (I0 : bx_Inv rxL S) (hinv : rxIRPLW_0 S0 ws S) (l8 : 0 ≤ x8) (u8 : x8 ≤ 3) (f0 : x8 ≠ 1) (e0 : S 480 11 = x8) : (True) ∧ (True) ∧ rxIRPLW_3 S0 ws S ∧ rxmRPLW_3 S0 ws S < rxmRPLW_0 S0 ws S := by
  obtain ⟨hI, hx⟩ := hinv
  obtain ⟨a_, b_, c_, d_⟩ := rxcRPL_0_0 hP hin I0 hI l8 u8 f0 e0
  exact ⟨a_, b_, ⟨c_, (fun hD => by
    have e := hI.1
    subst e
    exact rzDq_no hD (w := rzW_any) (v := 1497) (by decide) (by decide) (by omega))⟩, d_⟩
theorem rxgRPLW_0_0 {X : (Nat → Int → Int) → Prop} {S0 : Nat → Int → Int} {ws : List Int} (hP : rxPRPLW S0 ws) : bx_obC rxL X S0 rxCRPLW.2.2.1 (rxIRPLW S0 ws) (rxmRPLW S0 ws) 0 rxzRPLW_0 rxoRPLW_0_0 := by
  intro S S_p r r_p hinv hX hin hsm_ hseg
  obtain ⟨I0, I1, h0_, hr_, b_, f_, d_⟩ := bx_cl (evs := [(0, (0, 480), (0, 11), .inr (0, (8, 0)))]) (fvs := [(3, (8, 0), (0, 1), (0, 0))]) hseg (by decide +kernel) (by decide +kernel)
  have hinv : rxIRPLW_0 S0 ws S := hinv
  obtain ⟨⟨l8, u8⟩, -⟩ := b_
  obtain ⟨f0, -⟩ := f_
  obtain ⟨e0, w_⟩ := d_
  subst w_
  have g := rxcRPLW_0_0 hP hin I0 hinv l8 u8 f0 e0
  refine ⟨bx_narP_ok (l := []) g.1, bx_nfP_ok h0_ (fvs := []) (by decide +kernel) g.2.1, ?_, ?_⟩
  · show rxIRPLW_3 S0 ws S_p
    exact g.2.2.1
  · show rxmRPLW_3 S0 ws S_p < rxmRPLW_0 S0 ws S_p
    exact g.2.2.2
theorem rxcRPLW_0_1 {S0 : Nat → Int → Int} {ws : List Int} {S : Nat → Int → Int} {x8 x9 : Int} (hP : rxPRPLW S0 ws) (hin : bx_same rxL (bx_mdl rxCRPLW.2.2.1) S0 S) (I0 : bx_Inv rxL S) (hinv : rxIRPLW_0 S0 ws S) (l8 : 1 ≤ x8) (u8 : x8 ≤ 1) (l9 : (-9223372036854775808) ≤ x9) (u9 : x9 ≤ 9223372036854775807) (f0 : x9 ≠ 1497) (e1 : S 480 11 = x8) (e0 : S 480 12 = x9) : (True) ∧ (True) ∧ rxIRPLW_3 S0 ws S ∧ rxmRPLW_3 S0 ws S < rxmRPLW_0 S0 ws S := by
  obtain ⟨hI, hx⟩ := hinv
  obtain ⟨a_, b_, c_, d_⟩ := rxcRPL_0_1 hP hin I0 hI l8 u8 l9 u9 f0 e1 e0
  exact ⟨a_, b_, ⟨c_, (fun hD => by
    have e := hI.1
    subst e
    exact rzDq_no hD (w := rzW_any) (v := 1497) (by decide) (by decide) (by omega))⟩, d_⟩
theorem rxgRPLW_0_1 {X : (Nat → Int → Int) → Prop} {S0 : Nat → Int → Int} {ws : List Int} (hP : rxPRPLW S0 ws) : bx_obC rxL X S0 rxCRPLW.2.2.1 (rxIRPLW S0 ws) (rxmRPLW S0 ws) 0 rxzRPLW_0 rxoRPLW_0_1 := by
  intro S S_p r r_p hinv hX hin hsm_ hseg
  obtain ⟨I0, I1, h0_, hr_, b_, f_, d_⟩ := bx_cl (evs := [(0, (0, 480), (0, 12), .inr (1, (9, 0))), (0, (0, 480), (0, 11), .inr (0, (8, 0)))]) (fvs := [(3, (9, 0), (0, 1497), (0, 0))]) hseg (by decide +kernel) (by decide +kernel)
  have hinv : rxIRPLW_0 S0 ws S := hinv
  obtain ⟨⟨l8, u8⟩, ⟨l9, u9⟩, -⟩ := b_
  obtain ⟨f0, -⟩ := f_
  obtain ⟨e0, ⟨e1, w_⟩⟩ := d_
  subst w_
  have g := rxcRPLW_0_1 hP hin I0 hinv l8 u8 l9 u9 f0 e1 e0
  refine ⟨bx_narP_ok (l := []) g.1, bx_nfP_ok h0_ (fvs := []) (by decide +kernel) g.2.1, ?_, ?_⟩
  · show rxIRPLW_3 S0 ws S_p
    exact g.2.2.1
  · show rxmRPLW_3 S0 ws S_p < rxmRPLW_0 S0 ws S_p
    exact g.2.2.2
theorem rxcRPLW_0_2 {S0 : Nat → Int → Int} {ws : List Int} {S : Nat → Int → Int} {x8 x9 : Int} (hP : rxPRPLW S0 ws) (hin : bx_same rxL (bx_mdl rxCRPLW.2.2.1) S0 S) (I0 : bx_Inv rxL S) (hinv : rxIRPLW_0 S0 ws S) (l8 : 1 ≤ x8) (u8 : x8 ≤ 1) (l9 : 1497 ≤ x9) (u9 : x9 ≤ 1497) (e1 : S 480 11 = x8) (e0 : S 480 12 = x9) : (True) ∧ (True) ∧ rxIRPLW_1 S0 ws S ∧ rxmRPLW_1 S0 ws S < rxmRPLW_0 S0 ws S := by
  obtain ⟨hI, hx⟩ := hinv
  obtain ⟨a_, b_, c_, d_⟩ := rxcRPL_0_2 hP hin I0 hI l8 u8 l9 u9 e1 e0
  exact ⟨a_, b_, ⟨c_, (fun hD => by
    have e := hI.1
    subst e
    exact (rzDq_is hD (w := rzW_any) (v := 1497) (by decide) (by decide)).mp ⟨by omega, by omega⟩)⟩, d_⟩
theorem rxgRPLW_0_2 {X : (Nat → Int → Int) → Prop} {S0 : Nat → Int → Int} {ws : List Int} (hP : rxPRPLW S0 ws) : bx_obC rxL X S0 rxCRPLW.2.2.1 (rxIRPLW S0 ws) (rxmRPLW S0 ws) 0 rxzRPLW_0 rxoRPLW_0_2 := by
  intro S S_p r r_p hinv hX hin hsm_ hseg
  obtain ⟨I0, I1, h0_, hr_, b_, f_, d_⟩ := bx_cl (evs := [(0, (0, 480), (0, 12), .inr (1, (9, 0))), (0, (0, 480), (0, 11), .inr (0, (8, 0)))]) (fvs := []) hseg (by decide +kernel) (by decide +kernel)
  have hinv : rxIRPLW_0 S0 ws S := hinv
  obtain ⟨⟨l8, u8⟩, ⟨l9, u9⟩, -⟩ := b_
  obtain ⟨e0, ⟨e1, w_⟩⟩ := d_
  subst w_
  have g := rxcRPLW_0_2 hP hin I0 hinv l8 u8 l9 u9 e1 e0
  refine ⟨bx_narP_ok (l := []) g.1, bx_nfP_ok h0_ (fvs := []) (by decide +kernel) g.2.1, ?_, ?_⟩
  · show rxIRPLW_1 S0 ws S_p
    exact g.2.2.1
  · show rxmRPLW_1 S0 ws S_p < rxmRPLW_0 S0 ws S_p
    exact g.2.2.2
theorem rxdRPLW_2_0 {S0 : Nat → Int → Int} {ws : List Int} {S : Nat → Int → Int} (hP : rxPRPLW S0 ws) (hin : bx_same rxL (bx_mdl rxCRPLW.2.2.1) S0 S) (hin2 : bx_same rxL (bx_mdl rxCRPLW.2.2.1) S S) (I0 : bx_Inv rxL S) (I1 : bx_Inv rxL S) (hinv : rxIRPLW_2 S0 ws S)  : (True) ∧ rxPSRPLW S0 ws S (some ((-1))) := by
  obtain ⟨hI, hx⟩ := hinv
  obtain ⟨a_, c_⟩ := rxdRPL_2_0 hP hin hin2 I0 I1 hI
  exact ⟨a_, c_, hx⟩
theorem rxfRPLW_2_0 {X : (Nat → Int → Int) → Prop} {S0 : Nat → Int → Int} {ws : List Int} (hP : rxPRPLW S0 ws) : bx_obE rxL X S0 rxCRPLW.2.2.1 (rxIRPLW S0 ws) (rxPSRPLW S0 ws) 2 rxzRPLW_2 rxeRPLW_2_0 := by
  intro S S_p r r_p hinv hX hin hsm_ hseg
  obtain ⟨I0, I1, h0_, hr_, b_, f_, d_⟩ := bx_cl (evs := []) (fvs := []) hseg (by decide +kernel) (by decide +kernel)
  have hinv : rxIRPLW_2 S0 ws S := hinv
  have w_ := d_
  subst w_
  have g := rxdRPLW_2_0 hP hin hsm_ I0 I1 hinv 
  refine ⟨bx_narP_ok (l := []) g.1, ?_⟩
  show rxPSRPLW S0 ws S_p (some (bx_num r_p (.inr (0, (0, (-1))))))
  rw [bx_xv_ok h0_]
  exact g.2
theorem rxdRPLW_4_0 {S0 : Nat → Int → Int} {ws : List Int} {S : Nat → Int → Int} {v : Int} (hP : rxPRPLW S0 ws) (hin : bx_same rxL (bx_mdl rxCRPLW.2.2.1) S0 S) (hin2 : bx_same rxL (bx_mdl rxCRPLW.2.2.1) S S) (I0 : bx_Inv rxL S) (I1 : bx_Inv rxL S) (hinv : rxIRPLW_4 S0 ws S v) (l8 : (-2147483648) ≤ v) (u8 : v ≤ 2147483647) : (True) ∧ rxPSRPLW S0 ws S (some v) := by
  obtain ⟨hI, hx⟩ := hinv
  obtain ⟨a_, c_⟩ := rxdRPL_4_0 hP hin hin2 I0 I1 hI l8 u8
  exact ⟨a_, c_, hx⟩
theorem rxfRPLW_4_0 {X : (Nat → Int → Int) → Prop} {S0 : Nat → Int → Int} {ws : List Int} (hP : rxPRPLW S0 ws) : bx_obE rxL X S0 rxCRPLW.2.2.1 (rxIRPLW S0 ws) (rxPSRPLW S0 ws) 4 rxzRPLW_4 rxeRPLW_4_0 := by
  intro S S_p r r_p hinv hX hin hsm_ hseg
  obtain ⟨I0, I1, h0_, hr_, b_, f_, d_⟩ := bx_cl (evs := []) (fvs := []) hseg (by decide +kernel) (by decide +kernel)
  have hinv : rxIRPLW_4 S0 ws S (r 8) := hinv
  rw [← hr_ 8 (by decide)] at hinv
  obtain ⟨⟨l8, u8⟩, -⟩ := b_
  have w_ := d_
  subst w_
  have g := rxdRPLW_4_0 hP hin hsm_ I0 I1 hinv l8 u8
  refine ⟨bx_narP_ok (l := []) g.1, ?_⟩
  show rxPSRPLW S0 ws S_p (some (bx_num r_p (.inr (0, (8, 0)))))
  rw [bx_xv_ok h0_]
  exact g.2
theorem rxgCRPLW {X : (Nat → Int → Int) → Prop} {S0 : Nat → Int → Int} {ws : List Int} (hP : rxPRPLW S0 ws) : bx_allI (fun i q => rxURPLW q = true ∨ bx_allP (fun o => bx_obC rxL X S0 rxCRPLW.2.2.1 (rxIRPLW S0 ws) (rxmRPLW S0 ws) i q.1 o) q.2.1) 0 rxYRPLW := ⟨Or.inr ⟨rxgRPLW_0_0 hP, rxgRPLW_0_1 hP, rxgRPLW_0_2 hP, trivial⟩, Or.inl rfl, Or.inr trivial, Or.inl rfl, Or.inr trivial, trivial⟩
theorem rxgERPLW {X : (Nat → Int → Int) → Prop} {S0 : Nat → Int → Int} {ws : List Int} (hP : rxPRPLW S0 ws) : bx_allI (fun i q => rxURPLW q = true ∨ bx_allP (fun E => bx_obE rxL X S0 rxCRPLW.2.2.1 (rxIRPLW S0 ws) (rxPSRPLW S0 ws) i q.1 E) q.2.2) 0 rxYRPLW := ⟨Or.inr trivial, Or.inl rfl, Or.inr ⟨rxfRPLW_2_0 hP, trivial⟩, Or.inl rfl, Or.inr ⟨rxfRPLW_4_0 hP, trivial⟩, trivial⟩
theorem rxuRPLW {PX : State → Prop} {Dg : va_G} {A : Nat → Prop} {ad xa : Nat → Nat} {l : Launch} {X : (Nat → Int → Int) → Prop} (hPX : rx_PXOK rxNW A PX) (hX : ∀ S S1 : Nat → Int → Int, X S → bx_same rxL (bx_mdl rxCRPLW.2.2.1) S S1 → X S1) (hQNXX : bx_ConP rxG rxNW rxAO PX Dg rxL X vwCl A ad l rxM264 rxCNXX rxPNXX rxPSNXX) (hQNUW : bx_ConP rxG rxNW rxAO PX Dg rxL X vwCl A ad l rxM293 rxCNUW rxPNUW rxPSNUW) {S0 : Nat → Int → Int} {ws : List Int} (hP : rxPRPLW S0 ws) : ∀ (i : Nat) (q : bx_HE), rxYRPLW[i]? = some q → rxURPLW q = true → ∀ {p : Program} {e : Env} {R : Room} {s : State} {m : MethodId} {args : Array Value} {below : List Frame} {meth : Method} {c : Code} {Q : State → Prop} {H0 : Heap}, rx_Fr rxG rxNW rxAO PX p s m args meth c rxM294 → (∀ q, H0.size ≤ q → A q) → H0 = s.heap → rxM294.2.2.2.2.2.2.1 ≤ R.cells → rxM294.2.2.2.2.2.2.2 ≤ R.slots → rxCRPLW.2.2.2.1 ≤ R.frames → rxCRPLW.2.2.2.1 * 40 ≤ R.locals → bx_Step p l e R s m args below meth c Q Dg rxL X vwCl A xa H0 ad rxM294 rxYRPLW (rxIRPLW S0 ws) (rxmRPLW S0 ws) S0 rxCRPLW.2.2.1 i q := by
  intro i q hq hus p e R s m args below meth c Q H0 hF hA hH0 hmc hms hd hdl
  match i, hq with
  | 0, hq =>
    cases hq
    exact absurd (show false = true from hus) Bool.false_ne_true
  | 1, hq =>
    cases hq
    exact rx_stepC (ins := .invokevirtual 253) (len := 3) (i_p := 2) (M_p := rxM264) (d := rxCRPLW.2.2.2.1) (as := [.inr (3, (0, 480))]) (t := []) (ct := rxCNXX) hPX hF rfl hA hH0 hmc hms hd hdl (by decide +kernel) rfl rfl (by decide +kernel) (by decide +kernel) hQNXX (by decide +kernel) rfl (Or.inl ⟨rfl, rfl, rfl⟩) (rxsRPLW_1 hP)
  | 2, hq =>
    cases hq
    exact absurd (show false = true from hus) Bool.false_ne_true
  | 3, hq =>
    cases hq
    exact rx_stepC (ins := .invokevirtual 446) (len := 3) (i_p := 4) (M_p := rxM293) (d := rxCRPLW.2.2.2.1) (as := [.inr (3, (0, 480)), .inr (1, (0, 0)), .inr (1, (0, 5))]) (t := []) (ct := rxCNUW) hPX hF rfl hA hH0 hmc hms hd hdl (by decide +kernel) rfl rfl (by decide +kernel) (by decide +kernel) hQNUW (by decide +kernel) rfl (Or.inr ⟨_, _, _, 1, rfl, rfl, by omega, rfl, rfl, rfl⟩) (rxsRPLW_3 hP)
  | 4, hq =>
    cases hq
    exact absurd (show false = true from hus) Bool.false_ne_true
  | n + 5, hq => cases hq
theorem rxQRPLW {PX : State → Prop} {Dg : va_G} {A : Nat → Prop} {ad xa : Nat → Nat} {l : Launch} {X : (Nat → Int → Int) → Prop} (hPX : rx_PXOK rxNW A PX) (hsl : ∀ s : State, PX s → ∀ o idx n : Nat, rxSl o idx = some n → ∃ tx : String, vk_R (rxNm o) idx tx (ad n) s)
    (hX : ∀ S S_p : Nat → Int → Int, X S → bx_same rxL (bx_mdl rxCRPLW.2.2.1) S S_p → X S_p)
    (ih : ∀ (j2 : Nat) (ct2 : bx_Ct) (M2 : rx_Mt), ct2 ∈ rxCnE j2 → ct2.2.2.2.1 + 1 ≤ rxCRPLW.2.2.2.1 → rxT.2.2.2.2.2 j2 = some M2 → bx_Con rxG rxNW rxAO PX Dg rxL X vwCl A ad l M2 ct2) (hQNXX : bx_ConP rxG rxNW rxAO PX Dg rxL X vwCl A ad l rxM264 rxCNXX rxPNXX rxPSNXX) (hQNUW : bx_ConP rxG rxNW rxAO PX Dg rxL X vwCl A ad l rxM293 rxCNUW rxPNUW rxPSNUW) : bx_ConP rxG rxNW rxAO PX Dg rxL X vwCl A ad l rxM294 rxCRPLW rxPRPLW rxPSRPLW :=
  rxQof (xa := xa) (Cn := rxCnE) (f := 30000) (j := 294) (tab := rxYRPLW) (us := rxURPLW) hPX hsl hX ih rfl rxYcRPLW rxIRPLW rxmRPLW
    (fun S0 ws r I0 I ht0 ht as he he1 hX0 hI0 hP hs ha => by
      have e := he.symm.trans (show bx_ent0 rxNP rxCRPLW.1 bx_I0 [] = some ([(0, 0), (0, 0), (0, 0), (0, 0), (0, 0), (0, 0), (0, 0), (0, 0)], [], [.inr (3, (0, 480))]) from rfl)
      cases e
      subst ha
      have h0 : r 0 = 0 := hs.1
      show rxIRPLW_0 S0 _ S0
      refine ⟨⟨rfl, ?_⟩, trivial⟩
      simp only [List.map_cons, List.map_nil, bx_xv_ok h0]
      rfl)
    (fun S0 ws hP => rxuRPLW (xa := xa) hPX hX hQNXX hQNUW hP) (fun S0 ws hP => rxgCRPLW hP) (fun S0 ws hP => rxgERPLW hP)
noncomputable def rxCRYW : bx_Ct := ([(3, (1, 480, 0))], none, [(12, 9), (12, 10), (12, 11), (12, 12), (12, 13), (12, 14), (12, 16), (12, 18), (12, 21), (12, 24), (12, 25), (1068, 0), (1069, 0), (1070, 0), (1071, 0), (1077, 0)], 7, [])
noncomputable def rxIRYW_0 (S0 : Nat → Int → Int) (ws : List Int) (S : Nat → Int → Int) : Prop := rxIRY_0 S0 ws S ∧ True
noncomputable def rxmRYW_0 (S0 : Nat → Int → Int) (ws : List Int) (S : Nat → Int → Int) : Nat := rxmRY_0 S0 ws S
noncomputable def rxzRYW_0 : rx_Z := ([(0, 0), (0, 0), (0, 0), (0, 0), (0, 0), (0, 0), (0, 0), (0, 0)], [], [], 0, 0, 0, [(0, .inr (3, (0, 480)))], [])
noncomputable def rxIRYW_1 (S0 : Nat → Int → Int) (ws : List Int) (S : Nat → Int → Int) (is : Int) : Prop := rxIRY_1 S0 ws S is ∧ (rzDq S0 → ((is = 1 ∧ S0 480 16 < 12 ∧ rzIs (rzCut (S0 485)) (S0 480 8) rzW_in (S0 480 9) = true) ∨ (is = 0 ∧ (¬ S0 480 16 < 12 ∨ rzIs (rzCut (S0 485)) (S0 480 8) rzW_in (S0 480 9) = false))))
noncomputable def rxmRYW_1 (S0 : Nat → Int → Int) (ws : List Int) (S : Nat → Int → Int) (is : Int) : Nat := rxmRY_1 S0 ws S is
noncomputable def rxzRYW_1 : rx_Z := ([(0, 0), (0, 0), (0, 0), (0, 0), (0, 0), (0, 0), (0, 0), (0, 0), (0, 1)], [], [], 0, 0, 25, [(0, .inr (3, (0, 480)))], [.inr (0, (8, 0)), .inr (3, (0, 480))])
noncomputable def rxIRYW_2 (S0 : Nat → Int → Int) (ws : List Int) (S : Nat → Int → Int) (is : Int) : Prop := rxIRY_2 S0 ws S is ∧ (rzCk S0 → rzDq S0 → rzWr S0 = rzPn → rzCa S0 S (rzPRr (rzCut (S0 485)) (S0 480 8) (S0 480 16) (S0 480 9) (S0 480 21)) (rzP1 (rzCut (S0 485)) (S0 480 8)))
noncomputable def rxmRYW_2 (S0 : Nat → Int → Int) (ws : List Int) (S : Nat → Int → Int) (is : Int) : Nat := rxmRY_2 S0 ws S is
noncomputable def rxzRYW_2 : rx_Z := ([(0, 0), (0, 0), (0, 0), (0, 0), (0, 0), (0, 0), (0, 0), (0, 0), (0, 1)], [], [], 0, 0, 28, [(0, .inr (3, (0, 480)))], [])
noncomputable def rxIRYW_3 (S0 : Nat → Int → Int) (ws : List Int) (S : Nat → Int → Int) (nc : Int) : Prop := rxIRY_3 S0 ws S nc ∧ (S 480 14 = 0 ∧ (rzCk S0 → rzDq S0 → rzWr S0 = rzPn → rzCa S0 S (rzPRr (rzCut (S0 485)) (S0 480 8) (S0 480 16) (S0 480 9) (S0 480 21)) (rzP1 (rzCut (S0 485)) (S0 480 8))))
noncomputable def rxmRYW_3 (S0 : Nat → Int → Int) (ws : List Int) (S : Nat → Int → Int) (nc : Int) : Nat := rxmRY_3 S0 ws S nc
noncomputable def rxzRYW_3 : rx_Z := ([(0, 0), (0, 0), (0, 0), (0, 0), (0, 0), (0, 0), (0, 0), (0, 0), (0, 11)], [], [], 0, 0, 42, [(0, .inr (3, (0, 480)))], [.inr (0, (8, 0)), .inr (0, (0, 10))])
noncomputable def rxIRYW_4 (S0 : Nat → Int → Int) (ws : List Int) (S : Nat → Int → Int) (base nc : Int) : Prop := rxIRY_4 S0 ws S base nc ∧ (S 480 14 = 0 ∧ (rzCk S0 → rzDq S0 → rzWr S0 = rzPn → rzCa S0 S (rzPRr (rzCut (S0 485)) (S0 480 8) (S0 480 16) (S0 480 9) (S0 480 21)) (rzP1 (rzCut (S0 485)) (S0 480 8))))
noncomputable def rxmRYW_4 (S0 : Nat → Int → Int) (ws : List Int) (S : Nat → Int → Int) (base nc : Int) : Nat := rxmRY_4 S0 ws S base nc
noncomputable def rxzRYW_4 : rx_Z := ([(0, 0), (0, 0), (0, 0), (0, 0), (0, 0), (0, 0), (0, 0), (0, 0), (0, 110), (0, 11)], [], [], 0, 0, 49, [(0, .inr (3, (0, 480))), (1, .inr (0, (8, 0)))], [.inr (0, (9, 0)), .inr (3, (0, 480))])
noncomputable def rxIRYW_5 (S0 : Nat → Int → Int) (ws : List Int) (S : Nat → Int → Int) (base a : Int) : Prop := rxIRY_5 S0 ws S base a ∧ (S 480 14 = 0 ∧ (rzCk S0 → rzDq S0 → rzWr S0 = rzPn → rzCa S0 S (rzPRr (rzCut (S0 485)) (S0 480 8) (S0 480 16) (S0 480 9) (S0 480 21)) (rzP1 (rzCut (S0 485)) (S0 480 8))))
noncomputable def rxmRYW_5 (S0 : Nat → Int → Int) (ws : List Int) (S : Nat → Int → Int) (base a : Int) : Nat := rxmRY_5 S0 ws S base a
noncomputable def rxzRYW_5 : rx_Z := ([(0, 0), (0, 0), (0, 0), (0, 0), (0, 0), (0, 0), (0, 0), (0, 0), (0, 110), (0, 110)], [], [], 0, 0, 60, [(0, .inr (3, (0, 480))), (1, .inr (0, (8, 0)))], [.inr (3, (0, 480)), .inr (0, (9, 0)), .inr (3, (0, 496))])
noncomputable def rxIRYW_6 (S0 : Nat → Int → Int) (ws : List Int) (S : Nat → Int → Int) (base a v : Int) : Prop := rxIRY_6 S0 ws S base a v ∧ (rzCk S0 → rzDq S0 → rzWr S0 = rzPn → rzCa S0 S (rzPRr (rzCut (S0 485)) (S0 480 8) (S0 480 16) (S0 480 9) (S0 480 21)) (rzP2 (rzCut (S0 485)) (S0 480 8)))
noncomputable def rxmRYW_6 (S0 : Nat → Int → Int) (ws : List Int) (S : Nat → Int → Int) (base a v : Int) : Nat := rxmRY_6 S0 ws S base a v
noncomputable def rxzRYW_6 : rx_Z := ([(0, 0), (0, 0), (0, 0), (0, 0), (0, 0), (0, 0), (0, 0), (0, 0), (0, 110), (0, 110), ((-2147483648), 2147483647)], [], [], 0, 0, 63, [(0, .inr (3, (0, 480))), (1, .inr (0, (8, 0)))], [.inr (0, (10, 0)), .inr (0, (9, 0)), .inr (3, (0, 496))])
noncomputable def rxIRYW_7 (S0 : Nat → Int → Int) (ws : List Int) (S : Nat → Int → Int) (base a v : Int) : Prop := rxIRY_7 S0 ws S base a v ∧ (rzCk S0 → rzDq S0 → rzWr S0 = rzPn → rzCa S0 S (rzPRr (rzCut (S0 485)) (S0 480 8) (S0 480 16) (S0 480 9) (S0 480 21)) (rzP2 (rzCut (S0 485)) (S0 480 8)))
noncomputable def rxmRYW_7 (S0 : Nat → Int → Int) (ws : List Int) (S : Nat → Int → Int) (base a v : Int) : Nat := rxmRY_7 S0 ws S base a v
noncomputable def rxzRYW_7 : rx_Z := ([(0, 0), (0, 0), (0, 0), (0, 0), (0, 0), (0, 0), (0, 0), (0, 0), (0, 110), (0, 110), ((-2147483648), 2147483647)], [], [], 0, 0, 64, [(0, .inr (3, (0, 480))), (1, .inr (0, (8, 0)))], [])
noncomputable def rxIRYW_8 (S0 : Nat → Int → Int) (ws : List Int) (S : Nat → Int → Int) (base : Int) : Prop := rxIRY_8 S0 ws S base ∧ (rzCk S0 → rzDq S0 → rzWr S0 = rzPn → rzCa S0 S (rzPRr (rzCut (S0 485)) (S0 480 8) (S0 480 16) (S0 480 9) (S0 480 21)) (rzP2 (rzCut (S0 485)) (S0 480 8)))
noncomputable def rxmRYW_8 (S0 : Nat → Int → Int) (ws : List Int) (S : Nat → Int → Int) (base : Int) : Nat := rxmRY_8 S0 ws S base
noncomputable def rxzRYW_8 : rx_Z := ([(0, 0), (0, 0), (0, 0), (0, 0), (0, 0), (0, 0), (0, 0), (0, 0), (0, 110)], [], [], 0, 0, 69, [(0, .inr (3, (0, 480))), (1, .inr (0, (8, 0)))], [.inr (1, (0, 52)), .inr (3, (0, 480)), .inr (3, (0, 480))])
noncomputable def rxIRYW_9 (S0 : Nat → Int → Int) (ws : List Int) (S : Nat → Int → Int) (base is : Int) : Prop := rxIRY_9 S0 ws S base is ∧ ((rzCk S0 → rzDq S0 → rzWr S0 = rzPn → rzCa S0 S (rzPRr (rzCut (S0 485)) (S0 480 8) (S0 480 16) (S0 480 9) (S0 480 21)) (rzP2 (rzCut (S0 485)) (S0 480 8))) ∧ (rzDq S → (is = 1 ∧ rzIs (rzCut (S 485)) (S 480 8) rzW_at (S 480 9) = true) ∨ (is = 0 ∧ rzIs (rzCut (S 485)) (S 480 8) rzW_at (S 480 9) = false)))
noncomputable def rxmRYW_9 (S0 : Nat → Int → Int) (ws : List Int) (S : Nat → Int → Int) (base is : Int) : Nat := rxmRY_9 S0 ws S base is
noncomputable def rxzRYW_9 : rx_Z := ([(0, 0), (0, 0), (0, 0), (0, 0), (0, 0), (0, 0), (0, 0), (0, 0), (0, 110), (0, 1)], [], [], 0, 0, 72, [(0, .inr (3, (0, 480))), (1, .inr (0, (8, 0)))], [.inr (0, (9, 0)), .inr (3, (0, 480))])
noncomputable def rxIRYW_10 (S0 : Nat → Int → Int) (ws : List Int) (S : Nat → Int → Int) (base is : Int) : Prop := rxIRY_10 S0 ws S base is ∧ (rzCk S0 → rzDq S0 → rzWr S0 = rzPn → rzCa S0 S (rzPRr (rzCut (S0 485)) (S0 480 8) (S0 480 16) (S0 480 9) (S0 480 21)) (rzP3 (rzCut (S0 485)) (S0 480 8)))
noncomputable def rxmRYW_10 (S0 : Nat → Int → Int) (ws : List Int) (S : Nat → Int → Int) (base is : Int) : Nat := rxmRY_10 S0 ws S base is
noncomputable def rxzRYW_10 : rx_Z := ([(0, 0), (0, 0), (0, 0), (0, 0), (0, 0), (0, 0), (0, 0), (0, 0), (0, 110), (0, 1)], [], [], 0, 0, 75, [(0, .inr (3, (0, 480))), (1, .inr (0, (8, 0)))], [])
noncomputable def rxIRYW_11 (S0 : Nat → Int → Int) (ws : List Int) (S : Nat → Int → Int) (base a : Int) : Prop := rxIRY_11 S0 ws S base a ∧ (S 480 14 = 0 ∧ (rzCk S0 → rzDq S0 → rzWr S0 = rzPn → rzCa S0 S (rzPRr (rzCut (S0 485)) (S0 480 8) (S0 480 16) (S0 480 9) (S0 480 21)) (rzP3 (rzCut (S0 485)) (S0 480 8))))
noncomputable def rxmRYW_11 (S0 : Nat → Int → Int) (ws : List Int) (S : Nat → Int → Int) (base a : Int) : Nat := rxmRY_11 S0 ws S base a
noncomputable def rxzRYW_11 : rx_Z := ([(0, 0), (0, 0), (0, 0), (0, 0), (0, 0), (0, 0), (0, 0), (0, 0), (0, 110), (1, 111)], [], [], 0, 0, 94, [(0, .inr (3, (0, 480))), (1, .inr (0, (8, 0)))], [.inr (3, (0, 480)), .inr (0, (9, 0)), .inr (3, (0, 496))])
noncomputable def rxIRYW_12 (S0 : Nat → Int → Int) (ws : List Int) (S : Nat → Int → Int) (base a v : Int) : Prop := rxIRY_12 S0 ws S base a v ∧ (rzCk S0 → rzDq S0 → rzWr S0 = rzPn → rzCa S0 S (rzPRr (rzCut (S0 485)) (S0 480 8) (S0 480 16) (S0 480 9) (S0 480 21)) (rzP4 (rzCut (S0 485)) (S0 480 8)))
noncomputable def rxmRYW_12 (S0 : Nat → Int → Int) (ws : List Int) (S : Nat → Int → Int) (base a v : Int) : Nat := rxmRY_12 S0 ws S base a v
noncomputable def rxzRYW_12 : rx_Z := ([(0, 0), (0, 0), (0, 0), (0, 0), (0, 0), (0, 0), (0, 0), (0, 0), (0, 110), (1, 111), ((-2147483648), 2147483647)], [], [], 0, 0, 97, [(0, .inr (3, (0, 480))), (1, .inr (0, (8, 0)))], [.inr (0, (10, 0)), .inr (0, (9, 0)), .inr (3, (0, 496))])
noncomputable def rxIRYW_13 (S0 : Nat → Int → Int) (ws : List Int) (S : Nat → Int → Int) (base a v : Int) : Prop := rxIRY_13 S0 ws S base a v ∧ (rzCk S0 → rzDq S0 → rzWr S0 = rzPn → rzCa S0 S (rzPRr (rzCut (S0 485)) (S0 480 8) (S0 480 16) (S0 480 9) (S0 480 21)) (rzP4 (rzCut (S0 485)) (S0 480 8)))
noncomputable def rxmRYW_13 (S0 : Nat → Int → Int) (ws : List Int) (S : Nat → Int → Int) (base a v : Int) : Nat := rxmRY_13 S0 ws S base a v
noncomputable def rxzRYW_13 : rx_Z := ([(0, 0), (0, 0), (0, 0), (0, 0), (0, 0), (0, 0), (0, 0), (0, 0), (0, 110), (1, 111), ((-2147483648), 2147483647)], [], [], 0, 0, 98, [(0, .inr (3, (0, 480))), (1, .inr (0, (8, 0)))], [])
noncomputable def rxIRYW_14 (S0 : Nat → Int → Int) (ws : List Int) (S : Nat → Int → Int) (base a v : Int) : Prop := rxIRY_14 S0 ws S base a v ∧ (rzCk S0 → rzDq S0 → rzWr S0 = rzPn → rzCa S0 S (rzPRr (rzCut (S0 485)) (S0 480 8) (S0 480 16) (S0 480 9) (S0 480 21)) (rzP4 (rzCut (S0 485)) (S0 480 8)))
noncomputable def rxmRYW_14 (S0 : Nat → Int → Int) (ws : List Int) (S : Nat → Int → Int) (base a v : Int) : Nat := rxmRY_14 S0 ws S base a v
noncomputable def rxzRYW_14 : rx_Z := ([(0, 0), (0, 0), (0, 0), (0, 0), (0, 0), (0, 0), (0, 0), (0, 0), (0, 110), (1, 111), (0, 0)], [], [], 0, 0, 97, [(0, .inr (3, (0, 480))), (1, .inr (0, (8, 0)))], [.inr (0, (10, 0)), .inr (0, (9, 0)), .inr (3, (0, 496))])
noncomputable def rxIRYW_15 (S0 : Nat → Int → Int) (ws : List Int) (S : Nat → Int → Int) (base a v : Int) : Prop := rxIRY_15 S0 ws S base a v ∧ (rzCk S0 → rzDq S0 → rzWr S0 = rzPn → rzCa S0 S (rzPRr (rzCut (S0 485)) (S0 480 8) (S0 480 16) (S0 480 9) (S0 480 21)) (rzP4 (rzCut (S0 485)) (S0 480 8)))
noncomputable def rxmRYW_15 (S0 : Nat → Int → Int) (ws : List Int) (S : Nat → Int → Int) (base a v : Int) : Nat := rxmRY_15 S0 ws S base a v
noncomputable def rxzRYW_15 : rx_Z := ([(0, 0), (0, 0), (0, 0), (0, 0), (0, 0), (0, 0), (0, 0), (0, 0), (0, 110), (1, 111), (0, 0)], [], [], 0, 0, 98, [(0, .inr (3, (0, 480))), (1, .inr (0, (8, 0)))], [])
noncomputable def rxIRYW_16 (S0 : Nat → Int → Int) (ws : List Int) (S : Nat → Int → Int) (base dd is : Int) : Prop := rxIRY_16 S0 ws S base dd is ∧ ((rzCk S0 → rzDq S0 → rzWr S0 = rzPn → rzCa S0 S (rzPRr (rzCut (S0 485)) (S0 480 8) (S0 480 16) (S0 480 9) (S0 480 21)) (rzP4 (rzCut (S0 485)) (S0 480 8))) ∧ (rzDq S → (dd = 1 ∧ is = 1 ∧ rzIs (rzCut (S 485)) (S 480 8) rzW_hush (S 480 9) = true) ∨ (dd = 0 ∧ is = 1 ∧ rzIs (rzCut (S 485)) (S 480 8) rzW_say (S 480 9) = true ∧ rzIs (rzCut (S 485)) (S 480 8) rzW_hush (S 480 9) = false) ∨ (dd = 0 ∧ is = 0 ∧ rzIs (rzCut (S 485)) (S 480 8) rzW_hush (S 480 9) = false ∧ rzIs (rzCut (S 485)) (S 480 8) rzW_say (S 480 9) = false)))
noncomputable def rxmRYW_16 (S0 : Nat → Int → Int) (ws : List Int) (S : Nat → Int → Int) (base dd is : Int) : Nat := rxmRY_16 S0 ws S base dd is
noncomputable def rxzRYW_16 : rx_Z := ([(0, 0), (0, 0), (0, 0), (0, 0), (0, 0), (0, 0), (0, 0), (0, 0), (0, 110), (0, 1), (0, 1)], [], [], 0, 0, 126, [(0, .inr (3, (0, 480))), (1, .inr (0, (8, 0))), (2, .inr (0, (9, 0)))], [.inr (0, (10, 0)), .inr (3, (0, 480))])
noncomputable def rxIRYW_17 (S0 : Nat → Int → Int) (ws : List Int) (S : Nat → Int → Int) (base dd is : Int) : Prop := rxIRY_17 S0 ws S base dd is ∧ (rzCk S0 → rzDq S0 → rzWr S0 = rzPn → rzCa S0 S (rzPRr (rzCut (S0 485)) (S0 480 8) (S0 480 16) (S0 480 9) (S0 480 21)) (rzPK (rzCut (S0 485)) (S0 480 8) dd))
noncomputable def rxmRYW_17 (S0 : Nat → Int → Int) (ws : List Int) (S : Nat → Int → Int) (base dd is : Int) : Nat := rxmRY_17 S0 ws S base dd is
noncomputable def rxzRYW_17 : rx_Z := ([(0, 0), (0, 0), (0, 0), (0, 0), (0, 0), (0, 0), (0, 0), (0, 0), (0, 110), (0, 1), (0, 1)], [], [], 0, 0, 129, [(0, .inr (3, (0, 480))), (1, .inr (0, (8, 0))), (2, .inr (0, (9, 0)))], [])
noncomputable def rxIRYW_18 (S0 : Nat → Int → Int) (ws : List Int) (S : Nat → Int → Int) (base dd a v : Int) : Prop := rxIRY_18 S0 ws S base dd a v ∧ (rzCk S0 → rzDq S0 → rzWr S0 = rzPn → rzCa S0 S (rzPRr (rzCut (S0 485)) (S0 480 8) (S0 480 16) (S0 480 9) (S0 480 21)) (rzPK (rzCut (S0 485)) (S0 480 8) dd))
noncomputable def rxmRYW_18 (S0 : Nat → Int → Int) (ws : List Int) (S : Nat → Int → Int) (base dd a v : Int) : Nat := rxmRY_18 S0 ws S base dd a v
noncomputable def rxzRYW_18 : rx_Z := ([(0, 0), (0, 0), (0, 0), (0, 0), (0, 0), (0, 0), (0, 0), (0, 0), (0, 110), (0, 1), (2, 112), (0, 1)], [], [], 0, 0, 145, [(0, .inr (3, (0, 480))), (1, .inr (0, (8, 0))), (2, .inr (0, (9, 0)))], [.inr (0, (11, 0)), .inr (0, (10, 0)), .inr (3, (0, 496))])
noncomputable def rxIRYW_19 (S0 : Nat → Int → Int) (ws : List Int) (S : Nat → Int → Int) (base dd a v : Int) : Prop := rxIRY_19 S0 ws S base dd a v ∧ (rzCk S0 → rzDq S0 → rzWr S0 = rzPn → rzCa S0 S (rzPRr (rzCut (S0 485)) (S0 480 8) (S0 480 16) (S0 480 9) (S0 480 21)) (rzPK (rzCut (S0 485)) (S0 480 8) dd))
noncomputable def rxmRYW_19 (S0 : Nat → Int → Int) (ws : List Int) (S : Nat → Int → Int) (base dd a v : Int) : Nat := rxmRY_19 S0 ws S base dd a v
noncomputable def rxzRYW_19 : rx_Z := ([(0, 0), (0, 0), (0, 0), (0, 0), (0, 0), (0, 0), (0, 0), (0, 0), (0, 110), (0, 1), (2, 112), (0, 1)], [], [], 0, 0, 146, [(0, .inr (3, (0, 480))), (1, .inr (0, (8, 0))), (2, .inr (0, (9, 0)))], [])
noncomputable def rxIRYW_20 (S0 : Nat → Int → Int) (ws : List Int) (S : Nat → Int → Int) (base dd a v : Int) : Prop := rxIRY_20 S0 ws S base dd a v ∧ (rzCk S0 → rzDq S0 → rzWr S0 = rzPn → rzCa S0 S (rzPRr (rzCut (S0 485)) (S0 480 8) (S0 480 16) (S0 480 9) (S0 480 21)) (rzPK (rzCut (S0 485)) (S0 480 8) dd))
noncomputable def rxmRYW_20 (S0 : Nat → Int → Int) (ws : List Int) (S : Nat → Int → Int) (base dd a v : Int) : Nat := rxmRY_20 S0 ws S base dd a v
noncomputable def rxzRYW_20 : rx_Z := ([(0, 0), (0, 0), (0, 0), (0, 0), (0, 0), (0, 0), (0, 0), (0, 0), (0, 110), (0, 1), (3, 113), (0, 400)], [], [], 0, 0, 157, [(0, .inr (3, (0, 480))), (1, .inr (0, (8, 0))), (2, .inr (0, (9, 0)))], [.inr (0, (11, 0)), .inr (0, (10, 0)), .inr (3, (0, 496))])
noncomputable def rxIRYW_21 (S0 : Nat → Int → Int) (ws : List Int) (S : Nat → Int → Int) (base dd a v : Int) : Prop := rxIRY_21 S0 ws S base dd a v ∧ (rzCk S0 → rzDq S0 → rzWr S0 = rzPn → rzCa S0 S (rzPRr (rzCut (S0 485)) (S0 480 8) (S0 480 16) (S0 480 9) (S0 480 21)) (rzPK (rzCut (S0 485)) (S0 480 8) dd))
noncomputable def rxmRYW_21 (S0 : Nat → Int → Int) (ws : List Int) (S : Nat → Int → Int) (base dd a v : Int) : Nat := rxmRY_21 S0 ws S base dd a v
noncomputable def rxzRYW_21 : rx_Z := ([(0, 0), (0, 0), (0, 0), (0, 0), (0, 0), (0, 0), (0, 0), (0, 0), (0, 110), (0, 1), (3, 113), (0, 400)], [], [], 0, 0, 158, [(0, .inr (3, (0, 480))), (1, .inr (0, (8, 0))), (2, .inr (0, (9, 0)))], [])
noncomputable def rxIRYW_22 (S0 : Nat → Int → Int) (ws : List Int) (S : Nat → Int → Int) (base dd : Int) : Prop := rxIRY_22 S0 ws S base dd ∧ (dd = 0 ∧ (rzCk S0 → rzDq S0 → rzWr S0 = rzPn → rzCa S0 S (rzPRr (rzCut (S0 485)) (S0 480 8) (S0 480 16) (S0 480 9) (S0 480 21)) (fun f lf => rzThen (rzEx (rzCut (S0 485)) (S0 480 8) rzPn 0 f lf) (rzGo (rzCut (S0 485)) (S0 480 8)))))
noncomputable def rxmRYW_22 (S0 : Nat → Int → Int) (ws : List Int) (S : Nat → Int → Int) (base dd : Int) : Nat := rxmRY_22 S0 ws S base dd
noncomputable def rxzRYW_22 : rx_Z := ([(0, 0), (0, 0), (0, 0), (0, 0), (0, 0), (0, 0), (0, 0), (0, 0), (0, 110), (0, 1)], [], [], 0, 0, 171, [(0, .inr (3, (0, 480))), (1, .inr (0, (8, 0))), (2, .inr (0, (9, 0)))], [.inr (0, (0, 0)), .inr (3, (0, 480))])
noncomputable def rxIRYW_23 (S0 : Nat → Int → Int) (ws : List Int) (S : Nat → Int → Int) (base dd : Int) : Prop := rxIRY_23 S0 ws S base dd ∧ (dd = 0 ∧ (rzCk S0 → rzDq S0 → rzWr S0 = rzPn → rzCa S0 S (rzPRr (rzCut (S0 485)) (S0 480 8) (S0 480 16) (S0 480 9) (S0 480 21)) (rzGo (rzCut (S0 485)) (S0 480 8))))
noncomputable def rxmRYW_23 (S0 : Nat → Int → Int) (ws : List Int) (S : Nat → Int → Int) (base dd : Int) : Nat := rxmRY_23 S0 ws S base dd
noncomputable def rxzRYW_23 : rx_Z := ([(0, 0), (0, 0), (0, 0), (0, 0), (0, 0), (0, 0), (0, 0), (0, 0), (0, 110), (0, 1)], [], [], 0, 0, 174, [(0, .inr (3, (0, 480))), (1, .inr (0, (8, 0))), (2, .inr (0, (9, 0)))], [])
noncomputable def rxIRYW_24 (S0 : Nat → Int → Int) (ws : List Int) (S : Nat → Int → Int) (base dd a v : Int) : Prop := rxIRY_24 S0 ws S base dd a v ∧ (rzCk S0 → rzDq S0 → rzWr S0 = rzPn → rzCa S0 S (rzPRr (rzCut (S0 485)) (S0 480 8) (S0 480 16) (S0 480 9) (S0 480 21)) (rzPQ (rzCut (S0 485)) (S0 480 8) dd))
noncomputable def rxmRYW_24 (S0 : Nat → Int → Int) (ws : List Int) (S : Nat → Int → Int) (base dd a v : Int) : Nat := rxmRY_24 S0 ws S base dd a v
noncomputable def rxzRYW_24 : rx_Z := ([(0, 0), (0, 0), (0, 0), (0, 0), (0, 0), (0, 0), (0, 0), (0, 0), (0, 110), (0, 1), (4, 114), (0, 400)], [], [], 0, 0, 185, [(0, .inr (3, (0, 480))), (1, .inr (0, (8, 0))), (2, .inr (0, (9, 0)))], [.inr (0, (11, 0)), .inr (0, (10, 0)), .inr (3, (0, 496))])
noncomputable def rxIRYW_25 (S0 : Nat → Int → Int) (ws : List Int) (S : Nat → Int → Int) (base dd a v : Int) : Prop := rxIRY_25 S0 ws S base dd a v ∧ (rzCk S0 → rzDq S0 → rzWr S0 = rzPn → rzCa S0 S (rzPRr (rzCut (S0 485)) (S0 480 8) (S0 480 16) (S0 480 9) (S0 480 21)) (rzPQ (rzCut (S0 485)) (S0 480 8) dd))
noncomputable def rxmRYW_25 (S0 : Nat → Int → Int) (ws : List Int) (S : Nat → Int → Int) (base dd a v : Int) : Nat := rxmRY_25 S0 ws S base dd a v
noncomputable def rxzRYW_25 : rx_Z := ([(0, 0), (0, 0), (0, 0), (0, 0), (0, 0), (0, 0), (0, 0), (0, 0), (0, 110), (0, 1), (4, 114), (0, 400)], [], [], 0, 0, 186, [(0, .inr (3, (0, 480))), (1, .inr (0, (8, 0))), (2, .inr (0, (9, 0)))], [])
noncomputable def rxIRYW_26 (S0 : Nat → Int → Int) (ws : List Int) (S : Nat → Int → Int) (base dd : Int) : Prop := rxIRY_26 S0 ws S base dd ∧ (dd = 0 ∧ (rzCk S0 → rzDq S0 → rzWr S0 = rzPn → rzCa S0 S (rzPRr (rzCut (S0 485)) (S0 480 8) (S0 480 16) (S0 480 9) (S0 480 21)) (rzGo (rzCut (S0 485)) (S0 480 8))) ∧ (rzDq S → rzIs (rzCut (S 485)) (S 480 8) rzW_go (S 480 9) = true))
noncomputable def rxmRYW_26 (S0 : Nat → Int → Int) (ws : List Int) (S : Nat → Int → Int) (base dd : Int) : Nat := rxmRY_26 S0 ws S base dd
noncomputable def rxzRYW_26 : rx_Z := ([(0, 0), (0, 0), (0, 0), (0, 0), (0, 0), (0, 0), (0, 0), (0, 0), (0, 110), (0, 1)], [], [], 0, 0, 208, [(0, .inr (3, (0, 480))), (1, .inr (0, (8, 0))), (2, .inr (0, (9, 0)))], [.inr (3, (0, 480))])
noncomputable def rxIRYW_27 (S0 : Nat → Int → Int) (ws : List Int) (S : Nat → Int → Int) (base dd : Int) : Prop := rxIRY_27 S0 ws S base dd ∧ (rzCk S0 → rzDq S0 → rzWr S0 = rzPn → rzCa S0 S (rzPRr (rzCut (S0 485)) (S0 480 8) (S0 480 16) (S0 480 9) (S0 480 21)) (fun f lf => rzThen (rzEx (rzCut (S0 485)) (S0 480 8) rzPn 0 f lf) (rzIf (rzCut (S0 485)) (S0 480 8) rzPn)))
noncomputable def rxmRYW_27 (S0 : Nat → Int → Int) (ws : List Int) (S : Nat → Int → Int) (base dd : Int) : Nat := rxmRY_27 S0 ws S base dd
noncomputable def rxzRYW_27 : rx_Z := ([(0, 0), (0, 0), (0, 0), (0, 0), (0, 0), (0, 0), (0, 0), (0, 0), (0, 110), (0, 1)], [], [], 0, 0, 211, [(0, .inr (3, (0, 480))), (1, .inr (0, (8, 0))), (2, .inr (0, (9, 0)))], [])
noncomputable def rxIRYW_28 (S0 : Nat → Int → Int) (ws : List Int) (S : Nat → Int → Int) (base dd : Int) : Prop := rxIRY_28 S0 ws S base dd ∧ (rzCk S0 → rzDq S0 → rzWr S0 = rzPn → rzCa S0 S (rzPRr (rzCut (S0 485)) (S0 480 8) (S0 480 16) (S0 480 9) (S0 480 21)) (fun f lf => rzThen (rzEx (rzCut (S0 485)) (S0 480 8) rzPn 0 f lf) (rzIf (rzCut (S0 485)) (S0 480 8) rzPn)))
noncomputable def rxmRYW_28 (S0 : Nat → Int → Int) (ws : List Int) (S : Nat → Int → Int) (base dd : Int) : Nat := rxmRY_28 S0 ws S base dd
noncomputable def rxzRYW_28 : rx_Z := ([(0, 0), (0, 0), (0, 0), (0, 0), (0, 0), (0, 0), (0, 0), (0, 0), (0, 110), (0, 1)], [], [], 0, 0, 213, [(0, .inr (3, (0, 480))), (1, .inr (0, (8, 0))), (2, .inr (0, (9, 0)))], [.inr (0, (0, 0)), .inr (3, (0, 480))])
noncomputable def rxIRYW_29 (S0 : Nat → Int → Int) (ws : List Int) (S : Nat → Int → Int) (base dd : Int) : Prop := rxIRY_29 S0 ws S base dd ∧ (rzCk S0 → rzDq S0 → rzWr S0 = rzPn → rzCa S0 S (rzPRr (rzCut (S0 485)) (S0 480 8) (S0 480 16) (S0 480 9) (S0 480 21)) (rzIf (rzCut (S0 485)) (S0 480 8) rzPn))
noncomputable def rxmRYW_29 (S0 : Nat → Int → Int) (ws : List Int) (S : Nat → Int → Int) (base dd : Int) : Nat := rxmRY_29 S0 ws S base dd
noncomputable def rxzRYW_29 : rx_Z := ([(0, 0), (0, 0), (0, 0), (0, 0), (0, 0), (0, 0), (0, 0), (0, 0), (0, 110), (0, 1)], [], [], 0, 0, 216, [(0, .inr (3, (0, 480))), (1, .inr (0, (8, 0))), (2, .inr (0, (9, 0)))], [])
noncomputable def rxIRYW_30 (S0 : Nat → Int → Int) (ws : List Int) (S : Nat → Int → Int) (base dd a v : Int) : Prop := rxIRY_30 S0 ws S base dd a v ∧ (rzCk S0 → rzDq S0 → rzWr S0 = rzPn → rzCa S0 S (rzPRr (rzCut (S0 485)) (S0 480 8) (S0 480 16) (S0 480 9) (S0 480 21)) (rzIf (rzCut (S0 485)) (S0 480 8) rzPn))
noncomputable def rxmRYW_30 (S0 : Nat → Int → Int) (ws : List Int) (S : Nat → Int → Int) (base dd a v : Int) : Nat := rxmRY_30 S0 ws S base dd a v
noncomputable def rxzRYW_30 : rx_Z := ([(0, 0), (0, 0), (0, 0), (0, 0), (0, 0), (0, 0), (0, 0), (0, 0), (0, 110), (0, 1), (5, 115), (0, 400)], [], [], 0, 0, 227, [(0, .inr (3, (0, 480))), (1, .inr (0, (8, 0))), (2, .inr (0, (9, 0)))], [.inr (0, (11, 0)), .inr (0, (10, 0)), .inr (3, (0, 496))])
noncomputable def rxIRYW_31 (S0 : Nat → Int → Int) (ws : List Int) (S : Nat → Int → Int) (base dd a v : Int) : Prop := rxIRY_31 S0 ws S base dd a v ∧ (rzCk S0 → rzDq S0 → rzWr S0 = rzPn → rzCa S0 S (rzPRr (rzCut (S0 485)) (S0 480 8) (S0 480 16) (S0 480 9) (S0 480 21)) (rzIf (rzCut (S0 485)) (S0 480 8) rzPn))
noncomputable def rxmRYW_31 (S0 : Nat → Int → Int) (ws : List Int) (S : Nat → Int → Int) (base dd a v : Int) : Nat := rxmRY_31 S0 ws S base dd a v
noncomputable def rxzRYW_31 : rx_Z := ([(0, 0), (0, 0), (0, 0), (0, 0), (0, 0), (0, 0), (0, 0), (0, 0), (0, 110), (0, 1), (5, 115), (0, 400)], [], [], 0, 0, 228, [(0, .inr (3, (0, 480))), (1, .inr (0, (8, 0))), (2, .inr (0, (9, 0)))], [])
noncomputable def rxIRYW_32 (S0 : Nat → Int → Int) (ws : List Int) (S : Nat → Int → Int) (base dd : Int) : Prop := rxIRY_32 S0 ws S base dd ∧ ((rzCk S0 → rzDq S0 → rzWr S0 = rzPn → rzCa S0 S (rzPRr (rzCut (S0 485)) (S0 480 8) (S0 480 16) (S0 480 9) (S0 480 21)) (rzIf (rzCut (S0 485)) (S0 480 8) rzPn)) ∧ (rzDq S → rzIs (rzCut (S 485)) (S 480 8) rzW_if (S 480 9) = true))
noncomputable def rxmRYW_32 (S0 : Nat → Int → Int) (ws : List Int) (S : Nat → Int → Int) (base dd : Int) : Nat := rxmRY_32 S0 ws S base dd
noncomputable def rxzRYW_32 : rx_Z := ([(0, 0), (0, 0), (0, 0), (0, 0), (0, 0), (0, 0), (0, 0), (0, 0), (0, 110), (0, 1)], [], [], 0, 0, 246, [(0, .inr (3, (0, 480))), (1, .inr (0, (8, 0))), (2, .inr (0, (9, 0)))], [.inr (3, (0, 480))])
noncomputable def rxIRYW_33 (S0 : Nat → Int → Int) (ws : List Int) (S : Nat → Int → Int) (base dd : Int) : Prop := rxIRY_33 S0 ws S base dd ∧ (rzCk S0 → rzDq S0 → rzWr S0 = rzPn → rzCa S0 S (rzPRr (rzCut (S0 485)) (S0 480 8) (S0 480 16) (S0 480 9) (S0 480 21)) (rzEx (rzCut (S0 485)) (S0 480 8) rzPn 1))
noncomputable def rxmRYW_33 (S0 : Nat → Int → Int) (ws : List Int) (S : Nat → Int → Int) (base dd : Int) : Nat := rxmRY_33 S0 ws S base dd
noncomputable def rxzRYW_33 : rx_Z := ([(0, 0), (0, 0), (0, 0), (0, 0), (0, 0), (0, 0), (0, 0), (0, 0), (0, 110), (0, 1)], [], [], 0, 0, 249, [(0, .inr (3, (0, 480))), (1, .inr (0, (8, 0))), (2, .inr (0, (9, 0)))], [])
noncomputable def rxIRYW_34 (S0 : Nat → Int → Int) (ws : List Int) (S : Nat → Int → Int) (base dd : Int) : Prop := rxIRY_34 S0 ws S base dd ∧ (rzCk S0 → rzDq S0 → rzWr S0 = rzPn → rzCa S0 S (rzPRr (rzCut (S0 485)) (S0 480 8) (S0 480 16) (S0 480 9) (S0 480 21)) (rzEx (rzCut (S0 485)) (S0 480 8) rzPn 1))
noncomputable def rxmRYW_34 (S0 : Nat → Int → Int) (ws : List Int) (S : Nat → Int → Int) (base dd : Int) : Nat := rxmRY_34 S0 ws S base dd
noncomputable def rxzRYW_34 : rx_Z := ([(0, 0), (0, 0), (0, 0), (0, 0), (0, 0), (0, 0), (0, 0), (0, 0), (0, 110), (0, 1)], [], [], 0, 0, 251, [(0, .inr (3, (0, 480))), (1, .inr (0, (8, 0))), (2, .inr (0, (9, 0)))], [.inr (0, (0, 1)), .inr (3, (0, 480))])
noncomputable def rxIRYW_35 (S0 : Nat → Int → Int) (ws : List Int) (S : Nat → Int → Int) (base dd : Int) : Prop := rxIRY_35 S0 ws S base dd ∧ (rzCk S0 → rzDq S0 → rzWr S0 = rzPn → rzCo S0 S (rzPRr (rzCut (S0 485)) (S0 480 8) (S0 480 16) (S0 480 9) (S0 480 21)))
noncomputable def rxmRYW_35 (S0 : Nat → Int → Int) (ws : List Int) (S : Nat → Int → Int) (base dd : Int) : Nat := rxmRY_35 S0 ws S base dd
noncomputable def rxzRYW_35 : rx_Z := ([(0, 0), (0, 0), (0, 0), (0, 0), (0, 0), (0, 0), (0, 0), (0, 0), (0, 110), (0, 1)], [], [], 0, 0, 254, [(0, .inr (3, (0, 480))), (1, .inr (0, (8, 0))), (2, .inr (0, (9, 0)))], [])
noncomputable def rxIRYW_36 (S0 : Nat → Int → Int) (ws : List Int) (S : Nat → Int → Int) (base dd a v : Int) : Prop := rxIRY_36 S0 ws S base dd a v ∧ (rzCk S0 → rzDq S0 → rzWr S0 = rzPn → rzCo S0 S (rzPRr (rzCut (S0 485)) (S0 480 8) (S0 480 16) (S0 480 9) (S0 480 21)))
noncomputable def rxmRYW_36 (S0 : Nat → Int → Int) (ws : List Int) (S : Nat → Int → Int) (base dd a v : Int) : Nat := rxmRY_36 S0 ws S base dd a v
noncomputable def rxzRYW_36 : rx_Z := ([(0, 0), (0, 0), (0, 0), (0, 0), (0, 0), (0, 0), (0, 0), (0, 0), (0, 110), (0, 1), (6, 116), (0, 400)], [], [], 0, 0, 266, [(0, .inr (3, (0, 480))), (1, .inr (0, (8, 0))), (2, .inr (0, (9, 0)))], [.inr (0, (11, 0)), .inr (0, (10, 0)), .inr (3, (0, 496))])
noncomputable def rxIRYW_37 (S0 : Nat → Int → Int) (ws : List Int) (S : Nat → Int → Int) (base dd a v : Int) : Prop := rxIRY_37 S0 ws S base dd a v ∧ (rzCk S0 → rzDq S0 → rzWr S0 = rzPn → rzCo S0 S (rzPRr (rzCut (S0 485)) (S0 480 8) (S0 480 16) (S0 480 9) (S0 480 21)))
noncomputable def rxmRYW_37 (S0 : Nat → Int → Int) (ws : List Int) (S : Nat → Int → Int) (base dd a v : Int) : Nat := rxmRY_37 S0 ws S base dd a v
noncomputable def rxzRYW_37 : rx_Z := ([(0, 0), (0, 0), (0, 0), (0, 0), (0, 0), (0, 0), (0, 0), (0, 0), (0, 110), (0, 1), (6, 116), (0, 400)], [], [], 0, 0, 267, [(0, .inr (3, (0, 480))), (1, .inr (0, (8, 0))), (2, .inr (0, (9, 0)))], [])
noncomputable def rxoRYW_0_0 : bx_HO := (([(0, 0), (0, 0), (0, 0), (0, 0), (0, 0), (0, 0), (0, 0), (0, 0), (0, 3)], [(3, (8, 0), (0, 1))], [(((0, 0), 1851192626986356799632114105031551009123054124018230966928539648000000), .inr (0, (8, 0))), (((0, 480), 11), .inr (0, (8, 0)))], 0, 0, 25, [(0, .inr (3, (0, 480)))], [.inr (0, (0, 0)), .inr (3, (0, 480))]), [], [], [(0, 0), (0, 0), (0, 0), (0, 0), (0, 0), (0, 0), (0, 0), (0, 0), (0, 0)], 1)
noncomputable def rxoRYW_0_1 : bx_HO := (([(0, 0), (0, 0), (0, 0), (0, 0), (0, 0), (0, 0), (0, 0), (0, 0), (1, 1), ((-9223372036854775808), 9223372036854775807)], [(3, (9, 0), (0, 302))], [(((0, 0), 1851192626986356799832820811818326617396875588472066220482363392000000), .inr (1, (9, 0))), (((0, 480), 12), .inr (1, (9, 0))), (((0, 0), 1851192626986356799632114105031551009123054124018230966928539648000000), .inr (0, (8, 0))), (((0, 480), 11), .inr (0, (8, 0)))], 0, 0, 25, [(0, .inr (3, (0, 480)))], [.inr (0, (0, 0)), .inr (3, (0, 480))]), [], [], [(0, 0), (0, 0), (0, 0), (0, 0), (0, 0), (0, 0), (0, 0), (0, 0), (0, 0)], 1)
noncomputable def rxoRYW_0_2 : bx_HO := (([(0, 0), (0, 0), (0, 0), (0, 0), (0, 0), (0, 0), (0, 0), (0, 0), (1, 1), (302, 302), (0, 11)], [], [(((0, 0), 1851192626986356800635647638965429050492161446287407234697658368000000), .inr (0, (10, 0))), (((0, 480), 16), .inr (0, (10, 0))), (((0, 0), 1851192626986356799832820811818326617396875588472066220482363392000000), .inr (1, (9, 0))), (((0, 480), 12), .inr (1, (9, 0))), (((0, 0), 1851192626986356799632114105031551009123054124018230966928539648000000), .inr (0, (8, 0))), (((0, 480), 11), .inr (0, (8, 0)))], 0, 0, 25, [(0, .inr (3, (0, 480)))], [.inr (0, (0, 1)), .inr (3, (0, 480))]), [], [], [(0, 0), (0, 0), (0, 0), (0, 0), (0, 0), (0, 0), (0, 0), (0, 0), (0, 1)], 1)
noncomputable def rxoRYW_0_3 : bx_HO := (([(0, 0), (0, 0), (0, 0), (0, 0), (0, 0), (0, 0), (0, 0), (0, 0), (1, 1), (302, 302), (12, 12)], [], [(((0, 0), 1851192626986356800635647638965429050492161446287407234697658368000000), .inr (0, (10, 0))), (((0, 480), 16), .inr (0, (10, 0))), (((0, 0), 1851192626986356799832820811818326617396875588472066220482363392000000), .inr (1, (9, 0))), (((0, 480), 12), .inr (1, (9, 0))), (((0, 0), 1851192626986356799632114105031551009123054124018230966928539648000000), .inr (0, (8, 0))), (((0, 480), 11), .inr (0, (8, 0)))], 0, 0, 25, [(0, .inr (3, (0, 480)))], [.inr (0, (0, 0)), .inr (3, (0, 480))]), [], [], [(0, 0), (0, 0), (0, 0), (0, 0), (0, 0), (0, 0), (0, 0), (0, 0), (0, 0)], 1)
noncomputable def rxoRYW_2_0 : bx_HO := (([(0, 0), (0, 0), (0, 0), (0, 0), (0, 0), (0, 0), (0, 0), (0, 0), (0, 1), (0, 0), (0, 12)], [], [(((0, 0), 1851192626986356800635647638965429050492161446287407234697658368000000), .inr (0, (10, 0))), (((0, 480), 16), .inr (0, (10, 0))), (((0, 0), 1851192626986356800234234225391877833944518517379736727590010880000000), .inr (0, (9, 0))), (((0, 480), 14), .inr (0, (9, 0)))], 0, 0, 42, [(0, .inr (3, (0, 480)))], [.inr (0, (10, 0)), .inr (0, (0, 10))]), [(10, 0, 11)], [], [(0, 0), (0, 0), (0, 0), (0, 0), (0, 0), (0, 0), (0, 0), (0, 0), (10, 0)], 3)
noncomputable def rxeRYW_2_0 : rx_End × List (Nat × Int × Int) := (([(0, 0), (0, 0), (0, 0), (0, 0), (0, 0), (0, 0), (0, 0), (0, 0), (0, 1), (1, 1)], [(3, (9, 0), (0, 0))], [(((0, 0), 1851192626986356800234234225391877833944518517379736727590010880000000), .inr (0, (9, 0))), (((0, 480), 14), .inr (0, (9, 0)))], none), [])
noncomputable def rxoRYW_3_0 : bx_HO := (([(0, 0), (0, 0), (0, 0), (0, 0), (0, 0), (0, 0), (0, 0), (0, 0), (0, 11), (0, 110), (0, 12)], [(14, (9, 0), (8, 0))], [(((0, 0), 1851192626986356800635647638965429050492161446287407234697658368000000), .inr (0, (10, 0))), (((0, 480), 16), .inr (0, (10, 0)))], 0, 0, 49, [(1, .inr (0, (9, 0))), (0, .inr (3, (0, 480)))], [.inr (0, (10, 0)), .inr (3, (0, 480))]), [(10, 0, 11)], [], [(0, 0), (0, 0), (0, 0), (0, 0), (0, 0), (0, 0), (0, 0), (0, 0), (9, 0), (10, 0)], 4)
noncomputable def rxoRYW_4_0 : bx_HO := (([(0, 0), (0, 0), (0, 0), (0, 0), (0, 0), (0, 0), (0, 0), (0, 0), (0, 110), (0, 11)], [], [(((0, 480), 35), .inr (3, (0, 496))), (((0, 0), 1851192626986356800635647638965429050492161446287407234697658371000000), .inr (0, (9, 1))), (((0, 480), 16), .inr (0, (9, 1)))], 0, 0, 60, [(0, .inr (3, (0, 480))), (1, .inr (0, (8, 0)))], [.inr (3, (0, 480)), .inr (0, (8, 0)), .inr (3, (0, 496))]), [], [], [(0, 0), (0, 0), (0, 0), (0, 0), (0, 0), (0, 0), (0, 0), (0, 0), (8, 0), (8, 0)], 5)
noncomputable def rxoRYW_7_0 : bx_HO := (([(0, 0), (0, 0), (0, 0), (0, 0), (0, 0), (0, 0), (0, 0), (0, 0), (0, 110), (0, 110), ((-2147483648), 2147483647)], [], [], 0, 0, 69, [(0, .inr (3, (0, 480))), (1, .inr (0, (8, 0)))], [.inr (1, (0, 52)), .inr (3, (0, 480)), .inr (3, (0, 480))]), [], [], [(0, 0), (0, 0), (0, 0), (0, 0), (0, 0), (0, 0), (0, 0), (0, 0), (8, 0)], 8)
noncomputable def rxoRYW_10_0 : bx_HO := (([(0, 0), (0, 0), (0, 0), (0, 0), (0, 0), (0, 0), (0, 0), (0, 0), (0, 110), (0, 1), (1, 1)], [(3, (10, 0), (0, 0))], [(((0, 0), 1851192626986356800234234225391877833944518517379736727590010880000000), .inr (0, (10, 0))), (((0, 480), 14), .inr (0, (10, 0))), (((0, 480), 35), .inr (3, (0, 496)))], 0, 0, 97, [(0, .inr (3, (0, 480))), (1, .inr (0, (8, 0)))], [.inr (0, (0, 0)), .inr (0, (8, 1)), .inr (3, (0, 496))]), [], [], [(0, 0), (0, 0), (0, 0), (0, 0), (0, 0), (0, 0), (0, 0), (0, 0), (8, 0), (8, 1), (0, 0)], 14)
noncomputable def rxoRYW_10_1 : bx_HO := (([(0, 0), (0, 0), (0, 0), (0, 0), (0, 0), (0, 0), (0, 0), (0, 0), (0, 110), (0, 1), (0, 0)], [], [(((0, 0), 1851192626986356800234234225391877833944518517379736727590010880000000), .inr (0, (10, 0))), (((0, 480), 14), .inr (0, (10, 0))), (((0, 480), 35), .inr (3, (0, 496)))], 0, 0, 94, [(0, .inr (3, (0, 480))), (1, .inr (0, (8, 0)))], [.inr (3, (0, 480)), .inr (0, (8, 1)), .inr (3, (0, 496))]), [], [], [(0, 0), (0, 0), (0, 0), (0, 0), (0, 0), (0, 0), (0, 0), (0, 0), (8, 0), (8, 1)], 11)
noncomputable def rxoRYW_13_0 : bx_HO := (([(0, 0), (0, 0), (0, 0), (0, 0), (0, 0), (0, 0), (0, 0), (0, 0), (0, 110), (1, 111), ((-2147483648), 2147483647), (0, 3)], [(3, (11, 0), (0, 1)), (3, (11, 0), (0, 1))], [(((0, 0), 1851192626986356799632114105031551009123054124018230966928539648000000), .inr (0, (11, 0))), (((0, 480), 11), .inr (0, (11, 0)))], 0, 0, 126, [(2, .inr (0, (0, 0))), (0, .inr (3, (0, 480))), (1, .inr (0, (8, 0)))], [.inr (0, (0, 0)), .inr (3, (0, 480))]), [], [], [(0, 0), (0, 0), (0, 0), (0, 0), (0, 0), (0, 0), (0, 0), (0, 0), (8, 0), (0, 0), (0, 0)], 16)
noncomputable def rxoRYW_13_1 : bx_HO := (([(0, 0), (0, 0), (0, 0), (0, 0), (0, 0), (0, 0), (0, 0), (0, 0), (0, 110), (1, 111), ((-2147483648), 2147483647), (1, 1), ((-9223372036854775808), 9223372036854775807)], [(3, (12, 0), (0, 19513)), (3, (12, 0), (0, 284264))], [(((0, 0), 1851192626986356799832820811818326617396875588472066220482363392000000), .inr (1, (12, 0))), (((0, 480), 12), .inr (1, (12, 0))), (((0, 0), 1851192626986356799632114105031551009123054124018230966928539648000000), .inr (0, (11, 0))), (((0, 480), 11), .inr (0, (11, 0)))], 0, 0, 126, [(2, .inr (0, (0, 0))), (0, .inr (3, (0, 480))), (1, .inr (0, (8, 0)))], [.inr (0, (0, 0)), .inr (3, (0, 480))]), [], [], [(0, 0), (0, 0), (0, 0), (0, 0), (0, 0), (0, 0), (0, 0), (0, 0), (8, 0), (0, 0), (0, 0)], 16)
noncomputable def rxoRYW_13_2 : bx_HO := (([(0, 0), (0, 0), (0, 0), (0, 0), (0, 0), (0, 0), (0, 0), (0, 0), (0, 110), (1, 111), ((-2147483648), 2147483647), (1, 1), (19513, 19513)], [(3, (12, 0), (0, 284264))], [(((0, 0), 1851192626986356799832820811818326617396875588472066220482363392000000), .inr (1, (12, 0))), (((0, 480), 12), .inr (1, (12, 0))), (((0, 0), 1851192626986356799632114105031551009123054124018230966928539648000000), .inr (0, (11, 0))), (((0, 480), 11), .inr (0, (11, 0)))], 0, 0, 126, [(2, .inr (0, (0, 0))), (0, .inr (3, (0, 480))), (1, .inr (0, (8, 0)))], [.inr (0, (0, 1)), .inr (3, (0, 480))]), [], [], [(0, 0), (0, 0), (0, 0), (0, 0), (0, 0), (0, 0), (0, 0), (0, 0), (8, 0), (0, 0), (0, 1)], 16)
noncomputable def rxoRYW_13_3 : bx_HO := (([(0, 0), (0, 0), (0, 0), (0, 0), (0, 0), (0, 0), (0, 0), (0, 0), (0, 110), (1, 111), ((-2147483648), 2147483647), (1, 1), (284264, 284264)], [], [(((0, 0), 1851192626986356799832820811818326617396875588472066220482363392000000), .inr (1, (12, 0))), (((0, 480), 12), .inr (1, (12, 0))), (((0, 0), 1851192626986356799632114105031551009123054124018230966928539648000000), .inr (0, (11, 0))), (((0, 480), 11), .inr (0, (11, 0)))], 0, 0, 126, [(2, .inr (0, (0, 1))), (0, .inr (3, (0, 480))), (1, .inr (0, (8, 0)))], [.inr (0, (0, 1)), .inr (3, (0, 480))]), [], [], [(0, 0), (0, 0), (0, 0), (0, 0), (0, 0), (0, 0), (0, 0), (0, 0), (8, 0), (0, 1), (0, 1)], 16)
noncomputable def rxoRYW_15_0 : bx_HO := (([(0, 0), (0, 0), (0, 0), (0, 0), (0, 0), (0, 0), (0, 0), (0, 0), (0, 110), (1, 111), (0, 0), (0, 3)], [(3, (11, 0), (0, 1)), (3, (11, 0), (0, 1))], [(((0, 0), 1851192626986356799632114105031551009123054124018230966928539648000000), .inr (0, (11, 0))), (((0, 480), 11), .inr (0, (11, 0)))], 0, 0, 126, [(2, .inr (0, (0, 0))), (0, .inr (3, (0, 480))), (1, .inr (0, (8, 0)))], [.inr (0, (0, 0)), .inr (3, (0, 480))]), [], [], [(0, 0), (0, 0), (0, 0), (0, 0), (0, 0), (0, 0), (0, 0), (0, 0), (8, 0), (0, 0), (0, 0)], 16)
noncomputable def rxoRYW_15_1 : bx_HO := (([(0, 0), (0, 0), (0, 0), (0, 0), (0, 0), (0, 0), (0, 0), (0, 0), (0, 110), (1, 111), (0, 0), (1, 1), ((-9223372036854775808), 9223372036854775807)], [(3, (12, 0), (0, 19513)), (3, (12, 0), (0, 284264))], [(((0, 0), 1851192626986356799832820811818326617396875588472066220482363392000000), .inr (1, (12, 0))), (((0, 480), 12), .inr (1, (12, 0))), (((0, 0), 1851192626986356799632114105031551009123054124018230966928539648000000), .inr (0, (11, 0))), (((0, 480), 11), .inr (0, (11, 0)))], 0, 0, 126, [(2, .inr (0, (0, 0))), (0, .inr (3, (0, 480))), (1, .inr (0, (8, 0)))], [.inr (0, (0, 0)), .inr (3, (0, 480))]), [], [], [(0, 0), (0, 0), (0, 0), (0, 0), (0, 0), (0, 0), (0, 0), (0, 0), (8, 0), (0, 0), (0, 0)], 16)
noncomputable def rxoRYW_15_2 : bx_HO := (([(0, 0), (0, 0), (0, 0), (0, 0), (0, 0), (0, 0), (0, 0), (0, 0), (0, 110), (1, 111), (0, 0), (1, 1), (19513, 19513)], [(3, (12, 0), (0, 284264))], [(((0, 0), 1851192626986356799832820811818326617396875588472066220482363392000000), .inr (1, (12, 0))), (((0, 480), 12), .inr (1, (12, 0))), (((0, 0), 1851192626986356799632114105031551009123054124018230966928539648000000), .inr (0, (11, 0))), (((0, 480), 11), .inr (0, (11, 0)))], 0, 0, 126, [(2, .inr (0, (0, 0))), (0, .inr (3, (0, 480))), (1, .inr (0, (8, 0)))], [.inr (0, (0, 1)), .inr (3, (0, 480))]), [], [], [(0, 0), (0, 0), (0, 0), (0, 0), (0, 0), (0, 0), (0, 0), (0, 0), (8, 0), (0, 0), (0, 1)], 16)
noncomputable def rxoRYW_15_3 : bx_HO := (([(0, 0), (0, 0), (0, 0), (0, 0), (0, 0), (0, 0), (0, 0), (0, 0), (0, 110), (1, 111), (0, 0), (1, 1), (284264, 284264)], [], [(((0, 0), 1851192626986356799832820811818326617396875588472066220482363392000000), .inr (1, (12, 0))), (((0, 480), 12), .inr (1, (12, 0))), (((0, 0), 1851192626986356799632114105031551009123054124018230966928539648000000), .inr (0, (11, 0))), (((0, 480), 11), .inr (0, (11, 0)))], 0, 0, 126, [(2, .inr (0, (0, 1))), (0, .inr (3, (0, 480))), (1, .inr (0, (8, 0)))], [.inr (0, (0, 1)), .inr (3, (0, 480))]), [], [], [(0, 0), (0, 0), (0, 0), (0, 0), (0, 0), (0, 0), (0, 0), (0, 0), (8, 0), (0, 1), (0, 1)], 16)
noncomputable def rxoRYW_17_0 : bx_HO := (([(0, 0), (0, 0), (0, 0), (0, 0), (0, 0), (0, 0), (0, 0), (0, 0), (0, 110), (1, 1), (0, 1)], [(3, (9, 0), (0, 0))], [(((0, 480), 35), .inr (3, (0, 496)))], 0, 0, 145, [(0, .inr (3, (0, 480))), (1, .inr (0, (8, 0))), (2, .inr (0, (9, 0)))], [.inr (0, (0, 1)), .inr (0, (8, 2)), .inr (3, (0, 496))]), [], [], [(0, 0), (0, 0), (0, 0), (0, 0), (0, 0), (0, 0), (0, 0), (0, 0), (8, 0), (9, 0), (8, 2), (0, 1)], 18)
noncomputable def rxoRYW_17_1 : bx_HO := (([(0, 0), (0, 0), (0, 0), (0, 0), (0, 0), (0, 0), (0, 0), (0, 0), (0, 110), (0, 0), (0, 1)], [], [(((0, 480), 35), .inr (3, (0, 496)))], 0, 0, 145, [(0, .inr (3, (0, 480))), (1, .inr (0, (8, 0))), (2, .inr (0, (9, 0)))], [.inr (0, (0, 0)), .inr (0, (8, 2)), .inr (3, (0, 496))]), [], [], [(0, 0), (0, 0), (0, 0), (0, 0), (0, 0), (0, 0), (0, 0), (0, 0), (8, 0), (9, 0), (8, 2), (0, 0)], 18)
noncomputable def rxoRYW_19_0 : bx_HO := (([(0, 0), (0, 0), (0, 0), (0, 0), (0, 0), (0, 0), (0, 0), (0, 0), (0, 110), (0, 1), (2, 112), (0, 1), (0, 400)], [], [(((0, 0), 1851192626986356801037061052538980267039804375195077741805305856000000), .inr (0, (12, 0))), (((0, 480), 18), .inr (0, (12, 0))), (((0, 480), 35), .inr (3, (0, 496)))], 0, 0, 157, [(0, .inr (3, (0, 480))), (1, .inr (0, (8, 0))), (2, .inr (0, (9, 0)))], [.inr (0, (12, 0)), .inr (0, (8, 3)), .inr (3, (0, 496))]), [], [], [(0, 0), (0, 0), (0, 0), (0, 0), (0, 0), (0, 0), (0, 0), (0, 0), (8, 0), (9, 0), (8, 3), (12, 0)], 20)
noncomputable def rxoRYW_21_0 : bx_HO := (([(0, 0), (0, 0), (0, 0), (0, 0), (0, 0), (0, 0), (0, 0), (0, 0), (0, 110), (0, 0), (3, 113), (0, 400), (0, 0)], [], [(((0, 0), 1851192626986356800234234225391877833944518517379736727590010880000000), .inr (0, (12, 0))), (((0, 480), 14), .inr (0, (12, 0)))], 0, 0, 171, [(0, .inr (3, (0, 480))), (1, .inr (0, (8, 0))), (2, .inr (0, (9, 0)))], [.inr (0, (0, 0)), .inr (3, (0, 480))]), [], [], [(0, 0), (0, 0), (0, 0), (0, 0), (0, 0), (0, 0), (0, 0), (0, 0), (8, 0), (9, 0)], 22)
noncomputable def rxoRYW_21_1 : bx_HO := (([(0, 0), (0, 0), (0, 0), (0, 0), (0, 0), (0, 0), (0, 0), (0, 0), (0, 110), (1, 1), (3, 113), (0, 400), (0, 0), (0, 400)], [(3, (9, 0), (0, 0))], [(((0, 0), 1851192626986356801037061052538980267039804375195077741805305856000000), .inr (0, (13, 0))), (((0, 480), 18), .inr (0, (13, 0))), (((0, 480), 35), .inr (3, (0, 496))), (((0, 0), 1851192626986356800234234225391877833944518517379736727590010880000000), .inr (0, (12, 0))), (((0, 480), 14), .inr (0, (12, 0)))], 0, 0, 185, [(0, .inr (3, (0, 480))), (1, .inr (0, (8, 0))), (2, .inr (0, (9, 0)))], [.inr (0, (13, 0)), .inr (0, (8, 4)), .inr (3, (0, 496))]), [], [], [(0, 0), (0, 0), (0, 0), (0, 0), (0, 0), (0, 0), (0, 0), (0, 0), (8, 0), (9, 0), (8, 4), (13, 0)], 24)
noncomputable def rxoRYW_21_2 : bx_HO := (([(0, 0), (0, 0), (0, 0), (0, 0), (0, 0), (0, 0), (0, 0), (0, 0), (0, 110), (0, 1), (3, 113), (0, 400), (1, 1), (0, 400)], [(3, (12, 0), (0, 0))], [(((0, 0), 1851192626986356801037061052538980267039804375195077741805305856000000), .inr (0, (13, 0))), (((0, 480), 18), .inr (0, (13, 0))), (((0, 480), 35), .inr (3, (0, 496))), (((0, 0), 1851192626986356800234234225391877833944518517379736727590010880000000), .inr (0, (12, 0))), (((0, 480), 14), .inr (0, (12, 0)))], 0, 0, 185, [(0, .inr (3, (0, 480))), (1, .inr (0, (8, 0))), (2, .inr (0, (9, 0)))], [.inr (0, (13, 0)), .inr (0, (8, 4)), .inr (3, (0, 496))]), [], [], [(0, 0), (0, 0), (0, 0), (0, 0), (0, 0), (0, 0), (0, 0), (0, 0), (8, 0), (9, 0), (8, 4), (13, 0)], 24)
noncomputable def rxoRYW_23_0 : bx_HO := (([(0, 0), (0, 0), (0, 0), (0, 0), (0, 0), (0, 0), (0, 0), (0, 0), (0, 110), (0, 1), (0, 400)], [], [(((0, 0), 1851192626986356801037061052538980267039804375195077741805305856000000), .inr (0, (10, 0))), (((0, 480), 18), .inr (0, (10, 0))), (((0, 480), 35), .inr (3, (0, 496)))], 0, 0, 185, [(0, .inr (3, (0, 480))), (1, .inr (0, (8, 0))), (2, .inr (0, (9, 0)))], [.inr (0, (10, 0)), .inr (0, (8, 4)), .inr (3, (0, 496))]), [], [], [(0, 0), (0, 0), (0, 0), (0, 0), (0, 0), (0, 0), (0, 0), (0, 0), (8, 0), (9, 0), (8, 4), (10, 0)], 24)
noncomputable def rxoRYW_25_0 : bx_HO := (([(0, 0), (0, 0), (0, 0), (0, 0), (0, 0), (0, 0), (0, 0), (0, 0), (0, 110), (0, 0), (4, 114), (0, 400), (0, 0), (0, 3), (0, 400)], [(3, (13, 0), (0, 1))], [(((0, 0), 1851192626986356801037061052538980267039804375195077741805305856000000), .inr (0, (14, 0))), (((0, 480), 18), .inr (0, (14, 0))), (((0, 480), 35), .inr (3, (0, 496))), (((0, 0), 1851192626986356799632114105031551009123054124018230966928539648000000), .inr (0, (13, 0))), (((0, 480), 11), .inr (0, (13, 0))), (((0, 0), 1851192626986356800234234225391877833944518517379736727590010880000000), .inr (0, (12, 0))), (((0, 480), 14), .inr (0, (12, 0)))], 0, 0, 227, [(0, .inr (3, (0, 480))), (1, .inr (0, (8, 0))), (2, .inr (0, (9, 0)))], [.inr (0, (14, 0)), .inr (0, (8, 5)), .inr (3, (0, 496))]), [], [], [(0, 0), (0, 0), (0, 0), (0, 0), (0, 0), (0, 0), (0, 0), (0, 0), (8, 0), (9, 0), (8, 5), (14, 0)], 30)
noncomputable def rxoRYW_25_1 : bx_HO := (([(0, 0), (0, 0), (0, 0), (0, 0), (0, 0), (0, 0), (0, 0), (0, 0), (0, 110), (0, 0), (4, 114), (0, 400), (0, 0), (1, 1), ((-9223372036854775808), 9223372036854775807), (0, 400)], [(3, (14, 0), (0, 239))], [(((0, 0), 1851192626986356801037061052538980267039804375195077741805305856000000), .inr (0, (15, 0))), (((0, 480), 18), .inr (0, (15, 0))), (((0, 480), 35), .inr (3, (0, 496))), (((0, 0), 1851192626986356799832820811818326617396875588472066220482363392000000), .inr (1, (14, 0))), (((0, 480), 12), .inr (1, (14, 0))), (((0, 0), 1851192626986356799632114105031551009123054124018230966928539648000000), .inr (0, (13, 0))), (((0, 480), 11), .inr (0, (13, 0))), (((0, 0), 1851192626986356800234234225391877833944518517379736727590010880000000), .inr (0, (12, 0))), (((0, 480), 14), .inr (0, (12, 0)))], 0, 0, 227, [(0, .inr (3, (0, 480))), (1, .inr (0, (8, 0))), (2, .inr (0, (9, 0)))], [.inr (0, (15, 0)), .inr (0, (8, 5)), .inr (3, (0, 496))]), [], [], [(0, 0), (0, 0), (0, 0), (0, 0), (0, 0), (0, 0), (0, 0), (0, 0), (8, 0), (9, 0), (8, 5), (15, 0)], 30)
noncomputable def rxoRYW_25_2 : bx_HO := (([(0, 0), (0, 0), (0, 0), (0, 0), (0, 0), (0, 0), (0, 0), (0, 0), (0, 110), (0, 0), (4, 114), (0, 400), (0, 0), (1, 1), (239, 239)], [], [(((0, 0), 1851192626986356799832820811818326617396875588472066220482363392000000), .inr (1, (14, 0))), (((0, 480), 12), .inr (1, (14, 0))), (((0, 0), 1851192626986356799632114105031551009123054124018230966928539648000000), .inr (0, (13, 0))), (((0, 480), 11), .inr (0, (13, 0))), (((0, 0), 1851192626986356800234234225391877833944518517379736727590010880000000), .inr (0, (12, 0))), (((0, 480), 14), .inr (0, (12, 0)))], 0, 0, 208, [(0, .inr (3, (0, 480))), (1, .inr (0, (8, 0))), (2, .inr (0, (9, 0)))], [.inr (3, (0, 480))]), [], [], [(0, 0), (0, 0), (0, 0), (0, 0), (0, 0), (0, 0), (0, 0), (0, 0), (8, 0), (9, 0)], 26)
noncomputable def rxoRYW_25_3 : bx_HO := (([(0, 0), (0, 0), (0, 0), (0, 0), (0, 0), (0, 0), (0, 0), (0, 0), (0, 110), (1, 1), (4, 114), (0, 400), (0, 0), (0, 400)], [(3, (9, 0), (0, 0))], [(((0, 0), 1851192626986356801037061052538980267039804375195077741805305856000000), .inr (0, (13, 0))), (((0, 480), 18), .inr (0, (13, 0))), (((0, 480), 35), .inr (3, (0, 496))), (((0, 0), 1851192626986356800234234225391877833944518517379736727590010880000000), .inr (0, (12, 0))), (((0, 480), 14), .inr (0, (12, 0)))], 0, 0, 227, [(0, .inr (3, (0, 480))), (1, .inr (0, (8, 0))), (2, .inr (0, (9, 0)))], [.inr (0, (13, 0)), .inr (0, (8, 5)), .inr (3, (0, 496))]), [], [], [(0, 0), (0, 0), (0, 0), (0, 0), (0, 0), (0, 0), (0, 0), (0, 0), (8, 0), (9, 0), (8, 5), (13, 0)], 30)
noncomputable def rxoRYW_25_4 : bx_HO := (([(0, 0), (0, 0), (0, 0), (0, 0), (0, 0), (0, 0), (0, 0), (0, 0), (0, 110), (0, 1), (4, 114), (0, 400), (1, 1), (0, 400)], [(3, (12, 0), (0, 0))], [(((0, 0), 1851192626986356801037061052538980267039804375195077741805305856000000), .inr (0, (13, 0))), (((0, 480), 18), .inr (0, (13, 0))), (((0, 480), 35), .inr (3, (0, 496))), (((0, 0), 1851192626986356800234234225391877833944518517379736727590010880000000), .inr (0, (12, 0))), (((0, 480), 14), .inr (0, (12, 0)))], 0, 0, 227, [(0, .inr (3, (0, 480))), (1, .inr (0, (8, 0))), (2, .inr (0, (9, 0)))], [.inr (0, (13, 0)), .inr (0, (8, 5)), .inr (3, (0, 496))]), [], [], [(0, 0), (0, 0), (0, 0), (0, 0), (0, 0), (0, 0), (0, 0), (0, 0), (8, 0), (9, 0), (8, 5), (13, 0)], 30)
noncomputable def rxoRYW_27_0 : bx_HO := (([(0, 0), (0, 0), (0, 0), (0, 0), (0, 0), (0, 0), (0, 0), (0, 0), (0, 110), (0, 1)], [], [], 0, 0, 213, [(0, .inr (3, (0, 480))), (1, .inr (0, (8, 0))), (2, .inr (0, (9, 0)))], [.inr (0, (0, 0)), .inr (3, (0, 480))]), [], [], [(0, 0), (0, 0), (0, 0), (0, 0), (0, 0), (0, 0), (0, 0), (0, 0), (8, 0), (9, 0)], 28)
noncomputable def rxoRYW_29_0 : bx_HO := (([(0, 0), (0, 0), (0, 0), (0, 0), (0, 0), (0, 0), (0, 0), (0, 0), (0, 110), (0, 1), (0, 400)], [], [(((0, 0), 1851192626986356801037061052538980267039804375195077741805305856000000), .inr (0, (10, 0))), (((0, 480), 18), .inr (0, (10, 0))), (((0, 480), 35), .inr (3, (0, 496)))], 0, 0, 227, [(0, .inr (3, (0, 480))), (1, .inr (0, (8, 0))), (2, .inr (0, (9, 0)))], [.inr (0, (10, 0)), .inr (0, (8, 5)), .inr (3, (0, 496))]), [], [], [(0, 0), (0, 0), (0, 0), (0, 0), (0, 0), (0, 0), (0, 0), (0, 0), (8, 0), (9, 0), (8, 5), (10, 0)], 30)
noncomputable def rxoRYW_31_0 : bx_HO := (([(0, 0), (0, 0), (0, 0), (0, 0), (0, 0), (0, 0), (0, 0), (0, 0), (0, 110), (0, 1), (5, 115), (0, 400), (0, 0), (0, 3), (0, 400)], [(3, (13, 0), (0, 1))], [(((0, 0), 1851192626986356801037061052538980267039804375195077741805305856000000), .inr (0, (14, 0))), (((0, 480), 18), .inr (0, (14, 0))), (((0, 480), 35), .inr (3, (0, 496))), (((0, 0), 1851192626986356799632114105031551009123054124018230966928539648000000), .inr (0, (13, 0))), (((0, 480), 11), .inr (0, (13, 0))), (((0, 0), 1851192626986356800234234225391877833944518517379736727590010880000000), .inr (0, (12, 0))), (((0, 480), 14), .inr (0, (12, 0)))], 0, 0, 266, [(0, .inr (3, (0, 480))), (1, .inr (0, (8, 0))), (2, .inr (0, (9, 0)))], [.inr (0, (14, 0)), .inr (0, (8, 6)), .inr (3, (0, 496))]), [], [], [(0, 0), (0, 0), (0, 0), (0, 0), (0, 0), (0, 0), (0, 0), (0, 0), (8, 0), (9, 0), (8, 6), (14, 0)], 36)
noncomputable def rxoRYW_31_1 : bx_HO := (([(0, 0), (0, 0), (0, 0), (0, 0), (0, 0), (0, 0), (0, 0), (0, 0), (0, 110), (0, 1), (5, 115), (0, 400), (0, 0), (1, 1), ((-9223372036854775808), 9223372036854775807), (0, 400)], [(3, (14, 0), (0, 294))], [(((0, 0), 1851192626986356801037061052538980267039804375195077741805305856000000), .inr (0, (15, 0))), (((0, 480), 18), .inr (0, (15, 0))), (((0, 480), 35), .inr (3, (0, 496))), (((0, 0), 1851192626986356799832820811818326617396875588472066220482363392000000), .inr (1, (14, 0))), (((0, 480), 12), .inr (1, (14, 0))), (((0, 0), 1851192626986356799632114105031551009123054124018230966928539648000000), .inr (0, (13, 0))), (((0, 480), 11), .inr (0, (13, 0))), (((0, 0), 1851192626986356800234234225391877833944518517379736727590010880000000), .inr (0, (12, 0))), (((0, 480), 14), .inr (0, (12, 0)))], 0, 0, 266, [(0, .inr (3, (0, 480))), (1, .inr (0, (8, 0))), (2, .inr (0, (9, 0)))], [.inr (0, (15, 0)), .inr (0, (8, 6)), .inr (3, (0, 496))]), [], [], [(0, 0), (0, 0), (0, 0), (0, 0), (0, 0), (0, 0), (0, 0), (0, 0), (8, 0), (9, 0), (8, 6), (15, 0)], 36)
noncomputable def rxoRYW_31_2 : bx_HO := (([(0, 0), (0, 0), (0, 0), (0, 0), (0, 0), (0, 0), (0, 0), (0, 0), (0, 110), (0, 1), (5, 115), (0, 400), (0, 0), (1, 1), (294, 294)], [], [(((0, 0), 1851192626986356799832820811818326617396875588472066220482363392000000), .inr (1, (14, 0))), (((0, 480), 12), .inr (1, (14, 0))), (((0, 0), 1851192626986356799632114105031551009123054124018230966928539648000000), .inr (0, (13, 0))), (((0, 480), 11), .inr (0, (13, 0))), (((0, 0), 1851192626986356800234234225391877833944518517379736727590010880000000), .inr (0, (12, 0))), (((0, 480), 14), .inr (0, (12, 0)))], 0, 0, 246, [(0, .inr (3, (0, 480))), (1, .inr (0, (8, 0))), (2, .inr (0, (9, 0)))], [.inr (3, (0, 480))]), [], [], [(0, 0), (0, 0), (0, 0), (0, 0), (0, 0), (0, 0), (0, 0), (0, 0), (8, 0), (9, 0)], 32)
noncomputable def rxoRYW_31_3 : bx_HO := (([(0, 0), (0, 0), (0, 0), (0, 0), (0, 0), (0, 0), (0, 0), (0, 0), (0, 110), (0, 1), (5, 115), (0, 400), (1, 1), (0, 400)], [(3, (12, 0), (0, 0))], [(((0, 0), 1851192626986356801037061052538980267039804375195077741805305856000000), .inr (0, (13, 0))), (((0, 480), 18), .inr (0, (13, 0))), (((0, 480), 35), .inr (3, (0, 496))), (((0, 0), 1851192626986356800234234225391877833944518517379736727590010880000000), .inr (0, (12, 0))), (((0, 480), 14), .inr (0, (12, 0)))], 0, 0, 266, [(0, .inr (3, (0, 480))), (1, .inr (0, (8, 0))), (2, .inr (0, (9, 0)))], [.inr (0, (13, 0)), .inr (0, (8, 6)), .inr (3, (0, 496))]), [], [], [(0, 0), (0, 0), (0, 0), (0, 0), (0, 0), (0, 0), (0, 0), (0, 0), (8, 0), (9, 0), (8, 6), (13, 0)], 36)
noncomputable def rxoRYW_33_0 : bx_HO := (([(0, 0), (0, 0), (0, 0), (0, 0), (0, 0), (0, 0), (0, 0), (0, 0), (0, 110), (0, 1)], [], [], 0, 0, 251, [(0, .inr (3, (0, 480))), (1, .inr (0, (8, 0))), (2, .inr (0, (9, 0)))], [.inr (0, (0, 1)), .inr (3, (0, 480))]), [], [], [(0, 0), (0, 0), (0, 0), (0, 0), (0, 0), (0, 0), (0, 0), (0, 0), (8, 0), (9, 0)], 34)
noncomputable def rxoRYW_35_0 : bx_HO := (([(0, 0), (0, 0), (0, 0), (0, 0), (0, 0), (0, 0), (0, 0), (0, 0), (0, 110), (0, 1), (0, 400)], [], [(((0, 0), 1851192626986356801037061052538980267039804375195077741805305856000000), .inr (0, (10, 0))), (((0, 480), 18), .inr (0, (10, 0))), (((0, 480), 35), .inr (3, (0, 496)))], 0, 0, 266, [(0, .inr (3, (0, 480))), (1, .inr (0, (8, 0))), (2, .inr (0, (9, 0)))], [.inr (0, (10, 0)), .inr (0, (8, 6)), .inr (3, (0, 496))]), [], [], [(0, 0), (0, 0), (0, 0), (0, 0), (0, 0), (0, 0), (0, 0), (0, 0), (8, 0), (9, 0), (8, 6), (10, 0)], 36)
noncomputable def rxeRYW_37_0 : rx_End × List (Nat × Int × Int) := (([(0, 0), (0, 0), (0, 0), (0, 0), (0, 0), (0, 0), (0, 0), (0, 0), (0, 110), (0, 1), (6, 116), (0, 400)], [], [], none), [])
noncomputable def rxYRYW : List bx_HE := [(rxzRYW_0, [rxoRYW_0_0, rxoRYW_0_1, rxoRYW_0_2, rxoRYW_0_3], []), (rxzRYW_1, [], []), (rxzRYW_2, [rxoRYW_2_0], [rxeRYW_2_0]), (rxzRYW_3, [rxoRYW_3_0], []), (rxzRYW_4, [rxoRYW_4_0], []), (rxzRYW_5, [], []), (rxzRYW_6, [], []), (rxzRYW_7, [rxoRYW_7_0], []), (rxzRYW_8, [], []), (rxzRYW_9, [], []), (rxzRYW_10, [rxoRYW_10_0, rxoRYW_10_1], []), (rxzRYW_11, [], []), (rxzRYW_12, [], []), (rxzRYW_13, [rxoRYW_13_0, rxoRYW_13_1, rxoRYW_13_2, rxoRYW_13_3], []), (rxzRYW_14, [], []), (rxzRYW_15, [rxoRYW_15_0, rxoRYW_15_1, rxoRYW_15_2, rxoRYW_15_3], []), (rxzRYW_16, [], []), (rxzRYW_17, [rxoRYW_17_0, rxoRYW_17_1], []), (rxzRYW_18, [], []), (rxzRYW_19, [rxoRYW_19_0], []), (rxzRYW_20, [], []), (rxzRYW_21, [rxoRYW_21_0, rxoRYW_21_1, rxoRYW_21_2], []), (rxzRYW_22, [], []), (rxzRYW_23, [rxoRYW_23_0], []), (rxzRYW_24, [], []), (rxzRYW_25, [rxoRYW_25_0, rxoRYW_25_1, rxoRYW_25_2, rxoRYW_25_3, rxoRYW_25_4], []), (rxzRYW_26, [], []), (rxzRYW_27, [rxoRYW_27_0], []), (rxzRYW_28, [], []), (rxzRYW_29, [rxoRYW_29_0], []), (rxzRYW_30, [], []), (rxzRYW_31, [rxoRYW_31_0, rxoRYW_31_1, rxoRYW_31_2, rxoRYW_31_3], []), (rxzRYW_32, [], []), (rxzRYW_33, [rxoRYW_33_0], []), (rxzRYW_34, [], []), (rxzRYW_35, [rxoRYW_35_0], []), (rxzRYW_36, [], []), (rxzRYW_37, [], [rxeRYW_37_0])]
noncomputable def rxURYW (q : bx_HE) : Bool := Nat.beq (rx_zpc q.1) 25 || Nat.beq (rx_zpc q.1) 60 || Nat.beq (rx_zpc q.1) 63 || Nat.beq (rx_zpc q.1) 69 || Nat.beq (rx_zpc q.1) 72 || Nat.beq (rx_zpc q.1) 94 || Nat.beq (rx_zpc q.1) 97 || Nat.beq (rx_zpc q.1) 97 || Nat.beq (rx_zpc q.1) 126 || Nat.beq (rx_zpc q.1) 145 || Nat.beq (rx_zpc q.1) 157 || Nat.beq (rx_zpc q.1) 171 || Nat.beq (rx_zpc q.1) 185 || Nat.beq (rx_zpc q.1) 208 || Nat.beq (rx_zpc q.1) 213 || Nat.beq (rx_zpc q.1) 227 || Nat.beq (rx_zpc q.1) 246 || Nat.beq (rx_zpc q.1) 251 || Nat.beq (rx_zpc q.1) 266
noncomputable def rxYBRYW : bx_B := (rxV, rxNP, rxDmf, bx_mdH rxCRYW.2.2.1)
set_option maxRecDepth 100000 in
theorem rxYcRYW : bx_chkH rxYBRYW rxM295 rxCRYW rxYRYW (rxURYW, fun cut z => rx_ex2 (rxCT rxYBRYW rxCnE) cut 30000 rxCRYW.2.2.2.1 295 z) = true := by decide +kernel
noncomputable def rxIRYW (S0 : Nat → Int → Int) (ws : List Int) (i : Nat) : bx_SP := fun S r => match i with | 0 => rxIRYW_0 S0 ws S | 1 => rxIRYW_1 S0 ws S (r 8) | 2 => rxIRYW_2 S0 ws S (r 8) | 3 => rxIRYW_3 S0 ws S (r 8) | 4 => rxIRYW_4 S0 ws S (r 8) (r 9) | 5 => rxIRYW_5 S0 ws S (r 8) (r 9) | 6 => rxIRYW_6 S0 ws S (r 8) (r 9) (r 10) | 7 => rxIRYW_7 S0 ws S (r 8) (r 9) (r 10) | 8 => rxIRYW_8 S0 ws S (r 8) | 9 => rxIRYW_9 S0 ws S (r 8) (r 9) | 10 => rxIRYW_10 S0 ws S (r 8) (r 9) | 11 => rxIRYW_11 S0 ws S (r 8) (r 9) | 12 => rxIRYW_12 S0 ws S (r 8) (r 9) (r 10) | 13 => rxIRYW_13 S0 ws S (r 8) (r 9) (r 10) | 14 => rxIRYW_14 S0 ws S (r 8) (r 9) (r 10) | 15 => rxIRYW_15 S0 ws S (r 8) (r 9) (r 10) | 16 => rxIRYW_16 S0 ws S (r 8) (r 9) (r 10) | 17 => rxIRYW_17 S0 ws S (r 8) (r 9) (r 10) | 18 => rxIRYW_18 S0 ws S (r 8) (r 9) (r 10) (r 11) | 19 => rxIRYW_19 S0 ws S (r 8) (r 9) (r 10) (r 11) | 20 => rxIRYW_20 S0 ws S (r 8) (r 9) (r 10) (r 11) | 21 => rxIRYW_21 S0 ws S (r 8) (r 9) (r 10) (r 11) | 22 => rxIRYW_22 S0 ws S (r 8) (r 9) | 23 => rxIRYW_23 S0 ws S (r 8) (r 9) | 24 => rxIRYW_24 S0 ws S (r 8) (r 9) (r 10) (r 11) | 25 => rxIRYW_25 S0 ws S (r 8) (r 9) (r 10) (r 11) | 26 => rxIRYW_26 S0 ws S (r 8) (r 9) | 27 => rxIRYW_27 S0 ws S (r 8) (r 9) | 28 => rxIRYW_28 S0 ws S (r 8) (r 9) | 29 => rxIRYW_29 S0 ws S (r 8) (r 9) | 30 => rxIRYW_30 S0 ws S (r 8) (r 9) (r 10) (r 11) | 31 => rxIRYW_31 S0 ws S (r 8) (r 9) (r 10) (r 11) | 32 => rxIRYW_32 S0 ws S (r 8) (r 9) | 33 => rxIRYW_33 S0 ws S (r 8) (r 9) | 34 => rxIRYW_34 S0 ws S (r 8) (r 9) | 35 => rxIRYW_35 S0 ws S (r 8) (r 9) | 36 => rxIRYW_36 S0 ws S (r 8) (r 9) (r 10) (r 11) | 37 => rxIRYW_37 S0 ws S (r 8) (r 9) (r 10) (r 11) | _ => False
noncomputable def rxmRYW (S0 : Nat → Int → Int) (ws : List Int) (i : Nat) (S : Nat → Int → Int) (r : Nat → Int) : Nat := match i with | 0 => rxmRYW_0 S0 ws S | 1 => rxmRYW_1 S0 ws S (r 8) | 2 => rxmRYW_2 S0 ws S (r 8) | 3 => rxmRYW_3 S0 ws S (r 8) | 4 => rxmRYW_4 S0 ws S (r 8) (r 9) | 5 => rxmRYW_5 S0 ws S (r 8) (r 9) | 6 => rxmRYW_6 S0 ws S (r 8) (r 9) (r 10) | 7 => rxmRYW_7 S0 ws S (r 8) (r 9) (r 10) | 8 => rxmRYW_8 S0 ws S (r 8) | 9 => rxmRYW_9 S0 ws S (r 8) (r 9) | 10 => rxmRYW_10 S0 ws S (r 8) (r 9) | 11 => rxmRYW_11 S0 ws S (r 8) (r 9) | 12 => rxmRYW_12 S0 ws S (r 8) (r 9) (r 10) | 13 => rxmRYW_13 S0 ws S (r 8) (r 9) (r 10) | 14 => rxmRYW_14 S0 ws S (r 8) (r 9) (r 10) | 15 => rxmRYW_15 S0 ws S (r 8) (r 9) (r 10) | 16 => rxmRYW_16 S0 ws S (r 8) (r 9) (r 10) | 17 => rxmRYW_17 S0 ws S (r 8) (r 9) (r 10) | 18 => rxmRYW_18 S0 ws S (r 8) (r 9) (r 10) (r 11) | 19 => rxmRYW_19 S0 ws S (r 8) (r 9) (r 10) (r 11) | 20 => rxmRYW_20 S0 ws S (r 8) (r 9) (r 10) (r 11) | 21 => rxmRYW_21 S0 ws S (r 8) (r 9) (r 10) (r 11) | 22 => rxmRYW_22 S0 ws S (r 8) (r 9) | 23 => rxmRYW_23 S0 ws S (r 8) (r 9) | 24 => rxmRYW_24 S0 ws S (r 8) (r 9) (r 10) (r 11) | 25 => rxmRYW_25 S0 ws S (r 8) (r 9) (r 10) (r 11) | 26 => rxmRYW_26 S0 ws S (r 8) (r 9) | 27 => rxmRYW_27 S0 ws S (r 8) (r 9) | 28 => rxmRYW_28 S0 ws S (r 8) (r 9) | 29 => rxmRYW_29 S0 ws S (r 8) (r 9) | 30 => rxmRYW_30 S0 ws S (r 8) (r 9) (r 10) (r 11) | 31 => rxmRYW_31 S0 ws S (r 8) (r 9) (r 10) (r 11) | 32 => rxmRYW_32 S0 ws S (r 8) (r 9) | 33 => rxmRYW_33 S0 ws S (r 8) (r 9) | 34 => rxmRYW_34 S0 ws S (r 8) (r 9) | 35 => rxmRYW_35 S0 ws S (r 8) (r 9) | 36 => rxmRYW_36 S0 ws S (r 8) (r 9) (r 10) (r 11) | 37 => rxmRYW_37 S0 ws S (r 8) (r 9) (r 10) (r 11) | _ => 0
noncomputable def rxPRYW (S0 : Nat → Int → Int) (ws : List Int) : Prop := rxPRY S0 ws
noncomputable def rxPSRYW (S0 : Nat → Int → Int) (ws : List Int) (S : Nat → Int → Int) (w : Option Int) : Prop := w = none ∧ rxPSRY S0 ws S w ∧ (rzCk S0 → rzDq S0 → rzWr S0 = rzPn → rzCo S0 S (rzPRr (rzCut (S0 485)) (S0 480 8) (S0 480 16) (S0 480 9) (S0 480 21)))
theorem rxkRYW_1 {S0 : Nat → Int → Int} {ws : List Int} {S : Nat → Int → Int} {is : Int} (hP : rxPRYW S0 ws) (hin : bx_same rxL (bx_mdl rxCRYW.2.2.1) S0 S) (I0 : bx_Inv rxL S) (hinv : rxIRYW_1 S0 ws S is) (l8 : 0 ≤ is) (u8 : is ≤ 1) : rxPMUW S [480, is] ∧ ∀ (S_p : Nat → Int → Int), rxPSMUW S [480, is] S_p none → bx_Inv rxL S_p → bx_same rxL (bx_mdl rxCMUW.2.2.1) S S_p → rxIRYW_2 S0 ws S_p is ∧ rxmRYW_2 S0 ws S_p is < rxmRYW_1 S0 ws S is := by
  obtain ⟨hI, hx⟩ := hinv
  have g_ := rxkRY_1 hP hin I0 hI l8 u8
  exact ⟨g_.1, fun S_p hq I1 hsm => ⟨⟨(g_.2 S_p hq.2.1 I1 hsm).1, (fun c hD hW => by
    have e := hI.1
    subst e
    have hi := hx hD
    have h14 := hP.2.1
    obtain ⟨-, -, is2, hw2, hc⟩ := hq.2.1
    have he : is = is2 := Option.some.inj (congrArg (fun l : List Int => l[1]?) hw2)
    have h0 : rzCa S S (rzPRr (rzCut (S 485)) (S 480 8) (S 480 16) (S 480 9) (S 480 21)) (rzPRr (rzCut (S 485)) (S 480 8) (S 480 16)) := ⟨fun _ => ⟨rzKr_rf, hD, fun r q => q⟩, fun z => absurd h14 z⟩
    refine rzCa_mu (is := is) h0 (show S_p 480 21 = S 480 21 from hsm 480 21 (by decide) (by decide) (by decide +kernel)) hq.2.2 ⟨fun z => by omega, fun z => by omega⟩ (fun z i1 r q => ?_) fun z i1 => ?_
    · rcases hi with v | v
      · exact Or.inl ⟨decide_eq_true v.2.1, Or.inl ⟨v.2.2, q⟩⟩
      · omega
    · rcases hi with v | v
      · omega
      · by_cases z2 : S 480 16 < 12
        · rcases v.2 with y | y
          · exact absurd z2 y
          · exact Or.inl ⟨decide_eq_true z2, Or.inr ⟨y, rfl⟩⟩
        · exact Or.inr ⟨decide_eq_false z2, rfl⟩)⟩, (g_.2 S_p hq.2.1 I1 hsm).2⟩⟩
theorem rxsRYW_1 {X : (Nat → Int → Int) → Prop} {S0 : Nat → Int → Int} {ws : List Int} (hP : rxPRYW S0 ws) : rx_obK X S0 rxCRYW.2.2.1 rxCMUW.2.2.1 (rxIRYW S0 ws) (rxmRYW S0 ws) 1 2 rxzRYW_1 rxzRYW_2 [.inr (3, (0, 480)), .inr (0, (8, 0))] none rxPMUW rxPSMUW := by
  intro S r hinv hXS I0 hin hs_ hf_
  have b_ := bx_bds_sat hs_
  have f_ := bx_fcl_ok hs_.1 hf_
  obtain ⟨⟨l8, u8⟩, -⟩ := b_
  have g := rxkRYW_1 hP hin I0 hinv l8 u8
  have ea : List.map (bx_num r) [.inr (3, (0, 480)), .inr (0, (8, 0))] = [480, (r 8)] := by
    simp only [List.map_cons, List.map_nil, bx_xv_ok hs_.1]
    rfl
  rw [ea]
  refine ⟨g.1, fun S_p w r_p hPS hX_p I1 hsm hr hw hs_p => ?_⟩
  have hw : w = none := hPS.1
  subst hw
  have g2 := g.2 S_p hPS I1 hsm
  show rxIRYW_2 S0 ws S_p (r_p 8) ∧ rxmRYW_2 S0 ws S_p (r_p 8) < _
  rw [hr 8 (by decide)]
  exact g2
theorem rxkRYW_5 {S0 : Nat → Int → Int} {ws : List Int} {S : Nat → Int → Int} {base a : Int} (hP : rxPRYW S0 ws) (hin : bx_same rxL (bx_mdl rxCRYW.2.2.1) S0 S) (I0 : bx_Inv rxL S) (hinv : rxIRYW_5 S0 ws S base a) (l8 : 0 ≤ base) (u8 : base ≤ 110) (l9 : 0 ≤ a) (u9 : a ≤ 110) : rxPRPLW S [480] ∧ ∀ (S_p : Nat → Int → Int) (v : Int), (-2147483648) ≤ v → v ≤ 2147483647 → rxPSRPLW S [480] S_p (some v) → bx_Inv rxL S_p → bx_same rxL (bx_mdl rxCRPLW.2.2.1) S S_p → rxIRYW_6 S0 ws S_p base a v ∧ rxmRYW_6 S0 ws S_p base a v < rxmRYW_5 S0 ws S base a := by
  obtain ⟨hI, hx⟩ := hinv
  have g_ := rxkRY_5 hP hin I0 hI l8 u8 l9 u9
  exact ⟨g_.1, fun S_p v l_ u_ hq I1 hsm => ⟨⟨(g_.2 S_p v l_ u_ hq.1 I1 hsm).1, (fun c hD hW => by
    have h := hx.2 c hD hW
    obtain ⟨a, b, -⟩ := h.1 hx.1
    exact rzCa_pl h hx.1 (show S_p 480 21 = S 480 21 from hsm 480 21 (by decide) (by decide) (by decide +kernel)) (hq.2 b hx.1) (fun p r q => Or.inl ⟨p, q⟩) fun p => Or.inr ⟨p, rfl⟩)⟩, (g_.2 S_p v l_ u_ hq.1 I1 hsm).2⟩⟩
theorem rxsRYW_5 {X : (Nat → Int → Int) → Prop} {S0 : Nat → Int → Int} {ws : List Int} (hP : rxPRYW S0 ws) : rx_obK X S0 rxCRYW.2.2.1 rxCRPLW.2.2.1 (rxIRYW S0 ws) (rxmRYW S0 ws) 5 6 rxzRYW_5 rxzRYW_6 [.inr (3, (0, 480))] (some 10) rxPRPLW rxPSRPLW := by
  intro S r hinv hXS I0 hin hs_ hf_
  have b_ := bx_bds_sat hs_
  have f_ := bx_fcl_ok hs_.1 hf_
  obtain ⟨⟨l8, u8⟩, ⟨l9, u9⟩, -⟩ := b_
  have g := rxkRYW_5 hP hin I0 hinv l8 u8 l9 u9
  have ea : List.map (bx_num r) [.inr (3, (0, 480))] = [480] := by
    simp only [List.map_cons, List.map_nil, bx_xv_ok hs_.1]
    rfl
  rw [ea]
  refine ⟨g.1, fun S_p w r_p hPS hX_p I1 hsm hr hw hs_p => ?_⟩
  have hw := hw _ rfl
  subst hw
  have b_p := hs_p.2.2 10 _ _ rfl
  have g2 := g.2 S_p (r_p 10) b_p.1 b_p.2 hPS I1 hsm
  show rxIRYW_6 S0 ws S_p (r_p 8) (r_p 9) (r_p 10) ∧ rxmRYW_6 S0 ws S_p (r_p 8) (r_p 9) (r_p 10) < _
  rw [hr 8 (by decide), hr 9 (by decide)]
  exact g2
theorem rxtRYW_6 {S0 : Nat → Int → Int} {ws : List Int} {S : Nat → Int → Int} {base a v : Int} (hP : rxPRYW S0 ws) (hin : bx_same rxL (bx_mdl rxCRYW.2.2.1) S0 S) (I0 : bx_Inv rxL S) (hinv : rxIRYW_6 S0 ws S base a v) (l8 : 0 ≤ base) (u8 : base ≤ 110) (l9 : 0 ≤ a) (u9 : a ≤ 110) (l10 : (-2147483648) ≤ v) (u10 : v ≤ 2147483647) : bx_okT rxL (rxL.2.2.1 496 a) v ∧ rxIRYW_7 S0 ws (bx_up S 496 a v) base a v ∧ rxmRYW_7 S0 ws (bx_up S 496 a v) base a v < rxmRYW_6 S0 ws S base a v := by
  obtain ⟨hI, hx⟩ := hinv
  obtain ⟨a_, c_, d_⟩ := rxtRY_6 hP hin I0 hI l8 u8 l9 u9 l10 u10
  exact ⟨a_, ⟨c_, (fun c hD hW => rzCa_c (hx c hD hW) ⟨congrArg rzCut (funext fun _ => (bx_up_ne (by omega))), (bx_up_ne (by omega)), (bx_up_ne (by omega)), (bx_up_ne (by omega)), fun c => rzCk_c c (funext fun _ => (bx_up_ne (by omega))) (funext fun _ => (bx_up_ne (by omega)))⟩ ⟨(bx_up_ne (by omega)), (bx_up_ne (by omega)), (bx_up_ne (by omega)), (bx_up_ne (by omega))⟩ ((bx_up_ne (by omega))) ((bx_up_ne (by omega))))⟩, d_⟩
theorem rxsRYW_6 {X : (Nat → Int → Int) → Prop} {S0 : Nat → Int → Int} {ws : List Int} (hP : rxPRYW S0 ws) (hX : ∀ S S1 : Nat → Int → Int, X S → bx_same rxL (bx_mdl rxCRYW.2.2.1) S S1 → X S1) : rx_obS X S0 rxCRYW.2.2.1 (rxIRYW S0 ws) (rxmRYW S0 ws) 6 7 rxzRYW_6 496 9 10 := by
  intro S r hinv hXS I0 hin hs_ hf_
  have b_ := bx_bds_sat hs_
  have f_ := bx_fcl_ok hs_.1 hf_
  obtain ⟨⟨l8, u8⟩, ⟨l9, u9⟩, ⟨l10, u10⟩, -⟩ := b_
  have g := rxtRYW_6 hP hin I0 hinv l8 u8 l9 u9 l10 u10
  exact ⟨g.1, g.2.1, g.2.2, hX _ _ hXS (rx_same_upR (fun _ _ _ _ _ => rfl) (tc := 0) (n := 120) (g := 77) rfl (by decide +kernel) l9 u9), rx_same_upR hin (tc := 0) (n := 120) (g := 77) rfl (by decide +kernel) l9 u9⟩
theorem rxkRYW_8 {S0 : Nat → Int → Int} {ws : List Int} {S : Nat → Int → Int} {base : Int} (hP : rxPRYW S0 ws) (hin : bx_same rxL (bx_mdl rxCRYW.2.2.1) S0 S) (I0 : bx_Inv rxL S) (hinv : rxIRYW_8 S0 ws S base) (l8 : 0 ≤ base) (u8 : base ≤ 110) : rxPIWW S [480, 52] ∧ ∀ (S_p : Nat → Int → Int) (is : Int), 0 ≤ is → is ≤ 1 → rxPSIWW S [480, 52] S_p (some is) → bx_Inv rxL S_p → bx_same rxL (bx_mdl rxCIWW.2.2.1) S S_p → rxIRYW_9 S0 ws S_p base is ∧ rxmRYW_9 S0 ws S_p base is < rxmRYW_8 S0 ws S base := by
  obtain ⟨hI, hx⟩ := hinv
  have g_ := rxkRY_8 hP hin I0 hI l8 u8
  exact ⟨g_.1, fun S_p is l_ u_ hq I1 hsm => ⟨⟨(g_.2 S_p is l_ u_ hq.1 I1 hsm).1, (by
    obtain ⟨e2, -⟩ := hq.1
    subst e2
    obtain ⟨x, hw2, hc⟩ := hq.2
    have e3 : (52 : Int) = x := Option.some.inj (congrArg (fun l : List Int => l[1]?) hw2)
    subst e3
    refine ⟨hx, fun b => ?_⟩
    rcases hc with ⟨c1, c2⟩ | ⟨c1, c2⟩
    · exact Or.inl ⟨Option.some.inj c1, (rzDq_is b (w := rzW_at) (v := 52) (by decide) (by decide)).mp c2⟩
    · exact Or.inr ⟨Option.some.inj c1, rzDq_no b (w := rzW_at) (v := 52) (by decide) (by decide) c2⟩)⟩, (g_.2 S_p is l_ u_ hq.1 I1 hsm).2⟩⟩
theorem rxsRYW_8 {X : (Nat → Int → Int) → Prop} {S0 : Nat → Int → Int} {ws : List Int} (hP : rxPRYW S0 ws) : rx_obK X S0 rxCRYW.2.2.1 rxCIWW.2.2.1 (rxIRYW S0 ws) (rxmRYW S0 ws) 8 9 rxzRYW_8 rxzRYW_9 [.inr (3, (0, 480)), .inr (1, (0, 52))] (some 9) rxPIWW rxPSIWW := by
  intro S r hinv hXS I0 hin hs_ hf_
  have b_ := bx_bds_sat hs_
  have f_ := bx_fcl_ok hs_.1 hf_
  obtain ⟨⟨l8, u8⟩, -⟩ := b_
  have g := rxkRYW_8 hP hin I0 hinv l8 u8
  have ea : List.map (bx_num r) [.inr (3, (0, 480)), .inr (1, (0, 52))] = [480, 52] := by
    simp only [List.map_cons, List.map_nil, bx_xv_ok hs_.1]
    rfl
  rw [ea]
  refine ⟨g.1, fun S_p w r_p hPS hX_p I1 hsm hr hw hs_p => ?_⟩
  have hw := hw _ rfl
  subst hw
  have b_p := hs_p.2.2 9 _ _ rfl
  have g2 := g.2 S_p (r_p 9) b_p.1 b_p.2 hPS I1 hsm
  show rxIRYW_9 S0 ws S_p (r_p 8) (r_p 9) ∧ rxmRYW_9 S0 ws S_p (r_p 8) (r_p 9) < _
  rw [hr 8 (by decide)]
  exact g2
theorem rxkRYW_9 {S0 : Nat → Int → Int} {ws : List Int} {S : Nat → Int → Int} {base is : Int} (hP : rxPRYW S0 ws) (hin : bx_same rxL (bx_mdl rxCRYW.2.2.1) S0 S) (I0 : bx_Inv rxL S) (hinv : rxIRYW_9 S0 ws S base is) (l8 : 0 ≤ base) (u8 : base ≤ 110) (l9 : 0 ≤ is) (u9 : is ≤ 1) : rxPMUW S [480, is] ∧ ∀ (S_p : Nat → Int → Int), rxPSMUW S [480, is] S_p none → bx_Inv rxL S_p → bx_same rxL (bx_mdl rxCMUW.2.2.1) S S_p → rxIRYW_10 S0 ws S_p base is ∧ rxmRYW_10 S0 ws S_p base is < rxmRYW_9 S0 ws S base is := by
  obtain ⟨hI, hx⟩ := hinv
  have g_ := rxkRY_9 hP hin I0 hI l8 u8 l9 u9
  exact ⟨g_.1, fun S_p hq I1 hsm => ⟨⟨(g_.2 S_p hq.2.1 I1 hsm).1, (fun c hD hW => by
    have h := hx.1 c hD hW
    obtain ⟨-, -, is2, hw2, hc⟩ := hq.2.1
    have he : is = is2 := Option.some.inj (congrArg (fun l : List Int => l[1]?) hw2)
    refine rzCa_mu (is := is) h (show S_p 480 21 = S 480 21 from hsm 480 21 (by decide) (by decide) (by decide +kernel)) hq.2.2 ⟨fun z => by omega, fun z => by omega⟩ (fun z i1 r q => ?_) fun z i1 => ?_
    · obtain ⟨a, b, -⟩ := h.1 z
      have y := hx.2 b
      rw [a.1, a.2.1] at y
      rcases y with v | v
      · exact Or.inl ⟨v.2, q⟩
      · omega
    · obtain ⟨a, b, -⟩ := h.1 z
      have y := hx.2 b
      rw [a.1, a.2.1] at y
      rcases y with v | v
      · omega
      · exact Or.inr ⟨v.2, rfl⟩)⟩, (g_.2 S_p hq.2.1 I1 hsm).2⟩⟩
theorem rxsRYW_9 {X : (Nat → Int → Int) → Prop} {S0 : Nat → Int → Int} {ws : List Int} (hP : rxPRYW S0 ws) : rx_obK X S0 rxCRYW.2.2.1 rxCMUW.2.2.1 (rxIRYW S0 ws) (rxmRYW S0 ws) 9 10 rxzRYW_9 rxzRYW_10 [.inr (3, (0, 480)), .inr (0, (9, 0))] none rxPMUW rxPSMUW := by
  intro S r hinv hXS I0 hin hs_ hf_
  have b_ := bx_bds_sat hs_
  have f_ := bx_fcl_ok hs_.1 hf_
  obtain ⟨⟨l8, u8⟩, ⟨l9, u9⟩, -⟩ := b_
  have g := rxkRYW_9 hP hin I0 hinv l8 u8 l9 u9
  have ea : List.map (bx_num r) [.inr (3, (0, 480)), .inr (0, (9, 0))] = [480, (r 9)] := by
    simp only [List.map_cons, List.map_nil, bx_xv_ok hs_.1]
    rfl
  rw [ea]
  refine ⟨g.1, fun S_p w r_p hPS hX_p I1 hsm hr hw hs_p => ?_⟩
  have hw : w = none := hPS.1
  subst hw
  have g2 := g.2 S_p hPS I1 hsm
  show rxIRYW_10 S0 ws S_p (r_p 8) (r_p 9) ∧ rxmRYW_10 S0 ws S_p (r_p 8) (r_p 9) < _
  rw [hr 8 (by decide), hr 9 (by decide)]
  exact g2
theorem rxkRYW_11 {S0 : Nat → Int → Int} {ws : List Int} {S : Nat → Int → Int} {base a : Int} (hP : rxPRYW S0 ws) (hin : bx_same rxL (bx_mdl rxCRYW.2.2.1) S0 S) (I0 : bx_Inv rxL S) (hinv : rxIRYW_11 S0 ws S base a) (l8 : 0 ≤ base) (u8 : base ≤ 110) (l9 : 1 ≤ a) (u9 : a ≤ 111) : rxPRPLW S [480] ∧ ∀ (S_p : Nat → Int → Int) (v : Int), (-2147483648) ≤ v → v ≤ 2147483647 → rxPSRPLW S [480] S_p (some v) → bx_Inv rxL S_p → bx_same rxL (bx_mdl rxCRPLW.2.2.1) S S_p → rxIRYW_12 S0 ws S_p base a v ∧ rxmRYW_12 S0 ws S_p base a v < rxmRYW_11 S0 ws S base a := by
  obtain ⟨hI, hx⟩ := hinv
  have g_ := rxkRY_11 hP hin I0 hI l8 u8 l9 u9
  exact ⟨g_.1, fun S_p v l_ u_ hq I1 hsm => ⟨⟨(g_.2 S_p v l_ u_ hq.1 I1 hsm).1, (fun c hD hW => by
    have h := hx.2 c hD hW
    obtain ⟨a, b, -⟩ := h.1 hx.1
    exact rzCa_pl h hx.1 (show S_p 480 21 = S 480 21 from hsm 480 21 (by decide) (by decide) (by decide +kernel)) (hq.2 b hx.1) (fun p r q => Or.inl ⟨p, q⟩) fun p => Or.inr ⟨p, rfl⟩)⟩, (g_.2 S_p v l_ u_ hq.1 I1 hsm).2⟩⟩
theorem rxsRYW_11 {X : (Nat → Int → Int) → Prop} {S0 : Nat → Int → Int} {ws : List Int} (hP : rxPRYW S0 ws) : rx_obK X S0 rxCRYW.2.2.1 rxCRPLW.2.2.1 (rxIRYW S0 ws) (rxmRYW S0 ws) 11 12 rxzRYW_11 rxzRYW_12 [.inr (3, (0, 480))] (some 10) rxPRPLW rxPSRPLW := by
  intro S r hinv hXS I0 hin hs_ hf_
  have b_ := bx_bds_sat hs_
  have f_ := bx_fcl_ok hs_.1 hf_
  obtain ⟨⟨l8, u8⟩, ⟨l9, u9⟩, -⟩ := b_
  have g := rxkRYW_11 hP hin I0 hinv l8 u8 l9 u9
  have ea : List.map (bx_num r) [.inr (3, (0, 480))] = [480] := by
    simp only [List.map_cons, List.map_nil, bx_xv_ok hs_.1]
    rfl
  rw [ea]
  refine ⟨g.1, fun S_p w r_p hPS hX_p I1 hsm hr hw hs_p => ?_⟩
  have hw := hw _ rfl
  subst hw
  have b_p := hs_p.2.2 10 _ _ rfl
  have g2 := g.2 S_p (r_p 10) b_p.1 b_p.2 hPS I1 hsm
  show rxIRYW_12 S0 ws S_p (r_p 8) (r_p 9) (r_p 10) ∧ rxmRYW_12 S0 ws S_p (r_p 8) (r_p 9) (r_p 10) < _
  rw [hr 8 (by decide), hr 9 (by decide)]
  exact g2
theorem rxtRYW_12 {S0 : Nat → Int → Int} {ws : List Int} {S : Nat → Int → Int} {base a v : Int} (hP : rxPRYW S0 ws) (hin : bx_same rxL (bx_mdl rxCRYW.2.2.1) S0 S) (I0 : bx_Inv rxL S) (hinv : rxIRYW_12 S0 ws S base a v) (l8 : 0 ≤ base) (u8 : base ≤ 110) (l9 : 1 ≤ a) (u9 : a ≤ 111) (l10 : (-2147483648) ≤ v) (u10 : v ≤ 2147483647) : bx_okT rxL (rxL.2.2.1 496 a) v ∧ rxIRYW_13 S0 ws (bx_up S 496 a v) base a v ∧ rxmRYW_13 S0 ws (bx_up S 496 a v) base a v < rxmRYW_12 S0 ws S base a v := by
  obtain ⟨hI, hx⟩ := hinv
  obtain ⟨a_, c_, d_⟩ := rxtRY_12 hP hin I0 hI l8 u8 l9 u9 l10 u10
  exact ⟨a_, ⟨c_, (fun c hD hW => rzCa_c (hx c hD hW) ⟨congrArg rzCut (funext fun _ => (bx_up_ne (by omega))), (bx_up_ne (by omega)), (bx_up_ne (by omega)), (bx_up_ne (by omega)), fun c => rzCk_c c (funext fun _ => (bx_up_ne (by omega))) (funext fun _ => (bx_up_ne (by omega)))⟩ ⟨(bx_up_ne (by omega)), (bx_up_ne (by omega)), (bx_up_ne (by omega)), (bx_up_ne (by omega))⟩ ((bx_up_ne (by omega))) ((bx_up_ne (by omega))))⟩, d_⟩
theorem rxsRYW_12 {X : (Nat → Int → Int) → Prop} {S0 : Nat → Int → Int} {ws : List Int} (hP : rxPRYW S0 ws) (hX : ∀ S S1 : Nat → Int → Int, X S → bx_same rxL (bx_mdl rxCRYW.2.2.1) S S1 → X S1) : rx_obS X S0 rxCRYW.2.2.1 (rxIRYW S0 ws) (rxmRYW S0 ws) 12 13 rxzRYW_12 496 9 10 := by
  intro S r hinv hXS I0 hin hs_ hf_
  have b_ := bx_bds_sat hs_
  have f_ := bx_fcl_ok hs_.1 hf_
  obtain ⟨⟨l8, u8⟩, ⟨l9, u9⟩, ⟨l10, u10⟩, -⟩ := b_
  have g := rxtRYW_12 hP hin I0 hinv l8 u8 l9 u9 l10 u10
  exact ⟨g.1, g.2.1, g.2.2, hX _ _ hXS (rx_same_upR (fun _ _ _ _ _ => rfl) (tc := 0) (n := 120) (g := 77) rfl (by decide +kernel) l9 u9), rx_same_upR hin (tc := 0) (n := 120) (g := 77) rfl (by decide +kernel) l9 u9⟩
theorem rxtRYW_14 {S0 : Nat → Int → Int} {ws : List Int} {S : Nat → Int → Int} {base a v : Int} (hP : rxPRYW S0 ws) (hin : bx_same rxL (bx_mdl rxCRYW.2.2.1) S0 S) (I0 : bx_Inv rxL S) (hinv : rxIRYW_14 S0 ws S base a v) (l8 : 0 ≤ base) (u8 : base ≤ 110) (l9 : 1 ≤ a) (u9 : a ≤ 111) (l10 : 0 ≤ v) (u10 : v ≤ 0) : bx_okT rxL (rxL.2.2.1 496 a) v ∧ rxIRYW_15 S0 ws (bx_up S 496 a v) base a v ∧ rxmRYW_15 S0 ws (bx_up S 496 a v) base a v < rxmRYW_14 S0 ws S base a v := by
  obtain ⟨hI, hx⟩ := hinv
  obtain ⟨a_, c_, d_⟩ := rxtRY_14 hP hin I0 hI l8 u8 l9 u9 l10 u10
  exact ⟨a_, ⟨c_, (fun c hD hW => rzCa_c (hx c hD hW) ⟨congrArg rzCut (funext fun _ => (bx_up_ne (by omega))), (bx_up_ne (by omega)), (bx_up_ne (by omega)), (bx_up_ne (by omega)), fun c => rzCk_c c (funext fun _ => (bx_up_ne (by omega))) (funext fun _ => (bx_up_ne (by omega)))⟩ ⟨(bx_up_ne (by omega)), (bx_up_ne (by omega)), (bx_up_ne (by omega)), (bx_up_ne (by omega))⟩ ((bx_up_ne (by omega))) ((bx_up_ne (by omega))))⟩, d_⟩
theorem rxsRYW_14 {X : (Nat → Int → Int) → Prop} {S0 : Nat → Int → Int} {ws : List Int} (hP : rxPRYW S0 ws) (hX : ∀ S S1 : Nat → Int → Int, X S → bx_same rxL (bx_mdl rxCRYW.2.2.1) S S1 → X S1) : rx_obS X S0 rxCRYW.2.2.1 (rxIRYW S0 ws) (rxmRYW S0 ws) 14 15 rxzRYW_14 496 9 10 := by
  intro S r hinv hXS I0 hin hs_ hf_
  have b_ := bx_bds_sat hs_
  have f_ := bx_fcl_ok hs_.1 hf_
  obtain ⟨⟨l8, u8⟩, ⟨l9, u9⟩, ⟨l10, u10⟩, -⟩ := b_
  have g := rxtRYW_14 hP hin I0 hinv l8 u8 l9 u9 l10 u10
  exact ⟨g.1, g.2.1, g.2.2, hX _ _ hXS (rx_same_upR (fun _ _ _ _ _ => rfl) (tc := 0) (n := 120) (g := 77) rfl (by decide +kernel) l9 u9), rx_same_upR hin (tc := 0) (n := 120) (g := 77) rfl (by decide +kernel) l9 u9⟩
theorem rxkRYW_16 {S0 : Nat → Int → Int} {ws : List Int} {S : Nat → Int → Int} {base dd is : Int} (hP : rxPRYW S0 ws) (hin : bx_same rxL (bx_mdl rxCRYW.2.2.1) S0 S) (I0 : bx_Inv rxL S) (hinv : rxIRYW_16 S0 ws S base dd is) (l8 : 0 ≤ base) (u8 : base ≤ 110) (l9 : 0 ≤ dd) (u9 : dd ≤ 1) (l10 : 0 ≤ is) (u10 : is ≤ 1) : rxPMUW S [480, is] ∧ ∀ (S_p : Nat → Int → Int), rxPSMUW S [480, is] S_p none → bx_Inv rxL S_p → bx_same rxL (bx_mdl rxCMUW.2.2.1) S S_p → rxIRYW_17 S0 ws S_p base dd is ∧ rxmRYW_17 S0 ws S_p base dd is < rxmRYW_16 S0 ws S base dd is := by
  obtain ⟨hI, hx⟩ := hinv
  have g_ := rxkRY_16 hP hin I0 hI l8 u8 l9 u9 l10 u10
  exact ⟨g_.1, fun S_p hq I1 hsm => ⟨⟨(g_.2 S_p hq.2.1 I1 hsm).1, (fun c hD hW => by
    have h := hx.1 c hD hW
    obtain ⟨-, -, is2, hw2, hc⟩ := hq.2.1
    have he : is = is2 := Option.some.inj (congrArg (fun l : List Int => l[1]?) hw2)
    refine rzCa_mu (is := is) h (show S_p 480 21 = S 480 21 from hsm 480 21 (by decide) (by decide) (by decide +kernel)) hq.2.2 ⟨fun z => by omega, fun z => by omega⟩ (fun z i1 r q => ?_) fun z i1 => ?_
    · obtain ⟨a, b, -⟩ := h.1 z
      have y := hx.2 b
      rw [a.1, a.2.1] at y
      rcases y with v | v | v
      · rcases q with q | q
        · exact Or.inl ⟨v.2.2, q.2⟩
        · exact absurd v.1 (of_decide_eq_false q.1)
      · rcases q with q | q
        · have := of_decide_eq_true q.1
          omega
        · exact Or.inr ⟨v.2.2.2, Or.inl ⟨v.2.2.1, q.2⟩⟩
      · omega
    · obtain ⟨a, b, -⟩ := h.1 z
      have y := hx.2 b
      rw [a.1, a.2.1] at y
      rcases y with v | v | v
      · omega
      · omega
      · exact Or.inr ⟨v.2.2.1, Or.inr ⟨v.2.2.2, rfl⟩⟩)⟩, (g_.2 S_p hq.2.1 I1 hsm).2⟩⟩
theorem rxsRYW_16 {X : (Nat → Int → Int) → Prop} {S0 : Nat → Int → Int} {ws : List Int} (hP : rxPRYW S0 ws) : rx_obK X S0 rxCRYW.2.2.1 rxCMUW.2.2.1 (rxIRYW S0 ws) (rxmRYW S0 ws) 16 17 rxzRYW_16 rxzRYW_17 [.inr (3, (0, 480)), .inr (0, (10, 0))] none rxPMUW rxPSMUW := by
  intro S r hinv hXS I0 hin hs_ hf_
  have b_ := bx_bds_sat hs_
  have f_ := bx_fcl_ok hs_.1 hf_
  obtain ⟨⟨l8, u8⟩, ⟨l9, u9⟩, ⟨l10, u10⟩, -⟩ := b_
  have g := rxkRYW_16 hP hin I0 hinv l8 u8 l9 u9 l10 u10
  have ea : List.map (bx_num r) [.inr (3, (0, 480)), .inr (0, (10, 0))] = [480, (r 10)] := by
    simp only [List.map_cons, List.map_nil, bx_xv_ok hs_.1]
    rfl
  rw [ea]
  refine ⟨g.1, fun S_p w r_p hPS hX_p I1 hsm hr hw hs_p => ?_⟩
  have hw : w = none := hPS.1
  subst hw
  have g2 := g.2 S_p hPS I1 hsm
  show rxIRYW_17 S0 ws S_p (r_p 8) (r_p 9) (r_p 10) ∧ rxmRYW_17 S0 ws S_p (r_p 8) (r_p 9) (r_p 10) < _
  rw [hr 8 (by decide), hr 9 (by decide), hr 10 (by decide)]
  exact g2
theorem rxtRYW_18 {S0 : Nat → Int → Int} {ws : List Int} {S : Nat → Int → Int} {base dd a v : Int} (hP : rxPRYW S0 ws) (hin : bx_same rxL (bx_mdl rxCRYW.2.2.1) S0 S) (I0 : bx_Inv rxL S) (hinv : rxIRYW_18 S0 ws S base dd a v) (l8 : 0 ≤ base) (u8 : base ≤ 110) (l9 : 0 ≤ dd) (u9 : dd ≤ 1) (l10 : 2 ≤ a) (u10 : a ≤ 112) (l11 : 0 ≤ v) (u11 : v ≤ 1) : bx_okT rxL (rxL.2.2.1 496 a) v ∧ rxIRYW_19 S0 ws (bx_up S 496 a v) base dd a v ∧ rxmRYW_19 S0 ws (bx_up S 496 a v) base dd a v < rxmRYW_18 S0 ws S base dd a v := by
  obtain ⟨hI, hx⟩ := hinv
  obtain ⟨a_, c_, d_⟩ := rxtRY_18 hP hin I0 hI l8 u8 l9 u9 l10 u10 l11 u11
  exact ⟨a_, ⟨c_, (fun c hD hW => rzCa_c (hx c hD hW) ⟨congrArg rzCut (funext fun _ => (bx_up_ne (by omega))), (bx_up_ne (by omega)), (bx_up_ne (by omega)), (bx_up_ne (by omega)), fun c => rzCk_c c (funext fun _ => (bx_up_ne (by omega))) (funext fun _ => (bx_up_ne (by omega)))⟩ ⟨(bx_up_ne (by omega)), (bx_up_ne (by omega)), (bx_up_ne (by omega)), (bx_up_ne (by omega))⟩ ((bx_up_ne (by omega))) ((bx_up_ne (by omega))))⟩, d_⟩
theorem rxsRYW_18 {X : (Nat → Int → Int) → Prop} {S0 : Nat → Int → Int} {ws : List Int} (hP : rxPRYW S0 ws) (hX : ∀ S S1 : Nat → Int → Int, X S → bx_same rxL (bx_mdl rxCRYW.2.2.1) S S1 → X S1) : rx_obS X S0 rxCRYW.2.2.1 (rxIRYW S0 ws) (rxmRYW S0 ws) 18 19 rxzRYW_18 496 10 11 := by
  intro S r hinv hXS I0 hin hs_ hf_
  have b_ := bx_bds_sat hs_
  have f_ := bx_fcl_ok hs_.1 hf_
  obtain ⟨⟨l8, u8⟩, ⟨l9, u9⟩, ⟨l10, u10⟩, ⟨l11, u11⟩, -⟩ := b_
  have g := rxtRYW_18 hP hin I0 hinv l8 u8 l9 u9 l10 u10 l11 u11
  exact ⟨g.1, g.2.1, g.2.2, hX _ _ hXS (rx_same_upR (fun _ _ _ _ _ => rfl) (tc := 0) (n := 120) (g := 77) rfl (by decide +kernel) l10 u10), rx_same_upR hin (tc := 0) (n := 120) (g := 77) rfl (by decide +kernel) l10 u10⟩
theorem rxtRYW_20 {S0 : Nat → Int → Int} {ws : List Int} {S : Nat → Int → Int} {base dd a v : Int} (hP : rxPRYW S0 ws) (hin : bx_same rxL (bx_mdl rxCRYW.2.2.1) S0 S) (I0 : bx_Inv rxL S) (hinv : rxIRYW_20 S0 ws S base dd a v) (l8 : 0 ≤ base) (u8 : base ≤ 110) (l9 : 0 ≤ dd) (u9 : dd ≤ 1) (l10 : 3 ≤ a) (u10 : a ≤ 113) (l11 : 0 ≤ v) (u11 : v ≤ 400) : bx_okT rxL (rxL.2.2.1 496 a) v ∧ rxIRYW_21 S0 ws (bx_up S 496 a v) base dd a v ∧ rxmRYW_21 S0 ws (bx_up S 496 a v) base dd a v < rxmRYW_20 S0 ws S base dd a v := by
  obtain ⟨hI, hx⟩ := hinv
  obtain ⟨a_, c_, d_⟩ := rxtRY_20 hP hin I0 hI l8 u8 l9 u9 l10 u10 l11 u11
  exact ⟨a_, ⟨c_, (fun c hD hW => rzCa_c (hx c hD hW) ⟨congrArg rzCut (funext fun _ => (bx_up_ne (by omega))), (bx_up_ne (by omega)), (bx_up_ne (by omega)), (bx_up_ne (by omega)), fun c => rzCk_c c (funext fun _ => (bx_up_ne (by omega))) (funext fun _ => (bx_up_ne (by omega)))⟩ ⟨(bx_up_ne (by omega)), (bx_up_ne (by omega)), (bx_up_ne (by omega)), (bx_up_ne (by omega))⟩ ((bx_up_ne (by omega))) ((bx_up_ne (by omega))))⟩, d_⟩
theorem rxsRYW_20 {X : (Nat → Int → Int) → Prop} {S0 : Nat → Int → Int} {ws : List Int} (hP : rxPRYW S0 ws) (hX : ∀ S S1 : Nat → Int → Int, X S → bx_same rxL (bx_mdl rxCRYW.2.2.1) S S1 → X S1) : rx_obS X S0 rxCRYW.2.2.1 (rxIRYW S0 ws) (rxmRYW S0 ws) 20 21 rxzRYW_20 496 10 11 := by
  intro S r hinv hXS I0 hin hs_ hf_
  have b_ := bx_bds_sat hs_
  have f_ := bx_fcl_ok hs_.1 hf_
  obtain ⟨⟨l8, u8⟩, ⟨l9, u9⟩, ⟨l10, u10⟩, ⟨l11, u11⟩, -⟩ := b_
  have g := rxtRYW_20 hP hin I0 hinv l8 u8 l9 u9 l10 u10 l11 u11
  exact ⟨g.1, g.2.1, g.2.2, hX _ _ hXS (rx_same_upR (fun _ _ _ _ _ => rfl) (tc := 0) (n := 120) (g := 77) rfl (by decide +kernel) l10 u10), rx_same_upR hin (tc := 0) (n := 120) (g := 77) rfl (by decide +kernel) l10 u10⟩
theorem rxkRYW_22 {S0 : Nat → Int → Int} {ws : List Int} {S : Nat → Int → Int} {base dd : Int} (hP : rxPRYW S0 ws) (hin : bx_same rxL (bx_mdl rxCRYW.2.2.1) S0 S) (I0 : bx_Inv rxL S) (hinv : rxIRYW_22 S0 ws S base dd) (l8 : 0 ≤ base) (u8 : base ≤ 110) (l9 : 0 ≤ dd) (u9 : dd ≤ 1) : rxPREW S [480, 0] ∧ ∀ (S_p : Nat → Int → Int), rxPSREW S [480, 0] S_p none → bx_Inv rxL S_p → bx_same rxL (bx_mdl rxCREW.2.2.1) S S_p → rxIRYW_23 S0 ws S_p base dd ∧ rxmRYW_23 S0 ws S_p base dd < rxmRYW_22 S0 ws S base dd := by
  obtain ⟨hI, hx⟩ := hinv
  have g_ := rxkRY_22 hP hin I0 hI l8 u8 l9 u9
  exact ⟨g_.1, fun S_p hq I1 hsm => ⟨⟨(g_.2 S_p hq.2.1 I1 hsm).1, ⟨hx.1, fun c hD hW => by
    have z14 := hI.1
    have h := hx.2 c hD hW
    obtain ⟨a, b, -⟩ := h.1 z14
    have x := hq.2.2 0 rfl (a.2.2.2.2 c) b
    refine rzCa_ex h z14 x fun r q => ?_
    rw [hW] at q
    exact q⟩⟩, (g_.2 S_p hq.2.1 I1 hsm).2⟩⟩
theorem rxsRYW_22 {X : (Nat → Int → Int) → Prop} {S0 : Nat → Int → Int} {ws : List Int} (hP : rxPRYW S0 ws) : rx_obK X S0 rxCRYW.2.2.1 rxCREW.2.2.1 (rxIRYW S0 ws) (rxmRYW S0 ws) 22 23 rxzRYW_22 rxzRYW_23 [.inr (3, (0, 480)), .inr (0, (0, 0))] none rxPREW rxPSREW := by
  intro S r hinv hXS I0 hin hs_ hf_
  have b_ := bx_bds_sat hs_
  have f_ := bx_fcl_ok hs_.1 hf_
  obtain ⟨⟨l8, u8⟩, ⟨l9, u9⟩, -⟩ := b_
  have g := rxkRYW_22 hP hin I0 hinv l8 u8 l9 u9
  have ea : List.map (bx_num r) [.inr (3, (0, 480)), .inr (0, (0, 0))] = [480, 0] := by
    simp only [List.map_cons, List.map_nil, bx_xv_ok hs_.1]
    rfl
  rw [ea]
  refine ⟨g.1, fun S_p w r_p hPS hX_p I1 hsm hr hw hs_p => ?_⟩
  have hw : w = none := hPS.1
  subst hw
  have g2 := g.2 S_p hPS I1 hsm
  show rxIRYW_23 S0 ws S_p (r_p 8) (r_p 9) ∧ rxmRYW_23 S0 ws S_p (r_p 8) (r_p 9) < _
  rw [hr 8 (by decide), hr 9 (by decide)]
  exact g2
theorem rxtRYW_24 {S0 : Nat → Int → Int} {ws : List Int} {S : Nat → Int → Int} {base dd a v : Int} (hP : rxPRYW S0 ws) (hin : bx_same rxL (bx_mdl rxCRYW.2.2.1) S0 S) (I0 : bx_Inv rxL S) (hinv : rxIRYW_24 S0 ws S base dd a v) (l8 : 0 ≤ base) (u8 : base ≤ 110) (l9 : 0 ≤ dd) (u9 : dd ≤ 1) (l10 : 4 ≤ a) (u10 : a ≤ 114) (l11 : 0 ≤ v) (u11 : v ≤ 400) : bx_okT rxL (rxL.2.2.1 496 a) v ∧ rxIRYW_25 S0 ws (bx_up S 496 a v) base dd a v ∧ rxmRYW_25 S0 ws (bx_up S 496 a v) base dd a v < rxmRYW_24 S0 ws S base dd a v := by
  obtain ⟨hI, hx⟩ := hinv
  obtain ⟨a_, c_, d_⟩ := rxtRY_24 hP hin I0 hI l8 u8 l9 u9 l10 u10 l11 u11
  exact ⟨a_, ⟨c_, (fun c hD hW => rzCa_c (hx c hD hW) ⟨congrArg rzCut (funext fun _ => (bx_up_ne (by omega))), (bx_up_ne (by omega)), (bx_up_ne (by omega)), (bx_up_ne (by omega)), fun c => rzCk_c c (funext fun _ => (bx_up_ne (by omega))) (funext fun _ => (bx_up_ne (by omega)))⟩ ⟨(bx_up_ne (by omega)), (bx_up_ne (by omega)), (bx_up_ne (by omega)), (bx_up_ne (by omega))⟩ ((bx_up_ne (by omega))) ((bx_up_ne (by omega))))⟩, d_⟩
theorem rxsRYW_24 {X : (Nat → Int → Int) → Prop} {S0 : Nat → Int → Int} {ws : List Int} (hP : rxPRYW S0 ws) (hX : ∀ S S1 : Nat → Int → Int, X S → bx_same rxL (bx_mdl rxCRYW.2.2.1) S S1 → X S1) : rx_obS X S0 rxCRYW.2.2.1 (rxIRYW S0 ws) (rxmRYW S0 ws) 24 25 rxzRYW_24 496 10 11 := by
  intro S r hinv hXS I0 hin hs_ hf_
  have b_ := bx_bds_sat hs_
  have f_ := bx_fcl_ok hs_.1 hf_
  obtain ⟨⟨l8, u8⟩, ⟨l9, u9⟩, ⟨l10, u10⟩, ⟨l11, u11⟩, -⟩ := b_
  have g := rxtRYW_24 hP hin I0 hinv l8 u8 l9 u9 l10 u10 l11 u11
  exact ⟨g.1, g.2.1, g.2.2, hX _ _ hXS (rx_same_upR (fun _ _ _ _ _ => rfl) (tc := 0) (n := 120) (g := 77) rfl (by decide +kernel) l10 u10), rx_same_upR hin (tc := 0) (n := 120) (g := 77) rfl (by decide +kernel) l10 u10⟩
theorem rxkRYW_26 {S0 : Nat → Int → Int} {ws : List Int} {S : Nat → Int → Int} {base dd : Int} (hP : rxPRYW S0 ws) (hin : bx_same rxL (bx_mdl rxCRYW.2.2.1) S0 S) (I0 : bx_Inv rxL S) (hinv : rxIRYW_26 S0 ws S base dd) (l8 : 0 ≤ base) (u8 : base ≤ 110) (l9 : 0 ≤ dd) (u9 : dd ≤ 1) : rxPNXX S [480] ∧ ∀ (S_p : Nat → Int → Int), rxPSNXX S [480] S_p none → bx_Inv rxL S_p → bx_same rxL (bx_mdl rxCNXX.2.2.1) S S_p → rxIRYW_27 S0 ws S_p base dd ∧ rxmRYW_27 S0 ws S_p base dd < rxmRYW_26 S0 ws S base dd := by
  obtain ⟨hI, hx⟩ := hinv
  have g_ := rxkRY_26 hP hin I0 hI l8 u8 l9 u9
  exact ⟨g_.1, fun S_p hq I1 hsm => ⟨⟨(g_.2 S_p hq.2.1 I1 hsm).1, (fun c hD hW => by
    have z14 := hI.1
    have h := hx.2.1 c hD hW
    obtain ⟨a, b, -⟩ := h.1 z14
    have hi := hx.2.2 b
    rw [a.1, a.2.1] at hi
    exact rzCa_nx h z14 (show S_p 480 14 = S 480 14 from hsm 480 14 (by decide) (by decide) (by decide +kernel)) (show S_p 480 21 = S 480 21 from hsm 480 21 (by decide) (by decide) (by decide +kernel)) (rzKr_of hsm (by decide +kernel)) hq.2.2.1 hq.2.2.2 fun r q => Or.inl ⟨hi, q⟩)⟩, (g_.2 S_p hq.2.1 I1 hsm).2⟩⟩
theorem rxsRYW_26 {X : (Nat → Int → Int) → Prop} {S0 : Nat → Int → Int} {ws : List Int} (hP : rxPRYW S0 ws) : rx_obK X S0 rxCRYW.2.2.1 rxCNXX.2.2.1 (rxIRYW S0 ws) (rxmRYW S0 ws) 26 27 rxzRYW_26 rxzRYW_27 [.inr (3, (0, 480))] none rxPNXX rxPSNXX := by
  intro S r hinv hXS I0 hin hs_ hf_
  have b_ := bx_bds_sat hs_
  have f_ := bx_fcl_ok hs_.1 hf_
  obtain ⟨⟨l8, u8⟩, ⟨l9, u9⟩, -⟩ := b_
  have g := rxkRYW_26 hP hin I0 hinv l8 u8 l9 u9
  have ea : List.map (bx_num r) [.inr (3, (0, 480))] = [480] := by
    simp only [List.map_cons, List.map_nil, bx_xv_ok hs_.1]
    rfl
  rw [ea]
  refine ⟨g.1, fun S_p w r_p hPS hX_p I1 hsm hr hw hs_p => ?_⟩
  have hw : w = none := hPS.1
  subst hw
  have g2 := g.2 S_p hPS I1 hsm
  show rxIRYW_27 S0 ws S_p (r_p 8) (r_p 9) ∧ rxmRYW_27 S0 ws S_p (r_p 8) (r_p 9) < _
  rw [hr 8 (by decide), hr 9 (by decide)]
  exact g2
theorem rxkRYW_28 {S0 : Nat → Int → Int} {ws : List Int} {S : Nat → Int → Int} {base dd : Int} (hP : rxPRYW S0 ws) (hin : bx_same rxL (bx_mdl rxCRYW.2.2.1) S0 S) (I0 : bx_Inv rxL S) (hinv : rxIRYW_28 S0 ws S base dd) (l8 : 0 ≤ base) (u8 : base ≤ 110) (l9 : 0 ≤ dd) (u9 : dd ≤ 1) : rxPREW S [480, 0] ∧ ∀ (S_p : Nat → Int → Int), rxPSREW S [480, 0] S_p none → bx_Inv rxL S_p → bx_same rxL (bx_mdl rxCREW.2.2.1) S S_p → rxIRYW_29 S0 ws S_p base dd ∧ rxmRYW_29 S0 ws S_p base dd < rxmRYW_28 S0 ws S base dd := by
  obtain ⟨hI, hx⟩ := hinv
  have g_ := rxkRY_28 hP hin I0 hI l8 u8 l9 u9
  exact ⟨g_.1, fun S_p hq I1 hsm => ⟨⟨(g_.2 S_p hq.2.1 I1 hsm).1, (fun c hD hW => by
    have z14 := hI.1
    have h := hx c hD hW
    obtain ⟨a, b, -⟩ := h.1 z14
    have x := hq.2.2 0 rfl (a.2.2.2.2 c) b
    refine rzCa_ex h z14 x fun r q => ?_
    rw [hW] at q
    exact q)⟩, (g_.2 S_p hq.2.1 I1 hsm).2⟩⟩
theorem rxsRYW_28 {X : (Nat → Int → Int) → Prop} {S0 : Nat → Int → Int} {ws : List Int} (hP : rxPRYW S0 ws) : rx_obK X S0 rxCRYW.2.2.1 rxCREW.2.2.1 (rxIRYW S0 ws) (rxmRYW S0 ws) 28 29 rxzRYW_28 rxzRYW_29 [.inr (3, (0, 480)), .inr (0, (0, 0))] none rxPREW rxPSREW := by
  intro S r hinv hXS I0 hin hs_ hf_
  have b_ := bx_bds_sat hs_
  have f_ := bx_fcl_ok hs_.1 hf_
  obtain ⟨⟨l8, u8⟩, ⟨l9, u9⟩, -⟩ := b_
  have g := rxkRYW_28 hP hin I0 hinv l8 u8 l9 u9
  have ea : List.map (bx_num r) [.inr (3, (0, 480)), .inr (0, (0, 0))] = [480, 0] := by
    simp only [List.map_cons, List.map_nil, bx_xv_ok hs_.1]
    rfl
  rw [ea]
  refine ⟨g.1, fun S_p w r_p hPS hX_p I1 hsm hr hw hs_p => ?_⟩
  have hw : w = none := hPS.1
  subst hw
  have g2 := g.2 S_p hPS I1 hsm
  show rxIRYW_29 S0 ws S_p (r_p 8) (r_p 9) ∧ rxmRYW_29 S0 ws S_p (r_p 8) (r_p 9) < _
  rw [hr 8 (by decide), hr 9 (by decide)]
  exact g2
theorem rxtRYW_30 {S0 : Nat → Int → Int} {ws : List Int} {S : Nat → Int → Int} {base dd a v : Int} (hP : rxPRYW S0 ws) (hin : bx_same rxL (bx_mdl rxCRYW.2.2.1) S0 S) (I0 : bx_Inv rxL S) (hinv : rxIRYW_30 S0 ws S base dd a v) (l8 : 0 ≤ base) (u8 : base ≤ 110) (l9 : 0 ≤ dd) (u9 : dd ≤ 1) (l10 : 5 ≤ a) (u10 : a ≤ 115) (l11 : 0 ≤ v) (u11 : v ≤ 400) : bx_okT rxL (rxL.2.2.1 496 a) v ∧ rxIRYW_31 S0 ws (bx_up S 496 a v) base dd a v ∧ rxmRYW_31 S0 ws (bx_up S 496 a v) base dd a v < rxmRYW_30 S0 ws S base dd a v := by
  obtain ⟨hI, hx⟩ := hinv
  obtain ⟨a_, c_, d_⟩ := rxtRY_30 hP hin I0 hI l8 u8 l9 u9 l10 u10 l11 u11
  exact ⟨a_, ⟨c_, (fun c hD hW => rzCa_c (hx c hD hW) ⟨congrArg rzCut (funext fun _ => (bx_up_ne (by omega))), (bx_up_ne (by omega)), (bx_up_ne (by omega)), (bx_up_ne (by omega)), fun c => rzCk_c c (funext fun _ => (bx_up_ne (by omega))) (funext fun _ => (bx_up_ne (by omega)))⟩ ⟨(bx_up_ne (by omega)), (bx_up_ne (by omega)), (bx_up_ne (by omega)), (bx_up_ne (by omega))⟩ ((bx_up_ne (by omega))) ((bx_up_ne (by omega))))⟩, d_⟩
theorem rxsRYW_30 {X : (Nat → Int → Int) → Prop} {S0 : Nat → Int → Int} {ws : List Int} (hP : rxPRYW S0 ws) (hX : ∀ S S1 : Nat → Int → Int, X S → bx_same rxL (bx_mdl rxCRYW.2.2.1) S S1 → X S1) : rx_obS X S0 rxCRYW.2.2.1 (rxIRYW S0 ws) (rxmRYW S0 ws) 30 31 rxzRYW_30 496 10 11 := by
  intro S r hinv hXS I0 hin hs_ hf_
  have b_ := bx_bds_sat hs_
  have f_ := bx_fcl_ok hs_.1 hf_
  obtain ⟨⟨l8, u8⟩, ⟨l9, u9⟩, ⟨l10, u10⟩, ⟨l11, u11⟩, -⟩ := b_
  have g := rxtRYW_30 hP hin I0 hinv l8 u8 l9 u9 l10 u10 l11 u11
  exact ⟨g.1, g.2.1, g.2.2, hX _ _ hXS (rx_same_upR (fun _ _ _ _ _ => rfl) (tc := 0) (n := 120) (g := 77) rfl (by decide +kernel) l10 u10), rx_same_upR hin (tc := 0) (n := 120) (g := 77) rfl (by decide +kernel) l10 u10⟩
theorem rxkRYW_32 {S0 : Nat → Int → Int} {ws : List Int} {S : Nat → Int → Int} {base dd : Int} (hP : rxPRYW S0 ws) (hin : bx_same rxL (bx_mdl rxCRYW.2.2.1) S0 S) (I0 : bx_Inv rxL S) (hinv : rxIRYW_32 S0 ws S base dd) (l8 : 0 ≤ base) (u8 : base ≤ 110) (l9 : 0 ≤ dd) (u9 : dd ≤ 1) : rxPNXX S [480] ∧ ∀ (S_p : Nat → Int → Int), rxPSNXX S [480] S_p none → bx_Inv rxL S_p → bx_same rxL (bx_mdl rxCNXX.2.2.1) S S_p → rxIRYW_33 S0 ws S_p base dd ∧ rxmRYW_33 S0 ws S_p base dd < rxmRYW_32 S0 ws S base dd := by
  obtain ⟨hI, hx⟩ := hinv
  have g_ := rxkRY_32 hP hin I0 hI l8 u8 l9 u9
  exact ⟨g_.1, fun S_p hq I1 hsm => ⟨⟨(g_.2 S_p hq.2.1 I1 hsm).1, (fun c hD hW => by
    have z14 := hI.1
    have h := hx.1 c hD hW
    obtain ⟨a, b, -⟩ := h.1 z14
    have hi := hx.2 b
    rw [a.1, a.2.1] at hi
    exact rzCa_nx h z14 (show S_p 480 14 = S 480 14 from hsm 480 14 (by decide) (by decide) (by decide +kernel)) (show S_p 480 21 = S 480 21 from hsm 480 21 (by decide) (by decide) (by decide +kernel)) (rzKr_of hsm (by decide +kernel)) hq.2.2.1 hq.2.2.2 fun r q => Or.inl ⟨hi, q⟩)⟩, (g_.2 S_p hq.2.1 I1 hsm).2⟩⟩
theorem rxsRYW_32 {X : (Nat → Int → Int) → Prop} {S0 : Nat → Int → Int} {ws : List Int} (hP : rxPRYW S0 ws) : rx_obK X S0 rxCRYW.2.2.1 rxCNXX.2.2.1 (rxIRYW S0 ws) (rxmRYW S0 ws) 32 33 rxzRYW_32 rxzRYW_33 [.inr (3, (0, 480))] none rxPNXX rxPSNXX := by
  intro S r hinv hXS I0 hin hs_ hf_
  have b_ := bx_bds_sat hs_
  have f_ := bx_fcl_ok hs_.1 hf_
  obtain ⟨⟨l8, u8⟩, ⟨l9, u9⟩, -⟩ := b_
  have g := rxkRYW_32 hP hin I0 hinv l8 u8 l9 u9
  have ea : List.map (bx_num r) [.inr (3, (0, 480))] = [480] := by
    simp only [List.map_cons, List.map_nil, bx_xv_ok hs_.1]
    rfl
  rw [ea]
  refine ⟨g.1, fun S_p w r_p hPS hX_p I1 hsm hr hw hs_p => ?_⟩
  have hw : w = none := hPS.1
  subst hw
  have g2 := g.2 S_p hPS I1 hsm
  show rxIRYW_33 S0 ws S_p (r_p 8) (r_p 9) ∧ rxmRYW_33 S0 ws S_p (r_p 8) (r_p 9) < _
  rw [hr 8 (by decide), hr 9 (by decide)]
  exact g2
theorem rxkRYW_34 {S0 : Nat → Int → Int} {ws : List Int} {S : Nat → Int → Int} {base dd : Int} (hP : rxPRYW S0 ws) (hin : bx_same rxL (bx_mdl rxCRYW.2.2.1) S0 S) (I0 : bx_Inv rxL S) (hinv : rxIRYW_34 S0 ws S base dd) (l8 : 0 ≤ base) (u8 : base ≤ 110) (l9 : 0 ≤ dd) (u9 : dd ≤ 1) : rxPREW S [480, 1] ∧ ∀ (S_p : Nat → Int → Int), rxPSREW S [480, 1] S_p none → bx_Inv rxL S_p → bx_same rxL (bx_mdl rxCREW.2.2.1) S S_p → rxIRYW_35 S0 ws S_p base dd ∧ rxmRYW_35 S0 ws S_p base dd < rxmRYW_34 S0 ws S base dd := by
  obtain ⟨hI, hx⟩ := hinv
  have g_ := rxkRY_34 hP hin I0 hI l8 u8 l9 u9
  exact ⟨g_.1, fun S_p hq I1 hsm => ⟨⟨(g_.2 S_p hq.2.1 I1 hsm).1, (fun c hD hW => by
    have z14 := hI.1
    have h := hx c hD hW
    obtain ⟨a, b, -⟩ := h.1 z14
    have x := hq.2.2 1 rfl (a.2.2.2.2 c) b
    refine rzCa_tl h z14 x fun r q => ?_
    rw [hW] at q
    exact q)⟩, (g_.2 S_p hq.2.1 I1 hsm).2⟩⟩
theorem rxsRYW_34 {X : (Nat → Int → Int) → Prop} {S0 : Nat → Int → Int} {ws : List Int} (hP : rxPRYW S0 ws) : rx_obK X S0 rxCRYW.2.2.1 rxCREW.2.2.1 (rxIRYW S0 ws) (rxmRYW S0 ws) 34 35 rxzRYW_34 rxzRYW_35 [.inr (3, (0, 480)), .inr (0, (0, 1))] none rxPREW rxPSREW := by
  intro S r hinv hXS I0 hin hs_ hf_
  have b_ := bx_bds_sat hs_
  have f_ := bx_fcl_ok hs_.1 hf_
  obtain ⟨⟨l8, u8⟩, ⟨l9, u9⟩, -⟩ := b_
  have g := rxkRYW_34 hP hin I0 hinv l8 u8 l9 u9
  have ea : List.map (bx_num r) [.inr (3, (0, 480)), .inr (0, (0, 1))] = [480, 1] := by
    simp only [List.map_cons, List.map_nil, bx_xv_ok hs_.1]
    rfl
  rw [ea]
  refine ⟨g.1, fun S_p w r_p hPS hX_p I1 hsm hr hw hs_p => ?_⟩
  have hw : w = none := hPS.1
  subst hw
  have g2 := g.2 S_p hPS I1 hsm
  show rxIRYW_35 S0 ws S_p (r_p 8) (r_p 9) ∧ rxmRYW_35 S0 ws S_p (r_p 8) (r_p 9) < _
  rw [hr 8 (by decide), hr 9 (by decide)]
  exact g2
theorem rxtRYW_36 {S0 : Nat → Int → Int} {ws : List Int} {S : Nat → Int → Int} {base dd a v : Int} (hP : rxPRYW S0 ws) (hin : bx_same rxL (bx_mdl rxCRYW.2.2.1) S0 S) (I0 : bx_Inv rxL S) (hinv : rxIRYW_36 S0 ws S base dd a v) (l8 : 0 ≤ base) (u8 : base ≤ 110) (l9 : 0 ≤ dd) (u9 : dd ≤ 1) (l10 : 6 ≤ a) (u10 : a ≤ 116) (l11 : 0 ≤ v) (u11 : v ≤ 400) : bx_okT rxL (rxL.2.2.1 496 a) v ∧ rxIRYW_37 S0 ws (bx_up S 496 a v) base dd a v ∧ rxmRYW_37 S0 ws (bx_up S 496 a v) base dd a v < rxmRYW_36 S0 ws S base dd a v := by
  obtain ⟨hI, hx⟩ := hinv
  obtain ⟨a_, c_, d_⟩ := rxtRY_36 hP hin I0 hI l8 u8 l9 u9 l10 u10 l11 u11
  exact ⟨a_, ⟨c_, (fun c hD hW => rzCo_c (hx c hD hW) ⟨congrArg rzCut (funext fun _ => (bx_up_ne (by omega))), (bx_up_ne (by omega)), (bx_up_ne (by omega)), (bx_up_ne (by omega)), fun c => rzCk_c c (funext fun _ => (bx_up_ne (by omega))) (funext fun _ => (bx_up_ne (by omega)))⟩ ⟨(bx_up_ne (by omega)), (bx_up_ne (by omega)), (bx_up_ne (by omega)), (bx_up_ne (by omega))⟩ ((bx_up_ne (by omega))) ((bx_up_ne (by omega))))⟩, d_⟩
theorem rxsRYW_36 {X : (Nat → Int → Int) → Prop} {S0 : Nat → Int → Int} {ws : List Int} (hP : rxPRYW S0 ws) (hX : ∀ S S1 : Nat → Int → Int, X S → bx_same rxL (bx_mdl rxCRYW.2.2.1) S S1 → X S1) : rx_obS X S0 rxCRYW.2.2.1 (rxIRYW S0 ws) (rxmRYW S0 ws) 36 37 rxzRYW_36 496 10 11 := by
  intro S r hinv hXS I0 hin hs_ hf_
  have b_ := bx_bds_sat hs_
  have f_ := bx_fcl_ok hs_.1 hf_
  obtain ⟨⟨l8, u8⟩, ⟨l9, u9⟩, ⟨l10, u10⟩, ⟨l11, u11⟩, -⟩ := b_
  have g := rxtRYW_36 hP hin I0 hinv l8 u8 l9 u9 l10 u10 l11 u11
  exact ⟨g.1, g.2.1, g.2.2, hX _ _ hXS (rx_same_upR (fun _ _ _ _ _ => rfl) (tc := 0) (n := 120) (g := 77) rfl (by decide +kernel) l10 u10), rx_same_upR hin (tc := 0) (n := 120) (g := 77) rfl (by decide +kernel) l10 u10⟩
theorem rxcRYW_0_0 {S0 : Nat → Int → Int} {ws : List Int} {S : Nat → Int → Int} {x8 : Int} (hP : rxPRYW S0 ws) (hin : bx_same rxL (bx_mdl rxCRYW.2.2.1) S0 S) (I0 : bx_Inv rxL S) (hinv : rxIRYW_0 S0 ws S) (l8 : 0 ≤ x8) (u8 : x8 ≤ 3) (f0 : x8 ≠ 1) (e0 : S 480 11 = x8) : (True) ∧ (True) ∧ rxIRYW_1 S0 ws S 0 ∧ rxmRYW_1 S0 ws S 0 < rxmRYW_0 S0 ws S := by
  obtain ⟨hI, hx⟩ := hinv
  obtain ⟨a_, b_, c_, d_⟩ := rxcRY_0_0 hP hin I0 hI l8 u8 f0 e0
  exact ⟨a_, b_, ⟨c_, (fun hD => by
    have e := hI.1
    subst e
    exact Or.inr ⟨rfl, Or.inr (rzDq_no hD (w := rzW_in) (v := 302) (by decide) (by decide) (by omega))⟩)⟩, d_⟩
theorem rxgRYW_0_0 {X : (Nat → Int → Int) → Prop} {S0 : Nat → Int → Int} {ws : List Int} (hP : rxPRYW S0 ws) : bx_obC rxL X S0 rxCRYW.2.2.1 (rxIRYW S0 ws) (rxmRYW S0 ws) 0 rxzRYW_0 rxoRYW_0_0 := by
  intro S S_p r r_p hinv hX hin hsm_ hseg
  obtain ⟨I0, I1, h0_, hr_, b_, f_, d_⟩ := bx_cl (evs := [(0, (0, 480), (0, 11), .inr (0, (8, 0)))]) (fvs := [(3, (8, 0), (0, 1), (0, 0))]) hseg (by decide +kernel) (by decide +kernel)
  have hinv : rxIRYW_0 S0 ws S := hinv
  obtain ⟨⟨l8, u8⟩, -⟩ := b_
  obtain ⟨f0, -⟩ := f_
  obtain ⟨e0, w_⟩ := d_
  subst w_
  have g := rxcRYW_0_0 hP hin I0 hinv l8 u8 f0 e0
  refine ⟨bx_narP_ok (l := []) g.1, bx_nfP_ok h0_ (fvs := []) (by decide +kernel) g.2.1, ?_, ?_⟩
  · show rxIRYW_1 S0 ws S_p (bx_val [(0, 0), (0, 0), (0, 0), (0, 0), (0, 0), (0, 0), (0, 0), (0, 0), (0, 0)] r_p 8)
    rw [bx_val_x (n := 8) (e := (0, 0)) h0_ rfl]
    exact g.2.2.1
  · show rxmRYW_1 S0 ws S_p (bx_val [(0, 0), (0, 0), (0, 0), (0, 0), (0, 0), (0, 0), (0, 0), (0, 0), (0, 0)] r_p 8) < rxmRYW_0 S0 ws S_p
    rw [bx_val_x (n := 8) (e := (0, 0)) h0_ rfl]
    exact g.2.2.2
theorem rxcRYW_0_1 {S0 : Nat → Int → Int} {ws : List Int} {S : Nat → Int → Int} {x8 x9 : Int} (hP : rxPRYW S0 ws) (hin : bx_same rxL (bx_mdl rxCRYW.2.2.1) S0 S) (I0 : bx_Inv rxL S) (hinv : rxIRYW_0 S0 ws S) (l8 : 1 ≤ x8) (u8 : x8 ≤ 1) (l9 : (-9223372036854775808) ≤ x9) (u9 : x9 ≤ 9223372036854775807) (f0 : x9 ≠ 302) (e1 : S 480 11 = x8) (e0 : S 480 12 = x9) : (True) ∧ (True) ∧ rxIRYW_1 S0 ws S 0 ∧ rxmRYW_1 S0 ws S 0 < rxmRYW_0 S0 ws S := by
  obtain ⟨hI, hx⟩ := hinv
  obtain ⟨a_, b_, c_, d_⟩ := rxcRY_0_1 hP hin I0 hI l8 u8 l9 u9 f0 e1 e0
  exact ⟨a_, b_, ⟨c_, (fun hD => by
    have e := hI.1
    subst e
    exact Or.inr ⟨rfl, Or.inr (rzDq_no hD (w := rzW_in) (v := 302) (by decide) (by decide) (by omega))⟩)⟩, d_⟩
theorem rxgRYW_0_1 {X : (Nat → Int → Int) → Prop} {S0 : Nat → Int → Int} {ws : List Int} (hP : rxPRYW S0 ws) : bx_obC rxL X S0 rxCRYW.2.2.1 (rxIRYW S0 ws) (rxmRYW S0 ws) 0 rxzRYW_0 rxoRYW_0_1 := by
  intro S S_p r r_p hinv hX hin hsm_ hseg
  obtain ⟨I0, I1, h0_, hr_, b_, f_, d_⟩ := bx_cl (evs := [(0, (0, 480), (0, 12), .inr (1, (9, 0))), (0, (0, 480), (0, 11), .inr (0, (8, 0)))]) (fvs := [(3, (9, 0), (0, 302), (0, 0))]) hseg (by decide +kernel) (by decide +kernel)
  have hinv : rxIRYW_0 S0 ws S := hinv
  obtain ⟨⟨l8, u8⟩, ⟨l9, u9⟩, -⟩ := b_
  obtain ⟨f0, -⟩ := f_
  obtain ⟨e0, ⟨e1, w_⟩⟩ := d_
  subst w_
  have g := rxcRYW_0_1 hP hin I0 hinv l8 u8 l9 u9 f0 e1 e0
  refine ⟨bx_narP_ok (l := []) g.1, bx_nfP_ok h0_ (fvs := []) (by decide +kernel) g.2.1, ?_, ?_⟩
  · show rxIRYW_1 S0 ws S_p (bx_val [(0, 0), (0, 0), (0, 0), (0, 0), (0, 0), (0, 0), (0, 0), (0, 0), (0, 0)] r_p 8)
    rw [bx_val_x (n := 8) (e := (0, 0)) h0_ rfl]
    exact g.2.2.1
  · show rxmRYW_1 S0 ws S_p (bx_val [(0, 0), (0, 0), (0, 0), (0, 0), (0, 0), (0, 0), (0, 0), (0, 0), (0, 0)] r_p 8) < rxmRYW_0 S0 ws S_p
    rw [bx_val_x (n := 8) (e := (0, 0)) h0_ rfl]
    exact g.2.2.2
theorem rxcRYW_0_2 {S0 : Nat → Int → Int} {ws : List Int} {S : Nat → Int → Int} {x8 x9 x10 : Int} (hP : rxPRYW S0 ws) (hin : bx_same rxL (bx_mdl rxCRYW.2.2.1) S0 S) (I0 : bx_Inv rxL S) (hinv : rxIRYW_0 S0 ws S) (l8 : 1 ≤ x8) (u8 : x8 ≤ 1) (l9 : 302 ≤ x9) (u9 : x9 ≤ 302) (l10 : 0 ≤ x10) (u10 : x10 ≤ 11) (e2 : S 480 11 = x8) (e1 : S 480 12 = x9) (e0 : S 480 16 = x10) : (True) ∧ (True) ∧ rxIRYW_1 S0 ws S 1 ∧ rxmRYW_1 S0 ws S 1 < rxmRYW_0 S0 ws S := by
  obtain ⟨hI, hx⟩ := hinv
  obtain ⟨a_, b_, c_, d_⟩ := rxcRY_0_2 hP hin I0 hI l8 u8 l9 u9 l10 u10 e2 e1 e0
  exact ⟨a_, b_, ⟨c_, (fun hD => by
    have e := hI.1
    subst e
    exact Or.inl ⟨rfl, by omega, (rzDq_is hD (w := rzW_in) (v := 302) (by decide) (by decide)).mp ⟨by omega, by omega⟩⟩)⟩, d_⟩
theorem rxgRYW_0_2 {X : (Nat → Int → Int) → Prop} {S0 : Nat → Int → Int} {ws : List Int} (hP : rxPRYW S0 ws) : bx_obC rxL X S0 rxCRYW.2.2.1 (rxIRYW S0 ws) (rxmRYW S0 ws) 0 rxzRYW_0 rxoRYW_0_2 := by
  intro S S_p r r_p hinv hX hin hsm_ hseg
  obtain ⟨I0, I1, h0_, hr_, b_, f_, d_⟩ := bx_cl (evs := [(0, (0, 480), (0, 16), .inr (0, (10, 0))), (0, (0, 480), (0, 12), .inr (1, (9, 0))), (0, (0, 480), (0, 11), .inr (0, (8, 0)))]) (fvs := []) hseg (by decide +kernel) (by decide +kernel)
  have hinv : rxIRYW_0 S0 ws S := hinv
  obtain ⟨⟨l8, u8⟩, ⟨l9, u9⟩, ⟨l10, u10⟩, -⟩ := b_
  obtain ⟨e0, ⟨e1, ⟨e2, w_⟩⟩⟩ := d_
  subst w_
  have g := rxcRYW_0_2 hP hin I0 hinv l8 u8 l9 u9 l10 u10 e2 e1 e0
  refine ⟨bx_narP_ok (l := []) g.1, bx_nfP_ok h0_ (fvs := []) (by decide +kernel) g.2.1, ?_, ?_⟩
  · show rxIRYW_1 S0 ws S_p (bx_val [(0, 0), (0, 0), (0, 0), (0, 0), (0, 0), (0, 0), (0, 0), (0, 0), (0, 1)] r_p 8)
    rw [bx_val_x (n := 8) (e := (0, 1)) h0_ rfl]
    exact g.2.2.1
  · show rxmRYW_1 S0 ws S_p (bx_val [(0, 0), (0, 0), (0, 0), (0, 0), (0, 0), (0, 0), (0, 0), (0, 0), (0, 1)] r_p 8) < rxmRYW_0 S0 ws S_p
    rw [bx_val_x (n := 8) (e := (0, 1)) h0_ rfl]
    exact g.2.2.2
theorem rxcRYW_0_3 {S0 : Nat → Int → Int} {ws : List Int} {S : Nat → Int → Int} {x8 x9 x10 : Int} (hP : rxPRYW S0 ws) (hin : bx_same rxL (bx_mdl rxCRYW.2.2.1) S0 S) (I0 : bx_Inv rxL S) (hinv : rxIRYW_0 S0 ws S) (l8 : 1 ≤ x8) (u8 : x8 ≤ 1) (l9 : 302 ≤ x9) (u9 : x9 ≤ 302) (l10 : 12 ≤ x10) (u10 : x10 ≤ 12) (e2 : S 480 11 = x8) (e1 : S 480 12 = x9) (e0 : S 480 16 = x10) : (True) ∧ (True) ∧ rxIRYW_1 S0 ws S 0 ∧ rxmRYW_1 S0 ws S 0 < rxmRYW_0 S0 ws S := by
  obtain ⟨hI, hx⟩ := hinv
  obtain ⟨a_, b_, c_, d_⟩ := rxcRY_0_3 hP hin I0 hI l8 u8 l9 u9 l10 u10 e2 e1 e0
  exact ⟨a_, b_, ⟨c_, (fun hD => by
    have e := hI.1
    subst e
    exact Or.inr ⟨rfl, Or.inl (by omega)⟩)⟩, d_⟩
theorem rxgRYW_0_3 {X : (Nat → Int → Int) → Prop} {S0 : Nat → Int → Int} {ws : List Int} (hP : rxPRYW S0 ws) : bx_obC rxL X S0 rxCRYW.2.2.1 (rxIRYW S0 ws) (rxmRYW S0 ws) 0 rxzRYW_0 rxoRYW_0_3 := by
  intro S S_p r r_p hinv hX hin hsm_ hseg
  obtain ⟨I0, I1, h0_, hr_, b_, f_, d_⟩ := bx_cl (evs := [(0, (0, 480), (0, 16), .inr (0, (10, 0))), (0, (0, 480), (0, 12), .inr (1, (9, 0))), (0, (0, 480), (0, 11), .inr (0, (8, 0)))]) (fvs := []) hseg (by decide +kernel) (by decide +kernel)
  have hinv : rxIRYW_0 S0 ws S := hinv
  obtain ⟨⟨l8, u8⟩, ⟨l9, u9⟩, ⟨l10, u10⟩, -⟩ := b_
  obtain ⟨e0, ⟨e1, ⟨e2, w_⟩⟩⟩ := d_
  subst w_
  have g := rxcRYW_0_3 hP hin I0 hinv l8 u8 l9 u9 l10 u10 e2 e1 e0
  refine ⟨bx_narP_ok (l := []) g.1, bx_nfP_ok h0_ (fvs := []) (by decide +kernel) g.2.1, ?_, ?_⟩
  · show rxIRYW_1 S0 ws S_p (bx_val [(0, 0), (0, 0), (0, 0), (0, 0), (0, 0), (0, 0), (0, 0), (0, 0), (0, 0)] r_p 8)
    rw [bx_val_x (n := 8) (e := (0, 0)) h0_ rfl]
    exact g.2.2.1
  · show rxmRYW_1 S0 ws S_p (bx_val [(0, 0), (0, 0), (0, 0), (0, 0), (0, 0), (0, 0), (0, 0), (0, 0), (0, 0)] r_p 8) < rxmRYW_0 S0 ws S_p
    rw [bx_val_x (n := 8) (e := (0, 0)) h0_ rfl]
    exact g.2.2.2
theorem rxcRYW_2_0 {S0 : Nat → Int → Int} {ws : List Int} {S : Nat → Int → Int} {is x9 x10 : Int} (hP : rxPRYW S0 ws) (hin : bx_same rxL (bx_mdl rxCRYW.2.2.1) S0 S) (I0 : bx_Inv rxL S) (hinv : rxIRYW_2 S0 ws S is) (l8 : 0 ≤ is) (u8 : is ≤ 1) (l9 : 0 ≤ x9) (u9 : x9 ≤ 0) (l10 : 0 ≤ x10) (u10 : x10 ≤ 12) (e1 : S 480 14 = x9) (e0 : S 480 16 = x10) : ((0 ≤ x10 ∧ x10 ≤ 11) ∧ True) ∧ (True) ∧ rxIRYW_3 S0 ws S x10 ∧ rxmRYW_3 S0 ws S x10 < rxmRYW_2 S0 ws S is := by
  obtain ⟨hI, hx⟩ := hinv
  obtain ⟨a_, b_, c_, d_⟩ := rxcRY_2_0 hP hin I0 hI l8 u8 l9 u9 l10 u10 e1 e0
  exact ⟨a_, b_, ⟨c_, ⟨by omega, hx⟩⟩, d_⟩
theorem rxgRYW_2_0 {X : (Nat → Int → Int) → Prop} {S0 : Nat → Int → Int} {ws : List Int} (hP : rxPRYW S0 ws) : bx_obC rxL X S0 rxCRYW.2.2.1 (rxIRYW S0 ws) (rxmRYW S0 ws) 2 rxzRYW_2 rxoRYW_2_0 := by
  intro S S_p r r_p hinv hX hin hsm_ hseg
  obtain ⟨I0, I1, h0_, hr_, b_, f_, d_⟩ := bx_cl (evs := [(0, (0, 480), (0, 16), .inr (0, (10, 0))), (0, (0, 480), (0, 14), .inr (0, (9, 0)))]) (fvs := []) hseg (by decide +kernel) (by decide +kernel)
  have hinv : rxIRYW_2 S0 ws S (r 8) := hinv
  rw [← hr_ 8 (by decide)] at hinv
  obtain ⟨⟨l8, u8⟩, ⟨l9, u9⟩, ⟨l10, u10⟩, -⟩ := b_
  obtain ⟨e0, ⟨e1, w_⟩⟩ := d_
  subst w_
  have g := rxcRYW_2_0 hP hin I0 hinv l8 u8 l9 u9 l10 u10 e1 e0
  refine ⟨bx_narP_ok (l := [(10, 0, 11)]) g.1, bx_nfP_ok h0_ (fvs := []) (by decide +kernel) g.2.1, ?_, ?_⟩
  · show rxIRYW_3 S0 ws S_p (bx_val [(0, 0), (0, 0), (0, 0), (0, 0), (0, 0), (0, 0), (0, 0), (0, 0), (10, 0)] r_p 8)
    rw [bx_val_x (n := 8) (e := (10, 0)) h0_ rfl]
    exact g.2.2.1
  · show rxmRYW_3 S0 ws S_p (bx_val [(0, 0), (0, 0), (0, 0), (0, 0), (0, 0), (0, 0), (0, 0), (0, 0), (10, 0)] r_p 8) < rxmRYW_2 S0 ws S_p (r 8)
    rw [bx_val_x (n := 8) (e := (10, 0)) h0_ rfl, ← hr_ 8 (by decide)]
    exact g.2.2.2
theorem rxdRYW_2_0 {S0 : Nat → Int → Int} {ws : List Int} {S : Nat → Int → Int} {is x9 : Int} (hP : rxPRYW S0 ws) (hin : bx_same rxL (bx_mdl rxCRYW.2.2.1) S0 S) (hin2 : bx_same rxL (bx_mdl rxCRYW.2.2.1) S S) (I0 : bx_Inv rxL S) (I1 : bx_Inv rxL S) (hinv : rxIRYW_2 S0 ws S is) (l8 : 0 ≤ is) (u8 : is ≤ 1) (l9 : 1 ≤ x9) (u9 : x9 ≤ 1) (f0 : x9 ≠ 0) (e0 : S 480 14 = x9) : (True) ∧ rxPSRYW S0 ws S none := by
  obtain ⟨hI, hx⟩ := hinv
  obtain ⟨a_, c_⟩ := rxdRY_2_0 hP hin hin2 I0 I1 hI l8 u8 l9 u9 f0 e0
  exact ⟨a_, rfl, c_, (fun c hD hW => rzCa_bd (hx c hD hW) (by omega))⟩
theorem rxfRYW_2_0 {X : (Nat → Int → Int) → Prop} {S0 : Nat → Int → Int} {ws : List Int} (hP : rxPRYW S0 ws) : bx_obE rxL X S0 rxCRYW.2.2.1 (rxIRYW S0 ws) (rxPSRYW S0 ws) 2 rxzRYW_2 rxeRYW_2_0 := by
  intro S S_p r r_p hinv hX hin hsm_ hseg
  obtain ⟨I0, I1, h0_, hr_, b_, f_, d_⟩ := bx_cl (evs := [(0, (0, 480), (0, 14), .inr (0, (9, 0)))]) (fvs := [(3, (9, 0), (0, 0), (0, 0))]) hseg (by decide +kernel) (by decide +kernel)
  have hinv : rxIRYW_2 S0 ws S (r 8) := hinv
  rw [← hr_ 8 (by decide)] at hinv
  obtain ⟨⟨l8, u8⟩, ⟨l9, u9⟩, -⟩ := b_
  obtain ⟨f0, -⟩ := f_
  obtain ⟨e0, w_⟩ := d_
  subst w_
  have g := rxdRYW_2_0 hP hin hsm_ I0 I1 hinv l8 u8 l9 u9 f0 e0
  refine ⟨bx_narP_ok (l := []) g.1, ?_⟩
  exact g.2
theorem rxcRYW_3_0 {S0 : Nat → Int → Int} {ws : List Int} {S : Nat → Int → Int} {nc x9 x10 : Int} (hP : rxPRYW S0 ws) (hin : bx_same rxL (bx_mdl rxCRYW.2.2.1) S0 S) (I0 : bx_Inv rxL S) (hinv : rxIRYW_3 S0 ws S nc) (l8 : 0 ≤ nc) (u8 : nc ≤ 11) (l9 : 0 ≤ x9) (u9 : x9 ≤ 110) (l10 : 0 ≤ x10) (u10 : x10 ≤ 12) (f0 : x9 = 10 * (nc)) (e0 : S 480 16 = x10) : ((0 ≤ x10 ∧ x10 ≤ 11) ∧ True) ∧ (True) ∧ rxIRYW_4 S0 ws S x9 x10 ∧ rxmRYW_4 S0 ws S x9 x10 < rxmRYW_3 S0 ws S nc := by
  obtain ⟨hI, hx⟩ := hinv
  obtain ⟨a_, b_, c_, d_⟩ := rxcRY_3_0 hP hin I0 hI l8 u8 l9 u9 l10 u10 f0 e0
  exact ⟨a_, b_, ⟨c_, hx⟩, d_⟩
theorem rxgRYW_3_0 {X : (Nat → Int → Int) → Prop} {S0 : Nat → Int → Int} {ws : List Int} (hP : rxPRYW S0 ws) : bx_obC rxL X S0 rxCRYW.2.2.1 (rxIRYW S0 ws) (rxmRYW S0 ws) 3 rxzRYW_3 rxoRYW_3_0 := by
  intro S S_p r r_p hinv hX hin hsm_ hseg
  obtain ⟨I0, I1, h0_, hr_, b_, f_, d_⟩ := bx_cl (evs := [(0, (0, 480), (0, 16), .inr (0, (10, 0)))]) (fvs := [(4, (9, 0), (8, 0), (0, 10))]) hseg (by decide +kernel) (by decide +kernel)
  have hinv : rxIRYW_3 S0 ws S (r 8) := hinv
  rw [← hr_ 8 (by decide)] at hinv
  obtain ⟨⟨l8, u8⟩, ⟨l9, u9⟩, ⟨l10, u10⟩, -⟩ := b_
  obtain ⟨f0, -⟩ := f_
  obtain ⟨e0, w_⟩ := d_
  subst w_
  have g := rxcRYW_3_0 hP hin I0 hinv l8 u8 l9 u9 l10 u10 f0 e0
  refine ⟨bx_narP_ok (l := [(10, 0, 11)]) g.1, bx_nfP_ok h0_ (fvs := []) (by decide +kernel) g.2.1, ?_, ?_⟩
  · show rxIRYW_4 S0 ws S_p (bx_val [(0, 0), (0, 0), (0, 0), (0, 0), (0, 0), (0, 0), (0, 0), (0, 0), (9, 0), (10, 0)] r_p 8) (bx_val [(0, 0), (0, 0), (0, 0), (0, 0), (0, 0), (0, 0), (0, 0), (0, 0), (9, 0), (10, 0)] r_p 9)
    rw [bx_val_x (n := 8) (e := (9, 0)) h0_ rfl, bx_val_x (n := 9) (e := (10, 0)) h0_ rfl]
    exact g.2.2.1
  · show rxmRYW_4 S0 ws S_p (bx_val [(0, 0), (0, 0), (0, 0), (0, 0), (0, 0), (0, 0), (0, 0), (0, 0), (9, 0), (10, 0)] r_p 8) (bx_val [(0, 0), (0, 0), (0, 0), (0, 0), (0, 0), (0, 0), (0, 0), (0, 0), (9, 0), (10, 0)] r_p 9) < rxmRYW_3 S0 ws S_p (r 8)
    rw [bx_val_x (n := 8) (e := (9, 0)) h0_ rfl, bx_val_x (n := 9) (e := (10, 0)) h0_ rfl, ← hr_ 8 (by decide)]
    exact g.2.2.2
theorem rxcRYW_4_0 {S0 : Nat → Int → Int} {ws : List Int} {S : Nat → Int → Int} {base nc : Int} (hP : rxPRYW S0 ws) (hin : bx_same rxL (bx_mdl rxCRYW.2.2.1) S0 S) (I0 : bx_Inv rxL S) (hinv : rxIRYW_4 S0 ws S base nc) (l8 : 0 ≤ base) (u8 : base ≤ 110) (l9 : 0 ≤ nc) (u9 : nc ≤ 11) : (True) ∧ (True) ∧ rxIRYW_5 S0 ws (bx_up S 480 16 (nc + 1)) base base ∧ rxmRYW_5 S0 ws (bx_up S 480 16 (nc + 1)) base base < rxmRYW_4 S0 ws S base nc := by
  obtain ⟨hI, hx⟩ := hinv
  obtain ⟨a_, b_, c_, d_⟩ := rxcRY_4_0 hP hin I0 hI l8 u8 l9 u9
  exact ⟨a_, b_, ⟨c_, ⟨((bx_up_ne (by omega))).trans hx.1, fun c hD hW => rzCa_c (hx.2 c hD hW) ⟨congrArg rzCut (funext fun _ => (bx_up_ne (by omega))), (bx_up_ne (by omega)), (bx_up_ne (by omega)), (bx_up_ne (by omega)), fun c => rzCk_c c (funext fun _ => (bx_up_ne (by omega))) (funext fun _ => (bx_up_ne (by omega)))⟩ ⟨(bx_up_ne (by omega)), (bx_up_ne (by omega)), (bx_up_ne (by omega)), (bx_up_ne (by omega))⟩ ((bx_up_ne (by omega))) ((bx_up_ne (by omega)))⟩⟩, d_⟩
theorem rxgRYW_4_0 {X : (Nat → Int → Int) → Prop} {S0 : Nat → Int → Int} {ws : List Int} (hP : rxPRYW S0 ws) : bx_obC rxL X S0 rxCRYW.2.2.1 (rxIRYW S0 ws) (rxmRYW S0 ws) 4 rxzRYW_4 rxoRYW_4_0 := by
  intro S S_p r r_p hinv hX hin hsm_ hseg
  obtain ⟨I0, I1, h0_, hr_, b_, f_, d_⟩ := bx_cl (evs := [(1, (0, 480), (0, 16), .inr (0, (9, 1)))]) (fvs := []) hseg (by decide +kernel) (by decide +kernel)
  have hinv : rxIRYW_4 S0 ws S (r 8) (r 9) := hinv
  rw [← hr_ 8 (by decide), ← hr_ 9 (by decide)] at hinv
  obtain ⟨⟨l8, u8⟩, ⟨l9, u9⟩, -⟩ := b_
  obtain ⟨T0, w_, w0⟩ := d_
  subst w0
  subst w_
  have g := rxcRYW_4_0 hP hin I0 hinv l8 u8 l9 u9
  refine ⟨bx_narP_ok (l := []) g.1, bx_nfP_ok h0_ (fvs := []) (by decide +kernel) g.2.1, ?_, ?_⟩
  · show rxIRYW_5 S0 ws (bx_up T0 480 (16) (r_p 9 + 1)) (bx_val [(0, 0), (0, 0), (0, 0), (0, 0), (0, 0), (0, 0), (0, 0), (0, 0), (8, 0), (8, 0)] r_p 8) (bx_val [(0, 0), (0, 0), (0, 0), (0, 0), (0, 0), (0, 0), (0, 0), (0, 0), (8, 0), (8, 0)] r_p 9)
    rw [bx_val_x (n := 8) (e := (8, 0)) h0_ rfl, bx_val_x (n := 9) (e := (8, 0)) h0_ rfl]
    exact g.2.2.1
  · show rxmRYW_5 S0 ws (bx_up T0 480 (16) (r_p 9 + 1)) (bx_val [(0, 0), (0, 0), (0, 0), (0, 0), (0, 0), (0, 0), (0, 0), (0, 0), (8, 0), (8, 0)] r_p 8) (bx_val [(0, 0), (0, 0), (0, 0), (0, 0), (0, 0), (0, 0), (0, 0), (0, 0), (8, 0), (8, 0)] r_p 9) < rxmRYW_4 S0 ws T0 (r 8) (r 9)
    rw [bx_val_x (n := 8) (e := (8, 0)) h0_ rfl, bx_val_x (n := 9) (e := (8, 0)) h0_ rfl, ← hr_ 8 (by decide), ← hr_ 9 (by decide)]
    exact g.2.2.2
theorem rxcRYW_7_0 {S0 : Nat → Int → Int} {ws : List Int} {S : Nat → Int → Int} {base a v : Int} (hP : rxPRYW S0 ws) (hin : bx_same rxL (bx_mdl rxCRYW.2.2.1) S0 S) (I0 : bx_Inv rxL S) (hinv : rxIRYW_7 S0 ws S base a v) (l8 : 0 ≤ base) (u8 : base ≤ 110) (l9 : 0 ≤ a) (u9 : a ≤ 110) (l10 : (-2147483648) ≤ v) (u10 : v ≤ 2147483647) : (True) ∧ (True) ∧ rxIRYW_8 S0 ws S base ∧ rxmRYW_8 S0 ws S base < rxmRYW_7 S0 ws S base a v := by
  obtain ⟨hI, hx⟩ := hinv
  obtain ⟨a_, b_, c_, d_⟩ := rxcRY_7_0 hP hin I0 hI l8 u8 l9 u9 l10 u10
  exact ⟨a_, b_, ⟨c_, (fun c hD hW => hx c hD hW)⟩, d_⟩
theorem rxgRYW_7_0 {X : (Nat → Int → Int) → Prop} {S0 : Nat → Int → Int} {ws : List Int} (hP : rxPRYW S0 ws) : bx_obC rxL X S0 rxCRYW.2.2.1 (rxIRYW S0 ws) (rxmRYW S0 ws) 7 rxzRYW_7 rxoRYW_7_0 := by
  intro S S_p r r_p hinv hX hin hsm_ hseg
  obtain ⟨I0, I1, h0_, hr_, b_, f_, d_⟩ := bx_cl (evs := []) (fvs := []) hseg (by decide +kernel) (by decide +kernel)
  have hinv : rxIRYW_7 S0 ws S (r 8) (r 9) (r 10) := hinv
  rw [← hr_ 8 (by decide), ← hr_ 9 (by decide), ← hr_ 10 (by decide)] at hinv
  obtain ⟨⟨l8, u8⟩, ⟨l9, u9⟩, ⟨l10, u10⟩, -⟩ := b_
  have w_ := d_
  subst w_
  have g := rxcRYW_7_0 hP hin I0 hinv l8 u8 l9 u9 l10 u10
  refine ⟨bx_narP_ok (l := []) g.1, bx_nfP_ok h0_ (fvs := []) (by decide +kernel) g.2.1, ?_, ?_⟩
  · show rxIRYW_8 S0 ws S_p (bx_val [(0, 0), (0, 0), (0, 0), (0, 0), (0, 0), (0, 0), (0, 0), (0, 0), (8, 0)] r_p 8)
    rw [bx_val_x (n := 8) (e := (8, 0)) h0_ rfl]
    exact g.2.2.1
  · show rxmRYW_8 S0 ws S_p (bx_val [(0, 0), (0, 0), (0, 0), (0, 0), (0, 0), (0, 0), (0, 0), (0, 0), (8, 0)] r_p 8) < rxmRYW_7 S0 ws S_p (r 8) (r 9) (r 10)
    rw [bx_val_x (n := 8) (e := (8, 0)) h0_ rfl, ← hr_ 8 (by decide), ← hr_ 9 (by decide), ← hr_ 10 (by decide)]
    exact g.2.2.2
theorem rxcRYW_10_0 {S0 : Nat → Int → Int} {ws : List Int} {S : Nat → Int → Int} {base is x10 : Int} (hP : rxPRYW S0 ws) (hin : bx_same rxL (bx_mdl rxCRYW.2.2.1) S0 S) (I0 : bx_Inv rxL S) (hinv : rxIRYW_10 S0 ws S base is) (l8 : 0 ≤ base) (u8 : base ≤ 110) (l9 : 0 ≤ is) (u9 : is ≤ 1) (l10 : 1 ≤ x10) (u10 : x10 ≤ 1) (f0 : x10 ≠ 0) (e0 : S 480 14 = x10) : (True) ∧ (True) ∧ rxIRYW_14 S0 ws S base (base + 1) 0 ∧ rxmRYW_14 S0 ws S base (base + 1) 0 < rxmRYW_10 S0 ws S base is := by
  obtain ⟨hI, hx⟩ := hinv
  obtain ⟨a_, b_, c_, d_⟩ := rxcRY_10_0 hP hin I0 hI l8 u8 l9 u9 l10 u10 f0 e0
  exact ⟨a_, b_, ⟨c_, (fun c hD hW => rzCa_b (hx c hD hW) (by omega))⟩, d_⟩
theorem rxgRYW_10_0 {X : (Nat → Int → Int) → Prop} {S0 : Nat → Int → Int} {ws : List Int} (hP : rxPRYW S0 ws) : bx_obC rxL X S0 rxCRYW.2.2.1 (rxIRYW S0 ws) (rxmRYW S0 ws) 10 rxzRYW_10 rxoRYW_10_0 := by
  intro S S_p r r_p hinv hX hin hsm_ hseg
  obtain ⟨I0, I1, h0_, hr_, b_, f_, d_⟩ := bx_cl (evs := [(0, (0, 480), (0, 14), .inr (0, (10, 0)))]) (fvs := [(3, (10, 0), (0, 0), (0, 0))]) hseg (by decide +kernel) (by decide +kernel)
  have hinv : rxIRYW_10 S0 ws S (r 8) (r 9) := hinv
  rw [← hr_ 8 (by decide), ← hr_ 9 (by decide)] at hinv
  obtain ⟨⟨l8, u8⟩, ⟨l9, u9⟩, ⟨l10, u10⟩, -⟩ := b_
  obtain ⟨f0, -⟩ := f_
  obtain ⟨e0, w_⟩ := d_
  subst w_
  have g := rxcRYW_10_0 hP hin I0 hinv l8 u8 l9 u9 l10 u10 f0 e0
  refine ⟨bx_narP_ok (l := []) g.1, bx_nfP_ok h0_ (fvs := []) (by decide +kernel) g.2.1, ?_, ?_⟩
  · show rxIRYW_14 S0 ws S_p (bx_val [(0, 0), (0, 0), (0, 0), (0, 0), (0, 0), (0, 0), (0, 0), (0, 0), (8, 0), (8, 1), (0, 0)] r_p 8) (bx_val [(0, 0), (0, 0), (0, 0), (0, 0), (0, 0), (0, 0), (0, 0), (0, 0), (8, 0), (8, 1), (0, 0)] r_p 9) (bx_val [(0, 0), (0, 0), (0, 0), (0, 0), (0, 0), (0, 0), (0, 0), (0, 0), (8, 0), (8, 1), (0, 0)] r_p 10)
    rw [bx_val_x (n := 8) (e := (8, 0)) h0_ rfl, bx_val_x (n := 9) (e := (8, 1)) h0_ rfl, bx_val_x (n := 10) (e := (0, 0)) h0_ rfl]
    exact g.2.2.1
  · show rxmRYW_14 S0 ws S_p (bx_val [(0, 0), (0, 0), (0, 0), (0, 0), (0, 0), (0, 0), (0, 0), (0, 0), (8, 0), (8, 1), (0, 0)] r_p 8) (bx_val [(0, 0), (0, 0), (0, 0), (0, 0), (0, 0), (0, 0), (0, 0), (0, 0), (8, 0), (8, 1), (0, 0)] r_p 9) (bx_val [(0, 0), (0, 0), (0, 0), (0, 0), (0, 0), (0, 0), (0, 0), (0, 0), (8, 0), (8, 1), (0, 0)] r_p 10) < rxmRYW_10 S0 ws S_p (r 8) (r 9)
    rw [bx_val_x (n := 8) (e := (8, 0)) h0_ rfl, bx_val_x (n := 9) (e := (8, 1)) h0_ rfl, bx_val_x (n := 10) (e := (0, 0)) h0_ rfl, ← hr_ 8 (by decide), ← hr_ 9 (by decide)]
    exact g.2.2.2
theorem rxcRYW_10_1 {S0 : Nat → Int → Int} {ws : List Int} {S : Nat → Int → Int} {base is x10 : Int} (hP : rxPRYW S0 ws) (hin : bx_same rxL (bx_mdl rxCRYW.2.2.1) S0 S) (I0 : bx_Inv rxL S) (hinv : rxIRYW_10 S0 ws S base is) (l8 : 0 ≤ base) (u8 : base ≤ 110) (l9 : 0 ≤ is) (u9 : is ≤ 1) (l10 : 0 ≤ x10) (u10 : x10 ≤ 0) (e0 : S 480 14 = x10) : (True) ∧ (True) ∧ rxIRYW_11 S0 ws S base (base + 1) ∧ rxmRYW_11 S0 ws S base (base + 1) < rxmRYW_10 S0 ws S base is := by
  obtain ⟨hI, hx⟩ := hinv
  obtain ⟨a_, b_, c_, d_⟩ := rxcRY_10_1 hP hin I0 hI l8 u8 l9 u9 l10 u10 e0
  exact ⟨a_, b_, ⟨c_, ⟨by omega, hx⟩⟩, d_⟩
theorem rxgRYW_10_1 {X : (Nat → Int → Int) → Prop} {S0 : Nat → Int → Int} {ws : List Int} (hP : rxPRYW S0 ws) : bx_obC rxL X S0 rxCRYW.2.2.1 (rxIRYW S0 ws) (rxmRYW S0 ws) 10 rxzRYW_10 rxoRYW_10_1 := by
  intro S S_p r r_p hinv hX hin hsm_ hseg
  obtain ⟨I0, I1, h0_, hr_, b_, f_, d_⟩ := bx_cl (evs := [(0, (0, 480), (0, 14), .inr (0, (10, 0)))]) (fvs := []) hseg (by decide +kernel) (by decide +kernel)
  have hinv : rxIRYW_10 S0 ws S (r 8) (r 9) := hinv
  rw [← hr_ 8 (by decide), ← hr_ 9 (by decide)] at hinv
  obtain ⟨⟨l8, u8⟩, ⟨l9, u9⟩, ⟨l10, u10⟩, -⟩ := b_
  obtain ⟨e0, w_⟩ := d_
  subst w_
  have g := rxcRYW_10_1 hP hin I0 hinv l8 u8 l9 u9 l10 u10 e0
  refine ⟨bx_narP_ok (l := []) g.1, bx_nfP_ok h0_ (fvs := []) (by decide +kernel) g.2.1, ?_, ?_⟩
  · show rxIRYW_11 S0 ws S_p (bx_val [(0, 0), (0, 0), (0, 0), (0, 0), (0, 0), (0, 0), (0, 0), (0, 0), (8, 0), (8, 1)] r_p 8) (bx_val [(0, 0), (0, 0), (0, 0), (0, 0), (0, 0), (0, 0), (0, 0), (0, 0), (8, 0), (8, 1)] r_p 9)
    rw [bx_val_x (n := 8) (e := (8, 0)) h0_ rfl, bx_val_x (n := 9) (e := (8, 1)) h0_ rfl]
    exact g.2.2.1
  · show rxmRYW_11 S0 ws S_p (bx_val [(0, 0), (0, 0), (0, 0), (0, 0), (0, 0), (0, 0), (0, 0), (0, 0), (8, 0), (8, 1)] r_p 8) (bx_val [(0, 0), (0, 0), (0, 0), (0, 0), (0, 0), (0, 0), (0, 0), (0, 0), (8, 0), (8, 1)] r_p 9) < rxmRYW_10 S0 ws S_p (r 8) (r 9)
    rw [bx_val_x (n := 8) (e := (8, 0)) h0_ rfl, bx_val_x (n := 9) (e := (8, 1)) h0_ rfl, ← hr_ 8 (by decide), ← hr_ 9 (by decide)]
    exact g.2.2.2
theorem rxcRYW_13_0 {S0 : Nat → Int → Int} {ws : List Int} {S : Nat → Int → Int} {base a v x11 : Int} (hP : rxPRYW S0 ws) (hin : bx_same rxL (bx_mdl rxCRYW.2.2.1) S0 S) (I0 : bx_Inv rxL S) (hinv : rxIRYW_13 S0 ws S base a v) (l8 : 0 ≤ base) (u8 : base ≤ 110) (l9 : 1 ≤ a) (u9 : a ≤ 111) (l10 : (-2147483648) ≤ v) (u10 : v ≤ 2147483647) (l11 : 0 ≤ x11) (u11 : x11 ≤ 3) (f0 : x11 ≠ 1) (f1 : x11 ≠ 1) (e0 : S 480 11 = x11) : (True) ∧ (True) ∧ rxIRYW_16 S0 ws S base 0 0 ∧ rxmRYW_16 S0 ws S base 0 0 < rxmRYW_13 S0 ws S base a v := by
  obtain ⟨hI, hx⟩ := hinv
  obtain ⟨a_, b_, c_, d_⟩ := rxcRY_13_0 hP hin I0 hI l8 u8 l9 u9 l10 u10 l11 u11 f0 f1 e0
  exact ⟨a_, b_, ⟨c_, ⟨hx, fun b => Or.inr (Or.inr ⟨rfl, rfl, rzDq_no b (w := rzW_hush) (v := 284264) (by decide) (by decide) (by omega), rzDq_no b (w := rzW_say) (v := 19513) (by decide) (by decide) (by omega)⟩)⟩⟩, d_⟩
theorem rxgRYW_13_0 {X : (Nat → Int → Int) → Prop} {S0 : Nat → Int → Int} {ws : List Int} (hP : rxPRYW S0 ws) : bx_obC rxL X S0 rxCRYW.2.2.1 (rxIRYW S0 ws) (rxmRYW S0 ws) 13 rxzRYW_13 rxoRYW_13_0 := by
  intro S S_p r r_p hinv hX hin hsm_ hseg
  obtain ⟨I0, I1, h0_, hr_, b_, f_, d_⟩ := bx_cl (evs := [(0, (0, 480), (0, 11), .inr (0, (11, 0)))]) (fvs := [(3, (11, 0), (0, 1), (0, 0)), (3, (11, 0), (0, 1), (0, 0))]) hseg (by decide +kernel) (by decide +kernel)
  have hinv : rxIRYW_13 S0 ws S (r 8) (r 9) (r 10) := hinv
  rw [← hr_ 8 (by decide), ← hr_ 9 (by decide), ← hr_ 10 (by decide)] at hinv
  obtain ⟨⟨l8, u8⟩, ⟨l9, u9⟩, ⟨l10, u10⟩, ⟨l11, u11⟩, -⟩ := b_
  obtain ⟨f0, f1, -⟩ := f_
  obtain ⟨e0, w_⟩ := d_
  subst w_
  have g := rxcRYW_13_0 hP hin I0 hinv l8 u8 l9 u9 l10 u10 l11 u11 f0 f1 e0
  refine ⟨bx_narP_ok (l := []) g.1, bx_nfP_ok h0_ (fvs := []) (by decide +kernel) g.2.1, ?_, ?_⟩
  · show rxIRYW_16 S0 ws S_p (bx_val [(0, 0), (0, 0), (0, 0), (0, 0), (0, 0), (0, 0), (0, 0), (0, 0), (8, 0), (0, 0), (0, 0)] r_p 8) (bx_val [(0, 0), (0, 0), (0, 0), (0, 0), (0, 0), (0, 0), (0, 0), (0, 0), (8, 0), (0, 0), (0, 0)] r_p 9) (bx_val [(0, 0), (0, 0), (0, 0), (0, 0), (0, 0), (0, 0), (0, 0), (0, 0), (8, 0), (0, 0), (0, 0)] r_p 10)
    rw [bx_val_x (n := 8) (e := (8, 0)) h0_ rfl, bx_val_x (n := 9) (e := (0, 0)) h0_ rfl, bx_val_x (n := 10) (e := (0, 0)) h0_ rfl]
    exact g.2.2.1
  · show rxmRYW_16 S0 ws S_p (bx_val [(0, 0), (0, 0), (0, 0), (0, 0), (0, 0), (0, 0), (0, 0), (0, 0), (8, 0), (0, 0), (0, 0)] r_p 8) (bx_val [(0, 0), (0, 0), (0, 0), (0, 0), (0, 0), (0, 0), (0, 0), (0, 0), (8, 0), (0, 0), (0, 0)] r_p 9) (bx_val [(0, 0), (0, 0), (0, 0), (0, 0), (0, 0), (0, 0), (0, 0), (0, 0), (8, 0), (0, 0), (0, 0)] r_p 10) < rxmRYW_13 S0 ws S_p (r 8) (r 9) (r 10)
    rw [bx_val_x (n := 8) (e := (8, 0)) h0_ rfl, bx_val_x (n := 9) (e := (0, 0)) h0_ rfl, bx_val_x (n := 10) (e := (0, 0)) h0_ rfl, ← hr_ 8 (by decide), ← hr_ 9 (by decide), ← hr_ 10 (by decide)]
    exact g.2.2.2
theorem rxcRYW_13_1 {S0 : Nat → Int → Int} {ws : List Int} {S : Nat → Int → Int} {base a v x11 x12 : Int} (hP : rxPRYW S0 ws) (hin : bx_same rxL (bx_mdl rxCRYW.2.2.1) S0 S) (I0 : bx_Inv rxL S) (hinv : rxIRYW_13 S0 ws S base a v) (l8 : 0 ≤ base) (u8 : base ≤ 110) (l9 : 1 ≤ a) (u9 : a ≤ 111) (l10 : (-2147483648) ≤ v) (u10 : v ≤ 2147483647) (l11 : 1 ≤ x11) (u11 : x11 ≤ 1) (l12 : (-9223372036854775808) ≤ x12) (u12 : x12 ≤ 9223372036854775807) (f0 : x12 ≠ 19513) (f1 : x12 ≠ 284264) (e1 : S 480 11 = x11) (e0 : S 480 12 = x12) : (True) ∧ (True) ∧ rxIRYW_16 S0 ws S base 0 0 ∧ rxmRYW_16 S0 ws S base 0 0 < rxmRYW_13 S0 ws S base a v := by
  obtain ⟨hI, hx⟩ := hinv
  obtain ⟨a_, b_, c_, d_⟩ := rxcRY_13_1 hP hin I0 hI l8 u8 l9 u9 l10 u10 l11 u11 l12 u12 f0 f1 e1 e0
  exact ⟨a_, b_, ⟨c_, ⟨hx, fun b => Or.inr (Or.inr ⟨rfl, rfl, rzDq_no b (w := rzW_hush) (v := 284264) (by decide) (by decide) (by omega), rzDq_no b (w := rzW_say) (v := 19513) (by decide) (by decide) (by omega)⟩)⟩⟩, d_⟩
theorem rxgRYW_13_1 {X : (Nat → Int → Int) → Prop} {S0 : Nat → Int → Int} {ws : List Int} (hP : rxPRYW S0 ws) : bx_obC rxL X S0 rxCRYW.2.2.1 (rxIRYW S0 ws) (rxmRYW S0 ws) 13 rxzRYW_13 rxoRYW_13_1 := by
  intro S S_p r r_p hinv hX hin hsm_ hseg
  obtain ⟨I0, I1, h0_, hr_, b_, f_, d_⟩ := bx_cl (evs := [(0, (0, 480), (0, 12), .inr (1, (12, 0))), (0, (0, 480), (0, 11), .inr (0, (11, 0)))]) (fvs := [(3, (12, 0), (0, 19513), (0, 0)), (3, (12, 0), (0, 284264), (0, 0))]) hseg (by decide +kernel) (by decide +kernel)
  have hinv : rxIRYW_13 S0 ws S (r 8) (r 9) (r 10) := hinv
  rw [← hr_ 8 (by decide), ← hr_ 9 (by decide), ← hr_ 10 (by decide)] at hinv
  obtain ⟨⟨l8, u8⟩, ⟨l9, u9⟩, ⟨l10, u10⟩, ⟨l11, u11⟩, ⟨l12, u12⟩, -⟩ := b_
  obtain ⟨f0, f1, -⟩ := f_
  obtain ⟨e0, ⟨e1, w_⟩⟩ := d_
  subst w_
  have g := rxcRYW_13_1 hP hin I0 hinv l8 u8 l9 u9 l10 u10 l11 u11 l12 u12 f0 f1 e1 e0
  refine ⟨bx_narP_ok (l := []) g.1, bx_nfP_ok h0_ (fvs := []) (by decide +kernel) g.2.1, ?_, ?_⟩
  · show rxIRYW_16 S0 ws S_p (bx_val [(0, 0), (0, 0), (0, 0), (0, 0), (0, 0), (0, 0), (0, 0), (0, 0), (8, 0), (0, 0), (0, 0)] r_p 8) (bx_val [(0, 0), (0, 0), (0, 0), (0, 0), (0, 0), (0, 0), (0, 0), (0, 0), (8, 0), (0, 0), (0, 0)] r_p 9) (bx_val [(0, 0), (0, 0), (0, 0), (0, 0), (0, 0), (0, 0), (0, 0), (0, 0), (8, 0), (0, 0), (0, 0)] r_p 10)
    rw [bx_val_x (n := 8) (e := (8, 0)) h0_ rfl, bx_val_x (n := 9) (e := (0, 0)) h0_ rfl, bx_val_x (n := 10) (e := (0, 0)) h0_ rfl]
    exact g.2.2.1
  · show rxmRYW_16 S0 ws S_p (bx_val [(0, 0), (0, 0), (0, 0), (0, 0), (0, 0), (0, 0), (0, 0), (0, 0), (8, 0), (0, 0), (0, 0)] r_p 8) (bx_val [(0, 0), (0, 0), (0, 0), (0, 0), (0, 0), (0, 0), (0, 0), (0, 0), (8, 0), (0, 0), (0, 0)] r_p 9) (bx_val [(0, 0), (0, 0), (0, 0), (0, 0), (0, 0), (0, 0), (0, 0), (0, 0), (8, 0), (0, 0), (0, 0)] r_p 10) < rxmRYW_13 S0 ws S_p (r 8) (r 9) (r 10)
    rw [bx_val_x (n := 8) (e := (8, 0)) h0_ rfl, bx_val_x (n := 9) (e := (0, 0)) h0_ rfl, bx_val_x (n := 10) (e := (0, 0)) h0_ rfl, ← hr_ 8 (by decide), ← hr_ 9 (by decide), ← hr_ 10 (by decide)]
    exact g.2.2.2
theorem rxcRYW_13_2 {S0 : Nat → Int → Int} {ws : List Int} {S : Nat → Int → Int} {base a v x11 x12 : Int} (hP : rxPRYW S0 ws) (hin : bx_same rxL (bx_mdl rxCRYW.2.2.1) S0 S) (I0 : bx_Inv rxL S) (hinv : rxIRYW_13 S0 ws S base a v) (l8 : 0 ≤ base) (u8 : base ≤ 110) (l9 : 1 ≤ a) (u9 : a ≤ 111) (l10 : (-2147483648) ≤ v) (u10 : v ≤ 2147483647) (l11 : 1 ≤ x11) (u11 : x11 ≤ 1) (l12 : 19513 ≤ x12) (u12 : x12 ≤ 19513) (f0 : x12 ≠ 284264) (e1 : S 480 11 = x11) (e0 : S 480 12 = x12) : (True) ∧ (True) ∧ rxIRYW_16 S0 ws S base 0 1 ∧ rxmRYW_16 S0 ws S base 0 1 < rxmRYW_13 S0 ws S base a v := by
  obtain ⟨hI, hx⟩ := hinv
  obtain ⟨a_, b_, c_, d_⟩ := rxcRY_13_2 hP hin I0 hI l8 u8 l9 u9 l10 u10 l11 u11 l12 u12 f0 e1 e0
  exact ⟨a_, b_, ⟨c_, ⟨hx, fun b => Or.inr (Or.inl ⟨rfl, rfl, (rzDq_is b (w := rzW_say) (v := 19513) (by decide) (by decide)).mp ⟨by omega, by omega⟩, rzDq_no b (w := rzW_hush) (v := 284264) (by decide) (by decide) (by omega)⟩)⟩⟩, d_⟩
theorem rxgRYW_13_2 {X : (Nat → Int → Int) → Prop} {S0 : Nat → Int → Int} {ws : List Int} (hP : rxPRYW S0 ws) : bx_obC rxL X S0 rxCRYW.2.2.1 (rxIRYW S0 ws) (rxmRYW S0 ws) 13 rxzRYW_13 rxoRYW_13_2 := by
  intro S S_p r r_p hinv hX hin hsm_ hseg
  obtain ⟨I0, I1, h0_, hr_, b_, f_, d_⟩ := bx_cl (evs := [(0, (0, 480), (0, 12), .inr (1, (12, 0))), (0, (0, 480), (0, 11), .inr (0, (11, 0)))]) (fvs := [(3, (12, 0), (0, 284264), (0, 0))]) hseg (by decide +kernel) (by decide +kernel)
  have hinv : rxIRYW_13 S0 ws S (r 8) (r 9) (r 10) := hinv
  rw [← hr_ 8 (by decide), ← hr_ 9 (by decide), ← hr_ 10 (by decide)] at hinv
  obtain ⟨⟨l8, u8⟩, ⟨l9, u9⟩, ⟨l10, u10⟩, ⟨l11, u11⟩, ⟨l12, u12⟩, -⟩ := b_
  obtain ⟨f0, -⟩ := f_
  obtain ⟨e0, ⟨e1, w_⟩⟩ := d_
  subst w_
  have g := rxcRYW_13_2 hP hin I0 hinv l8 u8 l9 u9 l10 u10 l11 u11 l12 u12 f0 e1 e0
  refine ⟨bx_narP_ok (l := []) g.1, bx_nfP_ok h0_ (fvs := []) (by decide +kernel) g.2.1, ?_, ?_⟩
  · show rxIRYW_16 S0 ws S_p (bx_val [(0, 0), (0, 0), (0, 0), (0, 0), (0, 0), (0, 0), (0, 0), (0, 0), (8, 0), (0, 0), (0, 1)] r_p 8) (bx_val [(0, 0), (0, 0), (0, 0), (0, 0), (0, 0), (0, 0), (0, 0), (0, 0), (8, 0), (0, 0), (0, 1)] r_p 9) (bx_val [(0, 0), (0, 0), (0, 0), (0, 0), (0, 0), (0, 0), (0, 0), (0, 0), (8, 0), (0, 0), (0, 1)] r_p 10)
    rw [bx_val_x (n := 8) (e := (8, 0)) h0_ rfl, bx_val_x (n := 9) (e := (0, 0)) h0_ rfl, bx_val_x (n := 10) (e := (0, 1)) h0_ rfl]
    exact g.2.2.1
  · show rxmRYW_16 S0 ws S_p (bx_val [(0, 0), (0, 0), (0, 0), (0, 0), (0, 0), (0, 0), (0, 0), (0, 0), (8, 0), (0, 0), (0, 1)] r_p 8) (bx_val [(0, 0), (0, 0), (0, 0), (0, 0), (0, 0), (0, 0), (0, 0), (0, 0), (8, 0), (0, 0), (0, 1)] r_p 9) (bx_val [(0, 0), (0, 0), (0, 0), (0, 0), (0, 0), (0, 0), (0, 0), (0, 0), (8, 0), (0, 0), (0, 1)] r_p 10) < rxmRYW_13 S0 ws S_p (r 8) (r 9) (r 10)
    rw [bx_val_x (n := 8) (e := (8, 0)) h0_ rfl, bx_val_x (n := 9) (e := (0, 0)) h0_ rfl, bx_val_x (n := 10) (e := (0, 1)) h0_ rfl, ← hr_ 8 (by decide), ← hr_ 9 (by decide), ← hr_ 10 (by decide)]
    exact g.2.2.2
theorem rxcRYW_13_3 {S0 : Nat → Int → Int} {ws : List Int} {S : Nat → Int → Int} {base a v x11 x12 : Int} (hP : rxPRYW S0 ws) (hin : bx_same rxL (bx_mdl rxCRYW.2.2.1) S0 S) (I0 : bx_Inv rxL S) (hinv : rxIRYW_13 S0 ws S base a v) (l8 : 0 ≤ base) (u8 : base ≤ 110) (l9 : 1 ≤ a) (u9 : a ≤ 111) (l10 : (-2147483648) ≤ v) (u10 : v ≤ 2147483647) (l11 : 1 ≤ x11) (u11 : x11 ≤ 1) (l12 : 284264 ≤ x12) (u12 : x12 ≤ 284264) (e1 : S 480 11 = x11) (e0 : S 480 12 = x12) : (True) ∧ (True) ∧ rxIRYW_16 S0 ws S base 1 1 ∧ rxmRYW_16 S0 ws S base 1 1 < rxmRYW_13 S0 ws S base a v := by
  obtain ⟨hI, hx⟩ := hinv
  obtain ⟨a_, b_, c_, d_⟩ := rxcRY_13_3 hP hin I0 hI l8 u8 l9 u9 l10 u10 l11 u11 l12 u12 e1 e0
  exact ⟨a_, b_, ⟨c_, ⟨hx, fun b => Or.inl ⟨rfl, rfl, (rzDq_is b (w := rzW_hush) (v := 284264) (by decide) (by decide)).mp ⟨by omega, by omega⟩⟩⟩⟩, d_⟩
theorem rxgRYW_13_3 {X : (Nat → Int → Int) → Prop} {S0 : Nat → Int → Int} {ws : List Int} (hP : rxPRYW S0 ws) : bx_obC rxL X S0 rxCRYW.2.2.1 (rxIRYW S0 ws) (rxmRYW S0 ws) 13 rxzRYW_13 rxoRYW_13_3 := by
  intro S S_p r r_p hinv hX hin hsm_ hseg
  obtain ⟨I0, I1, h0_, hr_, b_, f_, d_⟩ := bx_cl (evs := [(0, (0, 480), (0, 12), .inr (1, (12, 0))), (0, (0, 480), (0, 11), .inr (0, (11, 0)))]) (fvs := []) hseg (by decide +kernel) (by decide +kernel)
  have hinv : rxIRYW_13 S0 ws S (r 8) (r 9) (r 10) := hinv
  rw [← hr_ 8 (by decide), ← hr_ 9 (by decide), ← hr_ 10 (by decide)] at hinv
  obtain ⟨⟨l8, u8⟩, ⟨l9, u9⟩, ⟨l10, u10⟩, ⟨l11, u11⟩, ⟨l12, u12⟩, -⟩ := b_
  obtain ⟨e0, ⟨e1, w_⟩⟩ := d_
  subst w_
  have g := rxcRYW_13_3 hP hin I0 hinv l8 u8 l9 u9 l10 u10 l11 u11 l12 u12 e1 e0
  refine ⟨bx_narP_ok (l := []) g.1, bx_nfP_ok h0_ (fvs := []) (by decide +kernel) g.2.1, ?_, ?_⟩
  · show rxIRYW_16 S0 ws S_p (bx_val [(0, 0), (0, 0), (0, 0), (0, 0), (0, 0), (0, 0), (0, 0), (0, 0), (8, 0), (0, 1), (0, 1)] r_p 8) (bx_val [(0, 0), (0, 0), (0, 0), (0, 0), (0, 0), (0, 0), (0, 0), (0, 0), (8, 0), (0, 1), (0, 1)] r_p 9) (bx_val [(0, 0), (0, 0), (0, 0), (0, 0), (0, 0), (0, 0), (0, 0), (0, 0), (8, 0), (0, 1), (0, 1)] r_p 10)
    rw [bx_val_x (n := 8) (e := (8, 0)) h0_ rfl, bx_val_x (n := 9) (e := (0, 1)) h0_ rfl, bx_val_x (n := 10) (e := (0, 1)) h0_ rfl]
    exact g.2.2.1
  · show rxmRYW_16 S0 ws S_p (bx_val [(0, 0), (0, 0), (0, 0), (0, 0), (0, 0), (0, 0), (0, 0), (0, 0), (8, 0), (0, 1), (0, 1)] r_p 8) (bx_val [(0, 0), (0, 0), (0, 0), (0, 0), (0, 0), (0, 0), (0, 0), (0, 0), (8, 0), (0, 1), (0, 1)] r_p 9) (bx_val [(0, 0), (0, 0), (0, 0), (0, 0), (0, 0), (0, 0), (0, 0), (0, 0), (8, 0), (0, 1), (0, 1)] r_p 10) < rxmRYW_13 S0 ws S_p (r 8) (r 9) (r 10)
    rw [bx_val_x (n := 8) (e := (8, 0)) h0_ rfl, bx_val_x (n := 9) (e := (0, 1)) h0_ rfl, bx_val_x (n := 10) (e := (0, 1)) h0_ rfl, ← hr_ 8 (by decide), ← hr_ 9 (by decide), ← hr_ 10 (by decide)]
    exact g.2.2.2
theorem rxcRYW_15_0 {S0 : Nat → Int → Int} {ws : List Int} {S : Nat → Int → Int} {base a v x11 : Int} (hP : rxPRYW S0 ws) (hin : bx_same rxL (bx_mdl rxCRYW.2.2.1) S0 S) (I0 : bx_Inv rxL S) (hinv : rxIRYW_15 S0 ws S base a v) (l8 : 0 ≤ base) (u8 : base ≤ 110) (l9 : 1 ≤ a) (u9 : a ≤ 111) (l10 : 0 ≤ v) (u10 : v ≤ 0) (l11 : 0 ≤ x11) (u11 : x11 ≤ 3) (f0 : x11 ≠ 1) (f1 : x11 ≠ 1) (e0 : S 480 11 = x11) : (True) ∧ (True) ∧ rxIRYW_16 S0 ws S base 0 0 ∧ rxmRYW_16 S0 ws S base 0 0 < rxmRYW_15 S0 ws S base a v := by
  obtain ⟨hI, hx⟩ := hinv
  obtain ⟨a_, b_, c_, d_⟩ := rxcRY_15_0 hP hin I0 hI l8 u8 l9 u9 l10 u10 l11 u11 f0 f1 e0
  exact ⟨a_, b_, ⟨c_, ⟨hx, fun b => Or.inr (Or.inr ⟨rfl, rfl, rzDq_no b (w := rzW_hush) (v := 284264) (by decide) (by decide) (by omega), rzDq_no b (w := rzW_say) (v := 19513) (by decide) (by decide) (by omega)⟩)⟩⟩, d_⟩
theorem rxgRYW_15_0 {X : (Nat → Int → Int) → Prop} {S0 : Nat → Int → Int} {ws : List Int} (hP : rxPRYW S0 ws) : bx_obC rxL X S0 rxCRYW.2.2.1 (rxIRYW S0 ws) (rxmRYW S0 ws) 15 rxzRYW_15 rxoRYW_15_0 := by
  intro S S_p r r_p hinv hX hin hsm_ hseg
  obtain ⟨I0, I1, h0_, hr_, b_, f_, d_⟩ := bx_cl (evs := [(0, (0, 480), (0, 11), .inr (0, (11, 0)))]) (fvs := [(3, (11, 0), (0, 1), (0, 0)), (3, (11, 0), (0, 1), (0, 0))]) hseg (by decide +kernel) (by decide +kernel)
  have hinv : rxIRYW_15 S0 ws S (r 8) (r 9) (r 10) := hinv
  rw [← hr_ 8 (by decide), ← hr_ 9 (by decide), ← hr_ 10 (by decide)] at hinv
  obtain ⟨⟨l8, u8⟩, ⟨l9, u9⟩, ⟨l10, u10⟩, ⟨l11, u11⟩, -⟩ := b_
  obtain ⟨f0, f1, -⟩ := f_
  obtain ⟨e0, w_⟩ := d_
  subst w_
  have g := rxcRYW_15_0 hP hin I0 hinv l8 u8 l9 u9 l10 u10 l11 u11 f0 f1 e0
  refine ⟨bx_narP_ok (l := []) g.1, bx_nfP_ok h0_ (fvs := []) (by decide +kernel) g.2.1, ?_, ?_⟩
  · show rxIRYW_16 S0 ws S_p (bx_val [(0, 0), (0, 0), (0, 0), (0, 0), (0, 0), (0, 0), (0, 0), (0, 0), (8, 0), (0, 0), (0, 0)] r_p 8) (bx_val [(0, 0), (0, 0), (0, 0), (0, 0), (0, 0), (0, 0), (0, 0), (0, 0), (8, 0), (0, 0), (0, 0)] r_p 9) (bx_val [(0, 0), (0, 0), (0, 0), (0, 0), (0, 0), (0, 0), (0, 0), (0, 0), (8, 0), (0, 0), (0, 0)] r_p 10)
    rw [bx_val_x (n := 8) (e := (8, 0)) h0_ rfl, bx_val_x (n := 9) (e := (0, 0)) h0_ rfl, bx_val_x (n := 10) (e := (0, 0)) h0_ rfl]
    exact g.2.2.1
  · show rxmRYW_16 S0 ws S_p (bx_val [(0, 0), (0, 0), (0, 0), (0, 0), (0, 0), (0, 0), (0, 0), (0, 0), (8, 0), (0, 0), (0, 0)] r_p 8) (bx_val [(0, 0), (0, 0), (0, 0), (0, 0), (0, 0), (0, 0), (0, 0), (0, 0), (8, 0), (0, 0), (0, 0)] r_p 9) (bx_val [(0, 0), (0, 0), (0, 0), (0, 0), (0, 0), (0, 0), (0, 0), (0, 0), (8, 0), (0, 0), (0, 0)] r_p 10) < rxmRYW_15 S0 ws S_p (r 8) (r 9) (r 10)
    rw [bx_val_x (n := 8) (e := (8, 0)) h0_ rfl, bx_val_x (n := 9) (e := (0, 0)) h0_ rfl, bx_val_x (n := 10) (e := (0, 0)) h0_ rfl, ← hr_ 8 (by decide), ← hr_ 9 (by decide), ← hr_ 10 (by decide)]
    exact g.2.2.2
theorem rxcRYW_15_1 {S0 : Nat → Int → Int} {ws : List Int} {S : Nat → Int → Int} {base a v x11 x12 : Int} (hP : rxPRYW S0 ws) (hin : bx_same rxL (bx_mdl rxCRYW.2.2.1) S0 S) (I0 : bx_Inv rxL S) (hinv : rxIRYW_15 S0 ws S base a v) (l8 : 0 ≤ base) (u8 : base ≤ 110) (l9 : 1 ≤ a) (u9 : a ≤ 111) (l10 : 0 ≤ v) (u10 : v ≤ 0) (l11 : 1 ≤ x11) (u11 : x11 ≤ 1) (l12 : (-9223372036854775808) ≤ x12) (u12 : x12 ≤ 9223372036854775807) (f0 : x12 ≠ 19513) (f1 : x12 ≠ 284264) (e1 : S 480 11 = x11) (e0 : S 480 12 = x12) : (True) ∧ (True) ∧ rxIRYW_16 S0 ws S base 0 0 ∧ rxmRYW_16 S0 ws S base 0 0 < rxmRYW_15 S0 ws S base a v := by
  obtain ⟨hI, hx⟩ := hinv
  obtain ⟨a_, b_, c_, d_⟩ := rxcRY_15_1 hP hin I0 hI l8 u8 l9 u9 l10 u10 l11 u11 l12 u12 f0 f1 e1 e0
  exact ⟨a_, b_, ⟨c_, ⟨hx, fun b => Or.inr (Or.inr ⟨rfl, rfl, rzDq_no b (w := rzW_hush) (v := 284264) (by decide) (by decide) (by omega), rzDq_no b (w := rzW_say) (v := 19513) (by decide) (by decide) (by omega)⟩)⟩⟩, d_⟩
theorem rxgRYW_15_1 {X : (Nat → Int → Int) → Prop} {S0 : Nat → Int → Int} {ws : List Int} (hP : rxPRYW S0 ws) : bx_obC rxL X S0 rxCRYW.2.2.1 (rxIRYW S0 ws) (rxmRYW S0 ws) 15 rxzRYW_15 rxoRYW_15_1 := by
  intro S S_p r r_p hinv hX hin hsm_ hseg
  obtain ⟨I0, I1, h0_, hr_, b_, f_, d_⟩ := bx_cl (evs := [(0, (0, 480), (0, 12), .inr (1, (12, 0))), (0, (0, 480), (0, 11), .inr (0, (11, 0)))]) (fvs := [(3, (12, 0), (0, 19513), (0, 0)), (3, (12, 0), (0, 284264), (0, 0))]) hseg (by decide +kernel) (by decide +kernel)
  have hinv : rxIRYW_15 S0 ws S (r 8) (r 9) (r 10) := hinv
  rw [← hr_ 8 (by decide), ← hr_ 9 (by decide), ← hr_ 10 (by decide)] at hinv
  obtain ⟨⟨l8, u8⟩, ⟨l9, u9⟩, ⟨l10, u10⟩, ⟨l11, u11⟩, ⟨l12, u12⟩, -⟩ := b_
  obtain ⟨f0, f1, -⟩ := f_
  obtain ⟨e0, ⟨e1, w_⟩⟩ := d_
  subst w_
  have g := rxcRYW_15_1 hP hin I0 hinv l8 u8 l9 u9 l10 u10 l11 u11 l12 u12 f0 f1 e1 e0
  refine ⟨bx_narP_ok (l := []) g.1, bx_nfP_ok h0_ (fvs := []) (by decide +kernel) g.2.1, ?_, ?_⟩
  · show rxIRYW_16 S0 ws S_p (bx_val [(0, 0), (0, 0), (0, 0), (0, 0), (0, 0), (0, 0), (0, 0), (0, 0), (8, 0), (0, 0), (0, 0)] r_p 8) (bx_val [(0, 0), (0, 0), (0, 0), (0, 0), (0, 0), (0, 0), (0, 0), (0, 0), (8, 0), (0, 0), (0, 0)] r_p 9) (bx_val [(0, 0), (0, 0), (0, 0), (0, 0), (0, 0), (0, 0), (0, 0), (0, 0), (8, 0), (0, 0), (0, 0)] r_p 10)
    rw [bx_val_x (n := 8) (e := (8, 0)) h0_ rfl, bx_val_x (n := 9) (e := (0, 0)) h0_ rfl, bx_val_x (n := 10) (e := (0, 0)) h0_ rfl]
    exact g.2.2.1
  · show rxmRYW_16 S0 ws S_p (bx_val [(0, 0), (0, 0), (0, 0), (0, 0), (0, 0), (0, 0), (0, 0), (0, 0), (8, 0), (0, 0), (0, 0)] r_p 8) (bx_val [(0, 0), (0, 0), (0, 0), (0, 0), (0, 0), (0, 0), (0, 0), (0, 0), (8, 0), (0, 0), (0, 0)] r_p 9) (bx_val [(0, 0), (0, 0), (0, 0), (0, 0), (0, 0), (0, 0), (0, 0), (0, 0), (8, 0), (0, 0), (0, 0)] r_p 10) < rxmRYW_15 S0 ws S_p (r 8) (r 9) (r 10)
    rw [bx_val_x (n := 8) (e := (8, 0)) h0_ rfl, bx_val_x (n := 9) (e := (0, 0)) h0_ rfl, bx_val_x (n := 10) (e := (0, 0)) h0_ rfl, ← hr_ 8 (by decide), ← hr_ 9 (by decide), ← hr_ 10 (by decide)]
    exact g.2.2.2
theorem rxcRYW_15_2 {S0 : Nat → Int → Int} {ws : List Int} {S : Nat → Int → Int} {base a v x11 x12 : Int} (hP : rxPRYW S0 ws) (hin : bx_same rxL (bx_mdl rxCRYW.2.2.1) S0 S) (I0 : bx_Inv rxL S) (hinv : rxIRYW_15 S0 ws S base a v) (l8 : 0 ≤ base) (u8 : base ≤ 110) (l9 : 1 ≤ a) (u9 : a ≤ 111) (l10 : 0 ≤ v) (u10 : v ≤ 0) (l11 : 1 ≤ x11) (u11 : x11 ≤ 1) (l12 : 19513 ≤ x12) (u12 : x12 ≤ 19513) (f0 : x12 ≠ 284264) (e1 : S 480 11 = x11) (e0 : S 480 12 = x12) : (True) ∧ (True) ∧ rxIRYW_16 S0 ws S base 0 1 ∧ rxmRYW_16 S0 ws S base 0 1 < rxmRYW_15 S0 ws S base a v := by
  obtain ⟨hI, hx⟩ := hinv
  obtain ⟨a_, b_, c_, d_⟩ := rxcRY_15_2 hP hin I0 hI l8 u8 l9 u9 l10 u10 l11 u11 l12 u12 f0 e1 e0
  exact ⟨a_, b_, ⟨c_, ⟨hx, fun b => Or.inr (Or.inl ⟨rfl, rfl, (rzDq_is b (w := rzW_say) (v := 19513) (by decide) (by decide)).mp ⟨by omega, by omega⟩, rzDq_no b (w := rzW_hush) (v := 284264) (by decide) (by decide) (by omega)⟩)⟩⟩, d_⟩
theorem rxgRYW_15_2 {X : (Nat → Int → Int) → Prop} {S0 : Nat → Int → Int} {ws : List Int} (hP : rxPRYW S0 ws) : bx_obC rxL X S0 rxCRYW.2.2.1 (rxIRYW S0 ws) (rxmRYW S0 ws) 15 rxzRYW_15 rxoRYW_15_2 := by
  intro S S_p r r_p hinv hX hin hsm_ hseg
  obtain ⟨I0, I1, h0_, hr_, b_, f_, d_⟩ := bx_cl (evs := [(0, (0, 480), (0, 12), .inr (1, (12, 0))), (0, (0, 480), (0, 11), .inr (0, (11, 0)))]) (fvs := [(3, (12, 0), (0, 284264), (0, 0))]) hseg (by decide +kernel) (by decide +kernel)
  have hinv : rxIRYW_15 S0 ws S (r 8) (r 9) (r 10) := hinv
  rw [← hr_ 8 (by decide), ← hr_ 9 (by decide), ← hr_ 10 (by decide)] at hinv
  obtain ⟨⟨l8, u8⟩, ⟨l9, u9⟩, ⟨l10, u10⟩, ⟨l11, u11⟩, ⟨l12, u12⟩, -⟩ := b_
  obtain ⟨f0, -⟩ := f_
  obtain ⟨e0, ⟨e1, w_⟩⟩ := d_
  subst w_
  have g := rxcRYW_15_2 hP hin I0 hinv l8 u8 l9 u9 l10 u10 l11 u11 l12 u12 f0 e1 e0
  refine ⟨bx_narP_ok (l := []) g.1, bx_nfP_ok h0_ (fvs := []) (by decide +kernel) g.2.1, ?_, ?_⟩
  · show rxIRYW_16 S0 ws S_p (bx_val [(0, 0), (0, 0), (0, 0), (0, 0), (0, 0), (0, 0), (0, 0), (0, 0), (8, 0), (0, 0), (0, 1)] r_p 8) (bx_val [(0, 0), (0, 0), (0, 0), (0, 0), (0, 0), (0, 0), (0, 0), (0, 0), (8, 0), (0, 0), (0, 1)] r_p 9) (bx_val [(0, 0), (0, 0), (0, 0), (0, 0), (0, 0), (0, 0), (0, 0), (0, 0), (8, 0), (0, 0), (0, 1)] r_p 10)
    rw [bx_val_x (n := 8) (e := (8, 0)) h0_ rfl, bx_val_x (n := 9) (e := (0, 0)) h0_ rfl, bx_val_x (n := 10) (e := (0, 1)) h0_ rfl]
    exact g.2.2.1
  · show rxmRYW_16 S0 ws S_p (bx_val [(0, 0), (0, 0), (0, 0), (0, 0), (0, 0), (0, 0), (0, 0), (0, 0), (8, 0), (0, 0), (0, 1)] r_p 8) (bx_val [(0, 0), (0, 0), (0, 0), (0, 0), (0, 0), (0, 0), (0, 0), (0, 0), (8, 0), (0, 0), (0, 1)] r_p 9) (bx_val [(0, 0), (0, 0), (0, 0), (0, 0), (0, 0), (0, 0), (0, 0), (0, 0), (8, 0), (0, 0), (0, 1)] r_p 10) < rxmRYW_15 S0 ws S_p (r 8) (r 9) (r 10)
    rw [bx_val_x (n := 8) (e := (8, 0)) h0_ rfl, bx_val_x (n := 9) (e := (0, 0)) h0_ rfl, bx_val_x (n := 10) (e := (0, 1)) h0_ rfl, ← hr_ 8 (by decide), ← hr_ 9 (by decide), ← hr_ 10 (by decide)]
    exact g.2.2.2
theorem rxcRYW_15_3 {S0 : Nat → Int → Int} {ws : List Int} {S : Nat → Int → Int} {base a v x11 x12 : Int} (hP : rxPRYW S0 ws) (hin : bx_same rxL (bx_mdl rxCRYW.2.2.1) S0 S) (I0 : bx_Inv rxL S) (hinv : rxIRYW_15 S0 ws S base a v) (l8 : 0 ≤ base) (u8 : base ≤ 110) (l9 : 1 ≤ a) (u9 : a ≤ 111) (l10 : 0 ≤ v) (u10 : v ≤ 0) (l11 : 1 ≤ x11) (u11 : x11 ≤ 1) (l12 : 284264 ≤ x12) (u12 : x12 ≤ 284264) (e1 : S 480 11 = x11) (e0 : S 480 12 = x12) : (True) ∧ (True) ∧ rxIRYW_16 S0 ws S base 1 1 ∧ rxmRYW_16 S0 ws S base 1 1 < rxmRYW_15 S0 ws S base a v := by
  obtain ⟨hI, hx⟩ := hinv
  obtain ⟨a_, b_, c_, d_⟩ := rxcRY_15_3 hP hin I0 hI l8 u8 l9 u9 l10 u10 l11 u11 l12 u12 e1 e0
  exact ⟨a_, b_, ⟨c_, ⟨hx, fun b => Or.inl ⟨rfl, rfl, (rzDq_is b (w := rzW_hush) (v := 284264) (by decide) (by decide)).mp ⟨by omega, by omega⟩⟩⟩⟩, d_⟩
theorem rxgRYW_15_3 {X : (Nat → Int → Int) → Prop} {S0 : Nat → Int → Int} {ws : List Int} (hP : rxPRYW S0 ws) : bx_obC rxL X S0 rxCRYW.2.2.1 (rxIRYW S0 ws) (rxmRYW S0 ws) 15 rxzRYW_15 rxoRYW_15_3 := by
  intro S S_p r r_p hinv hX hin hsm_ hseg
  obtain ⟨I0, I1, h0_, hr_, b_, f_, d_⟩ := bx_cl (evs := [(0, (0, 480), (0, 12), .inr (1, (12, 0))), (0, (0, 480), (0, 11), .inr (0, (11, 0)))]) (fvs := []) hseg (by decide +kernel) (by decide +kernel)
  have hinv : rxIRYW_15 S0 ws S (r 8) (r 9) (r 10) := hinv
  rw [← hr_ 8 (by decide), ← hr_ 9 (by decide), ← hr_ 10 (by decide)] at hinv
  obtain ⟨⟨l8, u8⟩, ⟨l9, u9⟩, ⟨l10, u10⟩, ⟨l11, u11⟩, ⟨l12, u12⟩, -⟩ := b_
  obtain ⟨e0, ⟨e1, w_⟩⟩ := d_
  subst w_
  have g := rxcRYW_15_3 hP hin I0 hinv l8 u8 l9 u9 l10 u10 l11 u11 l12 u12 e1 e0
  refine ⟨bx_narP_ok (l := []) g.1, bx_nfP_ok h0_ (fvs := []) (by decide +kernel) g.2.1, ?_, ?_⟩
  · show rxIRYW_16 S0 ws S_p (bx_val [(0, 0), (0, 0), (0, 0), (0, 0), (0, 0), (0, 0), (0, 0), (0, 0), (8, 0), (0, 1), (0, 1)] r_p 8) (bx_val [(0, 0), (0, 0), (0, 0), (0, 0), (0, 0), (0, 0), (0, 0), (0, 0), (8, 0), (0, 1), (0, 1)] r_p 9) (bx_val [(0, 0), (0, 0), (0, 0), (0, 0), (0, 0), (0, 0), (0, 0), (0, 0), (8, 0), (0, 1), (0, 1)] r_p 10)
    rw [bx_val_x (n := 8) (e := (8, 0)) h0_ rfl, bx_val_x (n := 9) (e := (0, 1)) h0_ rfl, bx_val_x (n := 10) (e := (0, 1)) h0_ rfl]
    exact g.2.2.1
  · show rxmRYW_16 S0 ws S_p (bx_val [(0, 0), (0, 0), (0, 0), (0, 0), (0, 0), (0, 0), (0, 0), (0, 0), (8, 0), (0, 1), (0, 1)] r_p 8) (bx_val [(0, 0), (0, 0), (0, 0), (0, 0), (0, 0), (0, 0), (0, 0), (0, 0), (8, 0), (0, 1), (0, 1)] r_p 9) (bx_val [(0, 0), (0, 0), (0, 0), (0, 0), (0, 0), (0, 0), (0, 0), (0, 0), (8, 0), (0, 1), (0, 1)] r_p 10) < rxmRYW_15 S0 ws S_p (r 8) (r 9) (r 10)
    rw [bx_val_x (n := 8) (e := (8, 0)) h0_ rfl, bx_val_x (n := 9) (e := (0, 1)) h0_ rfl, bx_val_x (n := 10) (e := (0, 1)) h0_ rfl, ← hr_ 8 (by decide), ← hr_ 9 (by decide), ← hr_ 10 (by decide)]
    exact g.2.2.2
theorem rxcRYW_17_0 {S0 : Nat → Int → Int} {ws : List Int} {S : Nat → Int → Int} {base dd is : Int} (hP : rxPRYW S0 ws) (hin : bx_same rxL (bx_mdl rxCRYW.2.2.1) S0 S) (I0 : bx_Inv rxL S) (hinv : rxIRYW_17 S0 ws S base dd is) (l8 : 0 ≤ base) (u8 : base ≤ 110) (l9 : 1 ≤ dd) (u9 : dd ≤ 1) (l10 : 0 ≤ is) (u10 : is ≤ 1) (f0 : dd ≠ 0) : (True) ∧ (True) ∧ rxIRYW_18 S0 ws S base dd (base + 2) 1 ∧ rxmRYW_18 S0 ws S base dd (base + 2) 1 < rxmRYW_17 S0 ws S base dd is := by
  obtain ⟨hI, hx⟩ := hinv
  obtain ⟨a_, b_, c_, d_⟩ := rxcRY_17_0 hP hin I0 hI l8 u8 l9 u9 l10 u10 f0
  exact ⟨a_, b_, ⟨c_, (fun c hD hW => hx c hD hW)⟩, d_⟩
theorem rxgRYW_17_0 {X : (Nat → Int → Int) → Prop} {S0 : Nat → Int → Int} {ws : List Int} (hP : rxPRYW S0 ws) : bx_obC rxL X S0 rxCRYW.2.2.1 (rxIRYW S0 ws) (rxmRYW S0 ws) 17 rxzRYW_17 rxoRYW_17_0 := by
  intro S S_p r r_p hinv hX hin hsm_ hseg
  obtain ⟨I0, I1, h0_, hr_, b_, f_, d_⟩ := bx_cl (evs := []) (fvs := [(3, (9, 0), (0, 0), (0, 0))]) hseg (by decide +kernel) (by decide +kernel)
  have hinv : rxIRYW_17 S0 ws S (r 8) (r 9) (r 10) := hinv
  rw [← hr_ 8 (by decide), ← hr_ 9 (by decide), ← hr_ 10 (by decide)] at hinv
  obtain ⟨⟨l8, u8⟩, ⟨l9, u9⟩, ⟨l10, u10⟩, -⟩ := b_
  obtain ⟨f0, -⟩ := f_
  have w_ := d_
  subst w_
  have g := rxcRYW_17_0 hP hin I0 hinv l8 u8 l9 u9 l10 u10 f0
  refine ⟨bx_narP_ok (l := []) g.1, bx_nfP_ok h0_ (fvs := []) (by decide +kernel) g.2.1, ?_, ?_⟩
  · show rxIRYW_18 S0 ws S_p (bx_val [(0, 0), (0, 0), (0, 0), (0, 0), (0, 0), (0, 0), (0, 0), (0, 0), (8, 0), (9, 0), (8, 2), (0, 1)] r_p 8) (bx_val [(0, 0), (0, 0), (0, 0), (0, 0), (0, 0), (0, 0), (0, 0), (0, 0), (8, 0), (9, 0), (8, 2), (0, 1)] r_p 9) (bx_val [(0, 0), (0, 0), (0, 0), (0, 0), (0, 0), (0, 0), (0, 0), (0, 0), (8, 0), (9, 0), (8, 2), (0, 1)] r_p 10) (bx_val [(0, 0), (0, 0), (0, 0), (0, 0), (0, 0), (0, 0), (0, 0), (0, 0), (8, 0), (9, 0), (8, 2), (0, 1)] r_p 11)
    rw [bx_val_x (n := 8) (e := (8, 0)) h0_ rfl, bx_val_x (n := 9) (e := (9, 0)) h0_ rfl, bx_val_x (n := 10) (e := (8, 2)) h0_ rfl, bx_val_x (n := 11) (e := (0, 1)) h0_ rfl]
    exact g.2.2.1
  · show rxmRYW_18 S0 ws S_p (bx_val [(0, 0), (0, 0), (0, 0), (0, 0), (0, 0), (0, 0), (0, 0), (0, 0), (8, 0), (9, 0), (8, 2), (0, 1)] r_p 8) (bx_val [(0, 0), (0, 0), (0, 0), (0, 0), (0, 0), (0, 0), (0, 0), (0, 0), (8, 0), (9, 0), (8, 2), (0, 1)] r_p 9) (bx_val [(0, 0), (0, 0), (0, 0), (0, 0), (0, 0), (0, 0), (0, 0), (0, 0), (8, 0), (9, 0), (8, 2), (0, 1)] r_p 10) (bx_val [(0, 0), (0, 0), (0, 0), (0, 0), (0, 0), (0, 0), (0, 0), (0, 0), (8, 0), (9, 0), (8, 2), (0, 1)] r_p 11) < rxmRYW_17 S0 ws S_p (r 8) (r 9) (r 10)
    rw [bx_val_x (n := 8) (e := (8, 0)) h0_ rfl, bx_val_x (n := 9) (e := (9, 0)) h0_ rfl, bx_val_x (n := 10) (e := (8, 2)) h0_ rfl, bx_val_x (n := 11) (e := (0, 1)) h0_ rfl, ← hr_ 8 (by decide), ← hr_ 9 (by decide), ← hr_ 10 (by decide)]
    exact g.2.2.2
theorem rxcRYW_17_1 {S0 : Nat → Int → Int} {ws : List Int} {S : Nat → Int → Int} {base dd is : Int} (hP : rxPRYW S0 ws) (hin : bx_same rxL (bx_mdl rxCRYW.2.2.1) S0 S) (I0 : bx_Inv rxL S) (hinv : rxIRYW_17 S0 ws S base dd is) (l8 : 0 ≤ base) (u8 : base ≤ 110) (l9 : 0 ≤ dd) (u9 : dd ≤ 0) (l10 : 0 ≤ is) (u10 : is ≤ 1) : (True) ∧ (True) ∧ rxIRYW_18 S0 ws S base dd (base + 2) 0 ∧ rxmRYW_18 S0 ws S base dd (base + 2) 0 < rxmRYW_17 S0 ws S base dd is := by
  obtain ⟨hI, hx⟩ := hinv
  obtain ⟨a_, b_, c_, d_⟩ := rxcRY_17_1 hP hin I0 hI l8 u8 l9 u9 l10 u10
  exact ⟨a_, b_, ⟨c_, (fun c hD hW => hx c hD hW)⟩, d_⟩
theorem rxgRYW_17_1 {X : (Nat → Int → Int) → Prop} {S0 : Nat → Int → Int} {ws : List Int} (hP : rxPRYW S0 ws) : bx_obC rxL X S0 rxCRYW.2.2.1 (rxIRYW S0 ws) (rxmRYW S0 ws) 17 rxzRYW_17 rxoRYW_17_1 := by
  intro S S_p r r_p hinv hX hin hsm_ hseg
  obtain ⟨I0, I1, h0_, hr_, b_, f_, d_⟩ := bx_cl (evs := []) (fvs := []) hseg (by decide +kernel) (by decide +kernel)
  have hinv : rxIRYW_17 S0 ws S (r 8) (r 9) (r 10) := hinv
  rw [← hr_ 8 (by decide), ← hr_ 9 (by decide), ← hr_ 10 (by decide)] at hinv
  obtain ⟨⟨l8, u8⟩, ⟨l9, u9⟩, ⟨l10, u10⟩, -⟩ := b_
  have w_ := d_
  subst w_
  have g := rxcRYW_17_1 hP hin I0 hinv l8 u8 l9 u9 l10 u10
  refine ⟨bx_narP_ok (l := []) g.1, bx_nfP_ok h0_ (fvs := []) (by decide +kernel) g.2.1, ?_, ?_⟩
  · show rxIRYW_18 S0 ws S_p (bx_val [(0, 0), (0, 0), (0, 0), (0, 0), (0, 0), (0, 0), (0, 0), (0, 0), (8, 0), (9, 0), (8, 2), (0, 0)] r_p 8) (bx_val [(0, 0), (0, 0), (0, 0), (0, 0), (0, 0), (0, 0), (0, 0), (0, 0), (8, 0), (9, 0), (8, 2), (0, 0)] r_p 9) (bx_val [(0, 0), (0, 0), (0, 0), (0, 0), (0, 0), (0, 0), (0, 0), (0, 0), (8, 0), (9, 0), (8, 2), (0, 0)] r_p 10) (bx_val [(0, 0), (0, 0), (0, 0), (0, 0), (0, 0), (0, 0), (0, 0), (0, 0), (8, 0), (9, 0), (8, 2), (0, 0)] r_p 11)
    rw [bx_val_x (n := 8) (e := (8, 0)) h0_ rfl, bx_val_x (n := 9) (e := (9, 0)) h0_ rfl, bx_val_x (n := 10) (e := (8, 2)) h0_ rfl, bx_val_x (n := 11) (e := (0, 0)) h0_ rfl]
    exact g.2.2.1
  · show rxmRYW_18 S0 ws S_p (bx_val [(0, 0), (0, 0), (0, 0), (0, 0), (0, 0), (0, 0), (0, 0), (0, 0), (8, 0), (9, 0), (8, 2), (0, 0)] r_p 8) (bx_val [(0, 0), (0, 0), (0, 0), (0, 0), (0, 0), (0, 0), (0, 0), (0, 0), (8, 0), (9, 0), (8, 2), (0, 0)] r_p 9) (bx_val [(0, 0), (0, 0), (0, 0), (0, 0), (0, 0), (0, 0), (0, 0), (0, 0), (8, 0), (9, 0), (8, 2), (0, 0)] r_p 10) (bx_val [(0, 0), (0, 0), (0, 0), (0, 0), (0, 0), (0, 0), (0, 0), (0, 0), (8, 0), (9, 0), (8, 2), (0, 0)] r_p 11) < rxmRYW_17 S0 ws S_p (r 8) (r 9) (r 10)
    rw [bx_val_x (n := 8) (e := (8, 0)) h0_ rfl, bx_val_x (n := 9) (e := (9, 0)) h0_ rfl, bx_val_x (n := 10) (e := (8, 2)) h0_ rfl, bx_val_x (n := 11) (e := (0, 0)) h0_ rfl, ← hr_ 8 (by decide), ← hr_ 9 (by decide), ← hr_ 10 (by decide)]
    exact g.2.2.2
theorem rxcRYW_19_0 {S0 : Nat → Int → Int} {ws : List Int} {S : Nat → Int → Int} {base dd a v x12 : Int} (hP : rxPRYW S0 ws) (hin : bx_same rxL (bx_mdl rxCRYW.2.2.1) S0 S) (I0 : bx_Inv rxL S) (hinv : rxIRYW_19 S0 ws S base dd a v) (l8 : 0 ≤ base) (u8 : base ≤ 110) (l9 : 0 ≤ dd) (u9 : dd ≤ 1) (l10 : 2 ≤ a) (u10 : a ≤ 112) (l11 : 0 ≤ v) (u11 : v ≤ 1) (l12 : 0 ≤ x12) (u12 : x12 ≤ 400) (e0 : S 480 18 = x12) : (True) ∧ (True) ∧ rxIRYW_20 S0 ws S base dd (base + 3) x12 ∧ rxmRYW_20 S0 ws S base dd (base + 3) x12 < rxmRYW_19 S0 ws S base dd a v := by
  obtain ⟨hI, hx⟩ := hinv
  obtain ⟨a_, b_, c_, d_⟩ := rxcRY_19_0 hP hin I0 hI l8 u8 l9 u9 l10 u10 l11 u11 l12 u12 e0
  exact ⟨a_, b_, ⟨c_, (fun c hD hW => hx c hD hW)⟩, d_⟩
theorem rxgRYW_19_0 {X : (Nat → Int → Int) → Prop} {S0 : Nat → Int → Int} {ws : List Int} (hP : rxPRYW S0 ws) : bx_obC rxL X S0 rxCRYW.2.2.1 (rxIRYW S0 ws) (rxmRYW S0 ws) 19 rxzRYW_19 rxoRYW_19_0 := by
  intro S S_p r r_p hinv hX hin hsm_ hseg
  obtain ⟨I0, I1, h0_, hr_, b_, f_, d_⟩ := bx_cl (evs := [(0, (0, 480), (0, 18), .inr (0, (12, 0)))]) (fvs := []) hseg (by decide +kernel) (by decide +kernel)
  have hinv : rxIRYW_19 S0 ws S (r 8) (r 9) (r 10) (r 11) := hinv
  rw [← hr_ 8 (by decide), ← hr_ 9 (by decide), ← hr_ 10 (by decide), ← hr_ 11 (by decide)] at hinv
  obtain ⟨⟨l8, u8⟩, ⟨l9, u9⟩, ⟨l10, u10⟩, ⟨l11, u11⟩, ⟨l12, u12⟩, -⟩ := b_
  obtain ⟨e0, w_⟩ := d_
  subst w_
  have g := rxcRYW_19_0 hP hin I0 hinv l8 u8 l9 u9 l10 u10 l11 u11 l12 u12 e0
  refine ⟨bx_narP_ok (l := []) g.1, bx_nfP_ok h0_ (fvs := []) (by decide +kernel) g.2.1, ?_, ?_⟩
  · show rxIRYW_20 S0 ws S_p (bx_val [(0, 0), (0, 0), (0, 0), (0, 0), (0, 0), (0, 0), (0, 0), (0, 0), (8, 0), (9, 0), (8, 3), (12, 0)] r_p 8) (bx_val [(0, 0), (0, 0), (0, 0), (0, 0), (0, 0), (0, 0), (0, 0), (0, 0), (8, 0), (9, 0), (8, 3), (12, 0)] r_p 9) (bx_val [(0, 0), (0, 0), (0, 0), (0, 0), (0, 0), (0, 0), (0, 0), (0, 0), (8, 0), (9, 0), (8, 3), (12, 0)] r_p 10) (bx_val [(0, 0), (0, 0), (0, 0), (0, 0), (0, 0), (0, 0), (0, 0), (0, 0), (8, 0), (9, 0), (8, 3), (12, 0)] r_p 11)
    rw [bx_val_x (n := 8) (e := (8, 0)) h0_ rfl, bx_val_x (n := 9) (e := (9, 0)) h0_ rfl, bx_val_x (n := 10) (e := (8, 3)) h0_ rfl, bx_val_x (n := 11) (e := (12, 0)) h0_ rfl]
    exact g.2.2.1
  · show rxmRYW_20 S0 ws S_p (bx_val [(0, 0), (0, 0), (0, 0), (0, 0), (0, 0), (0, 0), (0, 0), (0, 0), (8, 0), (9, 0), (8, 3), (12, 0)] r_p 8) (bx_val [(0, 0), (0, 0), (0, 0), (0, 0), (0, 0), (0, 0), (0, 0), (0, 0), (8, 0), (9, 0), (8, 3), (12, 0)] r_p 9) (bx_val [(0, 0), (0, 0), (0, 0), (0, 0), (0, 0), (0, 0), (0, 0), (0, 0), (8, 0), (9, 0), (8, 3), (12, 0)] r_p 10) (bx_val [(0, 0), (0, 0), (0, 0), (0, 0), (0, 0), (0, 0), (0, 0), (0, 0), (8, 0), (9, 0), (8, 3), (12, 0)] r_p 11) < rxmRYW_19 S0 ws S_p (r 8) (r 9) (r 10) (r 11)
    rw [bx_val_x (n := 8) (e := (8, 0)) h0_ rfl, bx_val_x (n := 9) (e := (9, 0)) h0_ rfl, bx_val_x (n := 10) (e := (8, 3)) h0_ rfl, bx_val_x (n := 11) (e := (12, 0)) h0_ rfl, ← hr_ 8 (by decide), ← hr_ 9 (by decide), ← hr_ 10 (by decide), ← hr_ 11 (by decide)]
    exact g.2.2.2
theorem rxcRYW_21_0 {S0 : Nat → Int → Int} {ws : List Int} {S : Nat → Int → Int} {base dd a v x12 : Int} (hP : rxPRYW S0 ws) (hin : bx_same rxL (bx_mdl rxCRYW.2.2.1) S0 S) (I0 : bx_Inv rxL S) (hinv : rxIRYW_21 S0 ws S base dd a v) (l8 : 0 ≤ base) (u8 : base ≤ 110) (l9 : 0 ≤ dd) (u9 : dd ≤ 0) (l10 : 3 ≤ a) (u10 : a ≤ 113) (l11 : 0 ≤ v) (u11 : v ≤ 400) (l12 : 0 ≤ x12) (u12 : x12 ≤ 0) (e0 : S 480 14 = x12) : (True) ∧ (True) ∧ rxIRYW_22 S0 ws S base dd ∧ rxmRYW_22 S0 ws S base dd < rxmRYW_21 S0 ws S base dd a v := by
  obtain ⟨hI, hx⟩ := hinv
  obtain ⟨a_, b_, c_, d_⟩ := rxcRY_21_0 hP hin I0 hI l8 u8 l9 u9 l10 u10 l11 u11 l12 u12 e0
  exact ⟨a_, b_, ⟨c_, ⟨by omega, fun c hD hW => rzCa_im (hx c hD hW) fun _ r q => Or.inr ⟨decide_eq_false (by omega), q⟩⟩⟩, d_⟩
theorem rxgRYW_21_0 {X : (Nat → Int → Int) → Prop} {S0 : Nat → Int → Int} {ws : List Int} (hP : rxPRYW S0 ws) : bx_obC rxL X S0 rxCRYW.2.2.1 (rxIRYW S0 ws) (rxmRYW S0 ws) 21 rxzRYW_21 rxoRYW_21_0 := by
  intro S S_p r r_p hinv hX hin hsm_ hseg
  obtain ⟨I0, I1, h0_, hr_, b_, f_, d_⟩ := bx_cl (evs := [(0, (0, 480), (0, 14), .inr (0, (12, 0)))]) (fvs := []) hseg (by decide +kernel) (by decide +kernel)
  have hinv : rxIRYW_21 S0 ws S (r 8) (r 9) (r 10) (r 11) := hinv
  rw [← hr_ 8 (by decide), ← hr_ 9 (by decide), ← hr_ 10 (by decide), ← hr_ 11 (by decide)] at hinv
  obtain ⟨⟨l8, u8⟩, ⟨l9, u9⟩, ⟨l10, u10⟩, ⟨l11, u11⟩, ⟨l12, u12⟩, -⟩ := b_
  obtain ⟨e0, w_⟩ := d_
  subst w_
  have g := rxcRYW_21_0 hP hin I0 hinv l8 u8 l9 u9 l10 u10 l11 u11 l12 u12 e0
  refine ⟨bx_narP_ok (l := []) g.1, bx_nfP_ok h0_ (fvs := []) (by decide +kernel) g.2.1, ?_, ?_⟩
  · show rxIRYW_22 S0 ws S_p (bx_val [(0, 0), (0, 0), (0, 0), (0, 0), (0, 0), (0, 0), (0, 0), (0, 0), (8, 0), (9, 0)] r_p 8) (bx_val [(0, 0), (0, 0), (0, 0), (0, 0), (0, 0), (0, 0), (0, 0), (0, 0), (8, 0), (9, 0)] r_p 9)
    rw [bx_val_x (n := 8) (e := (8, 0)) h0_ rfl, bx_val_x (n := 9) (e := (9, 0)) h0_ rfl]
    exact g.2.2.1
  · show rxmRYW_22 S0 ws S_p (bx_val [(0, 0), (0, 0), (0, 0), (0, 0), (0, 0), (0, 0), (0, 0), (0, 0), (8, 0), (9, 0)] r_p 8) (bx_val [(0, 0), (0, 0), (0, 0), (0, 0), (0, 0), (0, 0), (0, 0), (0, 0), (8, 0), (9, 0)] r_p 9) < rxmRYW_21 S0 ws S_p (r 8) (r 9) (r 10) (r 11)
    rw [bx_val_x (n := 8) (e := (8, 0)) h0_ rfl, bx_val_x (n := 9) (e := (9, 0)) h0_ rfl, ← hr_ 8 (by decide), ← hr_ 9 (by decide), ← hr_ 10 (by decide), ← hr_ 11 (by decide)]
    exact g.2.2.2
theorem rxcRYW_21_1 {S0 : Nat → Int → Int} {ws : List Int} {S : Nat → Int → Int} {base dd a v x12 x13 : Int} (hP : rxPRYW S0 ws) (hin : bx_same rxL (bx_mdl rxCRYW.2.2.1) S0 S) (I0 : bx_Inv rxL S) (hinv : rxIRYW_21 S0 ws S base dd a v) (l8 : 0 ≤ base) (u8 : base ≤ 110) (l9 : 1 ≤ dd) (u9 : dd ≤ 1) (l10 : 3 ≤ a) (u10 : a ≤ 113) (l11 : 0 ≤ v) (u11 : v ≤ 400) (l12 : 0 ≤ x12) (u12 : x12 ≤ 0) (l13 : 0 ≤ x13) (u13 : x13 ≤ 400) (f0 : dd ≠ 0) (e1 : S 480 14 = x12) (e0 : S 480 18 = x13) : (True) ∧ (True) ∧ rxIRYW_24 S0 ws S base dd (base + 4) x13 ∧ rxmRYW_24 S0 ws S base dd (base + 4) x13 < rxmRYW_21 S0 ws S base dd a v := by
  obtain ⟨hI, hx⟩ := hinv
  obtain ⟨a_, b_, c_, d_⟩ := rxcRY_21_1 hP hin I0 hI l8 u8 l9 u9 l10 u10 l11 u11 l12 u12 l13 u13 f0 e1 e0
  exact ⟨a_, b_, ⟨c_, (fun c hD hW => rzCa_im (hx c hD hW) fun _ r q => by
    rcases q with q | q
    · exact Or.inl ⟨q.1, q.2⟩
    · have := of_decide_eq_false q.1
      omega)⟩, d_⟩
theorem rxgRYW_21_1 {X : (Nat → Int → Int) → Prop} {S0 : Nat → Int → Int} {ws : List Int} (hP : rxPRYW S0 ws) : bx_obC rxL X S0 rxCRYW.2.2.1 (rxIRYW S0 ws) (rxmRYW S0 ws) 21 rxzRYW_21 rxoRYW_21_1 := by
  intro S S_p r r_p hinv hX hin hsm_ hseg
  obtain ⟨I0, I1, h0_, hr_, b_, f_, d_⟩ := bx_cl (evs := [(0, (0, 480), (0, 18), .inr (0, (13, 0))), (0, (0, 480), (0, 14), .inr (0, (12, 0)))]) (fvs := [(3, (9, 0), (0, 0), (0, 0))]) hseg (by decide +kernel) (by decide +kernel)
  have hinv : rxIRYW_21 S0 ws S (r 8) (r 9) (r 10) (r 11) := hinv
  rw [← hr_ 8 (by decide), ← hr_ 9 (by decide), ← hr_ 10 (by decide), ← hr_ 11 (by decide)] at hinv
  obtain ⟨⟨l8, u8⟩, ⟨l9, u9⟩, ⟨l10, u10⟩, ⟨l11, u11⟩, ⟨l12, u12⟩, ⟨l13, u13⟩, -⟩ := b_
  obtain ⟨f0, -⟩ := f_
  obtain ⟨e0, ⟨e1, w_⟩⟩ := d_
  subst w_
  have g := rxcRYW_21_1 hP hin I0 hinv l8 u8 l9 u9 l10 u10 l11 u11 l12 u12 l13 u13 f0 e1 e0
  refine ⟨bx_narP_ok (l := []) g.1, bx_nfP_ok h0_ (fvs := []) (by decide +kernel) g.2.1, ?_, ?_⟩
  · show rxIRYW_24 S0 ws S_p (bx_val [(0, 0), (0, 0), (0, 0), (0, 0), (0, 0), (0, 0), (0, 0), (0, 0), (8, 0), (9, 0), (8, 4), (13, 0)] r_p 8) (bx_val [(0, 0), (0, 0), (0, 0), (0, 0), (0, 0), (0, 0), (0, 0), (0, 0), (8, 0), (9, 0), (8, 4), (13, 0)] r_p 9) (bx_val [(0, 0), (0, 0), (0, 0), (0, 0), (0, 0), (0, 0), (0, 0), (0, 0), (8, 0), (9, 0), (8, 4), (13, 0)] r_p 10) (bx_val [(0, 0), (0, 0), (0, 0), (0, 0), (0, 0), (0, 0), (0, 0), (0, 0), (8, 0), (9, 0), (8, 4), (13, 0)] r_p 11)
    rw [bx_val_x (n := 8) (e := (8, 0)) h0_ rfl, bx_val_x (n := 9) (e := (9, 0)) h0_ rfl, bx_val_x (n := 10) (e := (8, 4)) h0_ rfl, bx_val_x (n := 11) (e := (13, 0)) h0_ rfl]
    exact g.2.2.1
  · show rxmRYW_24 S0 ws S_p (bx_val [(0, 0), (0, 0), (0, 0), (0, 0), (0, 0), (0, 0), (0, 0), (0, 0), (8, 0), (9, 0), (8, 4), (13, 0)] r_p 8) (bx_val [(0, 0), (0, 0), (0, 0), (0, 0), (0, 0), (0, 0), (0, 0), (0, 0), (8, 0), (9, 0), (8, 4), (13, 0)] r_p 9) (bx_val [(0, 0), (0, 0), (0, 0), (0, 0), (0, 0), (0, 0), (0, 0), (0, 0), (8, 0), (9, 0), (8, 4), (13, 0)] r_p 10) (bx_val [(0, 0), (0, 0), (0, 0), (0, 0), (0, 0), (0, 0), (0, 0), (0, 0), (8, 0), (9, 0), (8, 4), (13, 0)] r_p 11) < rxmRYW_21 S0 ws S_p (r 8) (r 9) (r 10) (r 11)
    rw [bx_val_x (n := 8) (e := (8, 0)) h0_ rfl, bx_val_x (n := 9) (e := (9, 0)) h0_ rfl, bx_val_x (n := 10) (e := (8, 4)) h0_ rfl, bx_val_x (n := 11) (e := (13, 0)) h0_ rfl, ← hr_ 8 (by decide), ← hr_ 9 (by decide), ← hr_ 10 (by decide), ← hr_ 11 (by decide)]
    exact g.2.2.2
theorem rxcRYW_21_2 {S0 : Nat → Int → Int} {ws : List Int} {S : Nat → Int → Int} {base dd a v x12 x13 : Int} (hP : rxPRYW S0 ws) (hin : bx_same rxL (bx_mdl rxCRYW.2.2.1) S0 S) (I0 : bx_Inv rxL S) (hinv : rxIRYW_21 S0 ws S base dd a v) (l8 : 0 ≤ base) (u8 : base ≤ 110) (l9 : 0 ≤ dd) (u9 : dd ≤ 1) (l10 : 3 ≤ a) (u10 : a ≤ 113) (l11 : 0 ≤ v) (u11 : v ≤ 400) (l12 : 1 ≤ x12) (u12 : x12 ≤ 1) (l13 : 0 ≤ x13) (u13 : x13 ≤ 400) (f0 : x12 ≠ 0) (e1 : S 480 14 = x12) (e0 : S 480 18 = x13) : (True) ∧ (True) ∧ rxIRYW_24 S0 ws S base dd (base + 4) x13 ∧ rxmRYW_24 S0 ws S base dd (base + 4) x13 < rxmRYW_21 S0 ws S base dd a v := by
  obtain ⟨hI, hx⟩ := hinv
  obtain ⟨a_, b_, c_, d_⟩ := rxcRY_21_2 hP hin I0 hI l8 u8 l9 u9 l10 u10 l11 u11 l12 u12 l13 u13 f0 e1 e0
  exact ⟨a_, b_, ⟨c_, (fun c hD hW => rzCa_b (hx c hD hW) (by omega))⟩, d_⟩
theorem rxgRYW_21_2 {X : (Nat → Int → Int) → Prop} {S0 : Nat → Int → Int} {ws : List Int} (hP : rxPRYW S0 ws) : bx_obC rxL X S0 rxCRYW.2.2.1 (rxIRYW S0 ws) (rxmRYW S0 ws) 21 rxzRYW_21 rxoRYW_21_2 := by
  intro S S_p r r_p hinv hX hin hsm_ hseg
  obtain ⟨I0, I1, h0_, hr_, b_, f_, d_⟩ := bx_cl (evs := [(0, (0, 480), (0, 18), .inr (0, (13, 0))), (0, (0, 480), (0, 14), .inr (0, (12, 0)))]) (fvs := [(3, (12, 0), (0, 0), (0, 0))]) hseg (by decide +kernel) (by decide +kernel)
  have hinv : rxIRYW_21 S0 ws S (r 8) (r 9) (r 10) (r 11) := hinv
  rw [← hr_ 8 (by decide), ← hr_ 9 (by decide), ← hr_ 10 (by decide), ← hr_ 11 (by decide)] at hinv
  obtain ⟨⟨l8, u8⟩, ⟨l9, u9⟩, ⟨l10, u10⟩, ⟨l11, u11⟩, ⟨l12, u12⟩, ⟨l13, u13⟩, -⟩ := b_
  obtain ⟨f0, -⟩ := f_
  obtain ⟨e0, ⟨e1, w_⟩⟩ := d_
  subst w_
  have g := rxcRYW_21_2 hP hin I0 hinv l8 u8 l9 u9 l10 u10 l11 u11 l12 u12 l13 u13 f0 e1 e0
  refine ⟨bx_narP_ok (l := []) g.1, bx_nfP_ok h0_ (fvs := []) (by decide +kernel) g.2.1, ?_, ?_⟩
  · show rxIRYW_24 S0 ws S_p (bx_val [(0, 0), (0, 0), (0, 0), (0, 0), (0, 0), (0, 0), (0, 0), (0, 0), (8, 0), (9, 0), (8, 4), (13, 0)] r_p 8) (bx_val [(0, 0), (0, 0), (0, 0), (0, 0), (0, 0), (0, 0), (0, 0), (0, 0), (8, 0), (9, 0), (8, 4), (13, 0)] r_p 9) (bx_val [(0, 0), (0, 0), (0, 0), (0, 0), (0, 0), (0, 0), (0, 0), (0, 0), (8, 0), (9, 0), (8, 4), (13, 0)] r_p 10) (bx_val [(0, 0), (0, 0), (0, 0), (0, 0), (0, 0), (0, 0), (0, 0), (0, 0), (8, 0), (9, 0), (8, 4), (13, 0)] r_p 11)
    rw [bx_val_x (n := 8) (e := (8, 0)) h0_ rfl, bx_val_x (n := 9) (e := (9, 0)) h0_ rfl, bx_val_x (n := 10) (e := (8, 4)) h0_ rfl, bx_val_x (n := 11) (e := (13, 0)) h0_ rfl]
    exact g.2.2.1
  · show rxmRYW_24 S0 ws S_p (bx_val [(0, 0), (0, 0), (0, 0), (0, 0), (0, 0), (0, 0), (0, 0), (0, 0), (8, 0), (9, 0), (8, 4), (13, 0)] r_p 8) (bx_val [(0, 0), (0, 0), (0, 0), (0, 0), (0, 0), (0, 0), (0, 0), (0, 0), (8, 0), (9, 0), (8, 4), (13, 0)] r_p 9) (bx_val [(0, 0), (0, 0), (0, 0), (0, 0), (0, 0), (0, 0), (0, 0), (0, 0), (8, 0), (9, 0), (8, 4), (13, 0)] r_p 10) (bx_val [(0, 0), (0, 0), (0, 0), (0, 0), (0, 0), (0, 0), (0, 0), (0, 0), (8, 0), (9, 0), (8, 4), (13, 0)] r_p 11) < rxmRYW_21 S0 ws S_p (r 8) (r 9) (r 10) (r 11)
    rw [bx_val_x (n := 8) (e := (8, 0)) h0_ rfl, bx_val_x (n := 9) (e := (9, 0)) h0_ rfl, bx_val_x (n := 10) (e := (8, 4)) h0_ rfl, bx_val_x (n := 11) (e := (13, 0)) h0_ rfl, ← hr_ 8 (by decide), ← hr_ 9 (by decide), ← hr_ 10 (by decide), ← hr_ 11 (by decide)]
    exact g.2.2.2
theorem rxcRYW_23_0 {S0 : Nat → Int → Int} {ws : List Int} {S : Nat → Int → Int} {base dd x10 : Int} (hP : rxPRYW S0 ws) (hin : bx_same rxL (bx_mdl rxCRYW.2.2.1) S0 S) (I0 : bx_Inv rxL S) (hinv : rxIRYW_23 S0 ws S base dd) (l8 : 0 ≤ base) (u8 : base ≤ 110) (l9 : 0 ≤ dd) (u9 : dd ≤ 1) (l10 : 0 ≤ x10) (u10 : x10 ≤ 400) (e0 : S 480 18 = x10) : (True) ∧ (True) ∧ rxIRYW_24 S0 ws S base dd (base + 4) x10 ∧ rxmRYW_24 S0 ws S base dd (base + 4) x10 < rxmRYW_23 S0 ws S base dd := by
  obtain ⟨hI, hx⟩ := hinv
  obtain ⟨a_, b_, c_, d_⟩ := rxcRY_23_0 hP hin I0 hI l8 u8 l9 u9 l10 u10 e0
  exact ⟨a_, b_, ⟨c_, (fun c hD hW => rzCa_im (hx.2 c hD hW) fun _ r q => by
    have h0 := hx.1
    rcases q with q | q
    · have := of_decide_eq_true q.1
      omega
    · exact q.2)⟩, d_⟩
theorem rxgRYW_23_0 {X : (Nat → Int → Int) → Prop} {S0 : Nat → Int → Int} {ws : List Int} (hP : rxPRYW S0 ws) : bx_obC rxL X S0 rxCRYW.2.2.1 (rxIRYW S0 ws) (rxmRYW S0 ws) 23 rxzRYW_23 rxoRYW_23_0 := by
  intro S S_p r r_p hinv hX hin hsm_ hseg
  obtain ⟨I0, I1, h0_, hr_, b_, f_, d_⟩ := bx_cl (evs := [(0, (0, 480), (0, 18), .inr (0, (10, 0)))]) (fvs := []) hseg (by decide +kernel) (by decide +kernel)
  have hinv : rxIRYW_23 S0 ws S (r 8) (r 9) := hinv
  rw [← hr_ 8 (by decide), ← hr_ 9 (by decide)] at hinv
  obtain ⟨⟨l8, u8⟩, ⟨l9, u9⟩, ⟨l10, u10⟩, -⟩ := b_
  obtain ⟨e0, w_⟩ := d_
  subst w_
  have g := rxcRYW_23_0 hP hin I0 hinv l8 u8 l9 u9 l10 u10 e0
  refine ⟨bx_narP_ok (l := []) g.1, bx_nfP_ok h0_ (fvs := []) (by decide +kernel) g.2.1, ?_, ?_⟩
  · show rxIRYW_24 S0 ws S_p (bx_val [(0, 0), (0, 0), (0, 0), (0, 0), (0, 0), (0, 0), (0, 0), (0, 0), (8, 0), (9, 0), (8, 4), (10, 0)] r_p 8) (bx_val [(0, 0), (0, 0), (0, 0), (0, 0), (0, 0), (0, 0), (0, 0), (0, 0), (8, 0), (9, 0), (8, 4), (10, 0)] r_p 9) (bx_val [(0, 0), (0, 0), (0, 0), (0, 0), (0, 0), (0, 0), (0, 0), (0, 0), (8, 0), (9, 0), (8, 4), (10, 0)] r_p 10) (bx_val [(0, 0), (0, 0), (0, 0), (0, 0), (0, 0), (0, 0), (0, 0), (0, 0), (8, 0), (9, 0), (8, 4), (10, 0)] r_p 11)
    rw [bx_val_x (n := 8) (e := (8, 0)) h0_ rfl, bx_val_x (n := 9) (e := (9, 0)) h0_ rfl, bx_val_x (n := 10) (e := (8, 4)) h0_ rfl, bx_val_x (n := 11) (e := (10, 0)) h0_ rfl]
    exact g.2.2.1
  · show rxmRYW_24 S0 ws S_p (bx_val [(0, 0), (0, 0), (0, 0), (0, 0), (0, 0), (0, 0), (0, 0), (0, 0), (8, 0), (9, 0), (8, 4), (10, 0)] r_p 8) (bx_val [(0, 0), (0, 0), (0, 0), (0, 0), (0, 0), (0, 0), (0, 0), (0, 0), (8, 0), (9, 0), (8, 4), (10, 0)] r_p 9) (bx_val [(0, 0), (0, 0), (0, 0), (0, 0), (0, 0), (0, 0), (0, 0), (0, 0), (8, 0), (9, 0), (8, 4), (10, 0)] r_p 10) (bx_val [(0, 0), (0, 0), (0, 0), (0, 0), (0, 0), (0, 0), (0, 0), (0, 0), (8, 0), (9, 0), (8, 4), (10, 0)] r_p 11) < rxmRYW_23 S0 ws S_p (r 8) (r 9)
    rw [bx_val_x (n := 8) (e := (8, 0)) h0_ rfl, bx_val_x (n := 9) (e := (9, 0)) h0_ rfl, bx_val_x (n := 10) (e := (8, 4)) h0_ rfl, bx_val_x (n := 11) (e := (10, 0)) h0_ rfl, ← hr_ 8 (by decide), ← hr_ 9 (by decide)]
    exact g.2.2.2
theorem rxcRYW_25_0 {S0 : Nat → Int → Int} {ws : List Int} {S : Nat → Int → Int} {base dd a v x12 x13 x14 : Int} (hP : rxPRYW S0 ws) (hin : bx_same rxL (bx_mdl rxCRYW.2.2.1) S0 S) (I0 : bx_Inv rxL S) (hinv : rxIRYW_25 S0 ws S base dd a v) (l8 : 0 ≤ base) (u8 : base ≤ 110) (l9 : 0 ≤ dd) (u9 : dd ≤ 0) (l10 : 4 ≤ a) (u10 : a ≤ 114) (l11 : 0 ≤ v) (u11 : v ≤ 400) (l12 : 0 ≤ x12) (u12 : x12 ≤ 0) (l13 : 0 ≤ x13) (u13 : x13 ≤ 3) (l14 : 0 ≤ x14) (u14 : x14 ≤ 400) (f0 : x13 ≠ 1) (e2 : S 480 14 = x12) (e1 : S 480 11 = x13) (e0 : S 480 18 = x14) : (True) ∧ (True) ∧ rxIRYW_30 S0 ws S base dd (base + 5) x14 ∧ rxmRYW_30 S0 ws S base dd (base + 5) x14 < rxmRYW_25 S0 ws S base dd a v := by
  obtain ⟨hI, hx⟩ := hinv
  obtain ⟨a_, b_, c_, d_⟩ := rxcRY_25_0 hP hin I0 hI l8 u8 l9 u9 l10 u10 l11 u11 l12 u12 l13 u13 l14 u14 f0 e2 e1 e0
  exact ⟨a_, b_, ⟨c_, (fun c hD hW => rzCa_im (hx c hD hW) fun z r q => by
    obtain ⟨a, b, -⟩ := (hx c hD hW).1 z
    have g := rzDq_no b (w := rzW_go) (v := 239) (by decide) (by decide) (by omega)
    rw [a.1, a.2.1] at g
    exact Or.inr ⟨decide_eq_false (by omega), Or.inr ⟨g, q⟩⟩)⟩, d_⟩
theorem rxgRYW_25_0 {X : (Nat → Int → Int) → Prop} {S0 : Nat → Int → Int} {ws : List Int} (hP : rxPRYW S0 ws) : bx_obC rxL X S0 rxCRYW.2.2.1 (rxIRYW S0 ws) (rxmRYW S0 ws) 25 rxzRYW_25 rxoRYW_25_0 := by
  intro S S_p r r_p hinv hX hin hsm_ hseg
  obtain ⟨I0, I1, h0_, hr_, b_, f_, d_⟩ := bx_cl (evs := [(0, (0, 480), (0, 18), .inr (0, (14, 0))), (0, (0, 480), (0, 11), .inr (0, (13, 0))), (0, (0, 480), (0, 14), .inr (0, (12, 0)))]) (fvs := [(3, (13, 0), (0, 1), (0, 0))]) hseg (by decide +kernel) (by decide +kernel)
  have hinv : rxIRYW_25 S0 ws S (r 8) (r 9) (r 10) (r 11) := hinv
  rw [← hr_ 8 (by decide), ← hr_ 9 (by decide), ← hr_ 10 (by decide), ← hr_ 11 (by decide)] at hinv
  obtain ⟨⟨l8, u8⟩, ⟨l9, u9⟩, ⟨l10, u10⟩, ⟨l11, u11⟩, ⟨l12, u12⟩, ⟨l13, u13⟩, ⟨l14, u14⟩, -⟩ := b_
  obtain ⟨f0, -⟩ := f_
  obtain ⟨e0, ⟨e1, ⟨e2, w_⟩⟩⟩ := d_
  subst w_
  have g := rxcRYW_25_0 hP hin I0 hinv l8 u8 l9 u9 l10 u10 l11 u11 l12 u12 l13 u13 l14 u14 f0 e2 e1 e0
  refine ⟨bx_narP_ok (l := []) g.1, bx_nfP_ok h0_ (fvs := []) (by decide +kernel) g.2.1, ?_, ?_⟩
  · show rxIRYW_30 S0 ws S_p (bx_val [(0, 0), (0, 0), (0, 0), (0, 0), (0, 0), (0, 0), (0, 0), (0, 0), (8, 0), (9, 0), (8, 5), (14, 0)] r_p 8) (bx_val [(0, 0), (0, 0), (0, 0), (0, 0), (0, 0), (0, 0), (0, 0), (0, 0), (8, 0), (9, 0), (8, 5), (14, 0)] r_p 9) (bx_val [(0, 0), (0, 0), (0, 0), (0, 0), (0, 0), (0, 0), (0, 0), (0, 0), (8, 0), (9, 0), (8, 5), (14, 0)] r_p 10) (bx_val [(0, 0), (0, 0), (0, 0), (0, 0), (0, 0), (0, 0), (0, 0), (0, 0), (8, 0), (9, 0), (8, 5), (14, 0)] r_p 11)
    rw [bx_val_x (n := 8) (e := (8, 0)) h0_ rfl, bx_val_x (n := 9) (e := (9, 0)) h0_ rfl, bx_val_x (n := 10) (e := (8, 5)) h0_ rfl, bx_val_x (n := 11) (e := (14, 0)) h0_ rfl]
    exact g.2.2.1
  · show rxmRYW_30 S0 ws S_p (bx_val [(0, 0), (0, 0), (0, 0), (0, 0), (0, 0), (0, 0), (0, 0), (0, 0), (8, 0), (9, 0), (8, 5), (14, 0)] r_p 8) (bx_val [(0, 0), (0, 0), (0, 0), (0, 0), (0, 0), (0, 0), (0, 0), (0, 0), (8, 0), (9, 0), (8, 5), (14, 0)] r_p 9) (bx_val [(0, 0), (0, 0), (0, 0), (0, 0), (0, 0), (0, 0), (0, 0), (0, 0), (8, 0), (9, 0), (8, 5), (14, 0)] r_p 10) (bx_val [(0, 0), (0, 0), (0, 0), (0, 0), (0, 0), (0, 0), (0, 0), (0, 0), (8, 0), (9, 0), (8, 5), (14, 0)] r_p 11) < rxmRYW_25 S0 ws S_p (r 8) (r 9) (r 10) (r 11)
    rw [bx_val_x (n := 8) (e := (8, 0)) h0_ rfl, bx_val_x (n := 9) (e := (9, 0)) h0_ rfl, bx_val_x (n := 10) (e := (8, 5)) h0_ rfl, bx_val_x (n := 11) (e := (14, 0)) h0_ rfl, ← hr_ 8 (by decide), ← hr_ 9 (by decide), ← hr_ 10 (by decide), ← hr_ 11 (by decide)]
    exact g.2.2.2
theorem rxcRYW_25_1 {S0 : Nat → Int → Int} {ws : List Int} {S : Nat → Int → Int} {base dd a v x12 x13 x14 x15 : Int} (hP : rxPRYW S0 ws) (hin : bx_same rxL (bx_mdl rxCRYW.2.2.1) S0 S) (I0 : bx_Inv rxL S) (hinv : rxIRYW_25 S0 ws S base dd a v) (l8 : 0 ≤ base) (u8 : base ≤ 110) (l9 : 0 ≤ dd) (u9 : dd ≤ 0) (l10 : 4 ≤ a) (u10 : a ≤ 114) (l11 : 0 ≤ v) (u11 : v ≤ 400) (l12 : 0 ≤ x12) (u12 : x12 ≤ 0) (l13 : 1 ≤ x13) (u13 : x13 ≤ 1) (l14 : (-9223372036854775808) ≤ x14) (u14 : x14 ≤ 9223372036854775807) (l15 : 0 ≤ x15) (u15 : x15 ≤ 400) (f0 : x14 ≠ 239) (e3 : S 480 14 = x12) (e2 : S 480 11 = x13) (e1 : S 480 12 = x14) (e0 : S 480 18 = x15) : (True) ∧ (True) ∧ rxIRYW_30 S0 ws S base dd (base + 5) x15 ∧ rxmRYW_30 S0 ws S base dd (base + 5) x15 < rxmRYW_25 S0 ws S base dd a v := by
  obtain ⟨hI, hx⟩ := hinv
  obtain ⟨a_, b_, c_, d_⟩ := rxcRY_25_1 hP hin I0 hI l8 u8 l9 u9 l10 u10 l11 u11 l12 u12 l13 u13 l14 u14 l15 u15 f0 e3 e2 e1 e0
  exact ⟨a_, b_, ⟨c_, (fun c hD hW => rzCa_im (hx c hD hW) fun z r q => by
    obtain ⟨a, b, -⟩ := (hx c hD hW).1 z
    have g := rzDq_no b (w := rzW_go) (v := 239) (by decide) (by decide) (by omega)
    rw [a.1, a.2.1] at g
    exact Or.inr ⟨decide_eq_false (by omega), Or.inr ⟨g, q⟩⟩)⟩, d_⟩
theorem rxgRYW_25_1 {X : (Nat → Int → Int) → Prop} {S0 : Nat → Int → Int} {ws : List Int} (hP : rxPRYW S0 ws) : bx_obC rxL X S0 rxCRYW.2.2.1 (rxIRYW S0 ws) (rxmRYW S0 ws) 25 rxzRYW_25 rxoRYW_25_1 := by
  intro S S_p r r_p hinv hX hin hsm_ hseg
  obtain ⟨I0, I1, h0_, hr_, b_, f_, d_⟩ := bx_cl (evs := [(0, (0, 480), (0, 18), .inr (0, (15, 0))), (0, (0, 480), (0, 12), .inr (1, (14, 0))), (0, (0, 480), (0, 11), .inr (0, (13, 0))), (0, (0, 480), (0, 14), .inr (0, (12, 0)))]) (fvs := [(3, (14, 0), (0, 239), (0, 0))]) hseg (by decide +kernel) (by decide +kernel)
  have hinv : rxIRYW_25 S0 ws S (r 8) (r 9) (r 10) (r 11) := hinv
  rw [← hr_ 8 (by decide), ← hr_ 9 (by decide), ← hr_ 10 (by decide), ← hr_ 11 (by decide)] at hinv
  obtain ⟨⟨l8, u8⟩, ⟨l9, u9⟩, ⟨l10, u10⟩, ⟨l11, u11⟩, ⟨l12, u12⟩, ⟨l13, u13⟩, ⟨l14, u14⟩, ⟨l15, u15⟩, -⟩ := b_
  obtain ⟨f0, -⟩ := f_
  obtain ⟨e0, ⟨e1, ⟨e2, ⟨e3, w_⟩⟩⟩⟩ := d_
  subst w_
  have g := rxcRYW_25_1 hP hin I0 hinv l8 u8 l9 u9 l10 u10 l11 u11 l12 u12 l13 u13 l14 u14 l15 u15 f0 e3 e2 e1 e0
  refine ⟨bx_narP_ok (l := []) g.1, bx_nfP_ok h0_ (fvs := []) (by decide +kernel) g.2.1, ?_, ?_⟩
  · show rxIRYW_30 S0 ws S_p (bx_val [(0, 0), (0, 0), (0, 0), (0, 0), (0, 0), (0, 0), (0, 0), (0, 0), (8, 0), (9, 0), (8, 5), (15, 0)] r_p 8) (bx_val [(0, 0), (0, 0), (0, 0), (0, 0), (0, 0), (0, 0), (0, 0), (0, 0), (8, 0), (9, 0), (8, 5), (15, 0)] r_p 9) (bx_val [(0, 0), (0, 0), (0, 0), (0, 0), (0, 0), (0, 0), (0, 0), (0, 0), (8, 0), (9, 0), (8, 5), (15, 0)] r_p 10) (bx_val [(0, 0), (0, 0), (0, 0), (0, 0), (0, 0), (0, 0), (0, 0), (0, 0), (8, 0), (9, 0), (8, 5), (15, 0)] r_p 11)
    rw [bx_val_x (n := 8) (e := (8, 0)) h0_ rfl, bx_val_x (n := 9) (e := (9, 0)) h0_ rfl, bx_val_x (n := 10) (e := (8, 5)) h0_ rfl, bx_val_x (n := 11) (e := (15, 0)) h0_ rfl]
    exact g.2.2.1
  · show rxmRYW_30 S0 ws S_p (bx_val [(0, 0), (0, 0), (0, 0), (0, 0), (0, 0), (0, 0), (0, 0), (0, 0), (8, 0), (9, 0), (8, 5), (15, 0)] r_p 8) (bx_val [(0, 0), (0, 0), (0, 0), (0, 0), (0, 0), (0, 0), (0, 0), (0, 0), (8, 0), (9, 0), (8, 5), (15, 0)] r_p 9) (bx_val [(0, 0), (0, 0), (0, 0), (0, 0), (0, 0), (0, 0), (0, 0), (0, 0), (8, 0), (9, 0), (8, 5), (15, 0)] r_p 10) (bx_val [(0, 0), (0, 0), (0, 0), (0, 0), (0, 0), (0, 0), (0, 0), (0, 0), (8, 0), (9, 0), (8, 5), (15, 0)] r_p 11) < rxmRYW_25 S0 ws S_p (r 8) (r 9) (r 10) (r 11)
    rw [bx_val_x (n := 8) (e := (8, 0)) h0_ rfl, bx_val_x (n := 9) (e := (9, 0)) h0_ rfl, bx_val_x (n := 10) (e := (8, 5)) h0_ rfl, bx_val_x (n := 11) (e := (15, 0)) h0_ rfl, ← hr_ 8 (by decide), ← hr_ 9 (by decide), ← hr_ 10 (by decide), ← hr_ 11 (by decide)]
    exact g.2.2.2
theorem rxcRYW_25_2 {S0 : Nat → Int → Int} {ws : List Int} {S : Nat → Int → Int} {base dd a v x12 x13 x14 : Int} (hP : rxPRYW S0 ws) (hin : bx_same rxL (bx_mdl rxCRYW.2.2.1) S0 S) (I0 : bx_Inv rxL S) (hinv : rxIRYW_25 S0 ws S base dd a v) (l8 : 0 ≤ base) (u8 : base ≤ 110) (l9 : 0 ≤ dd) (u9 : dd ≤ 0) (l10 : 4 ≤ a) (u10 : a ≤ 114) (l11 : 0 ≤ v) (u11 : v ≤ 400) (l12 : 0 ≤ x12) (u12 : x12 ≤ 0) (l13 : 1 ≤ x13) (u13 : x13 ≤ 1) (l14 : 239 ≤ x14) (u14 : x14 ≤ 239) (e2 : S 480 14 = x12) (e1 : S 480 11 = x13) (e0 : S 480 12 = x14) : (True) ∧ (True) ∧ rxIRYW_26 S0 ws S base dd ∧ rxmRYW_26 S0 ws S base dd < rxmRYW_25 S0 ws S base dd a v := by
  obtain ⟨hI, hx⟩ := hinv
  obtain ⟨a_, b_, c_, d_⟩ := rxcRY_25_2 hP hin I0 hI l8 u8 l9 u9 l10 u10 l11 u11 l12 u12 l13 u13 l14 u14 e2 e1 e0
  exact ⟨a_, b_, ⟨c_, ⟨by omega, fun c hD hW => rzCa_im (hx c hD hW) fun _ r q => Or.inr ⟨decide_eq_false (by omega), q⟩, fun b => (rzDq_is b (w := rzW_go) (v := 239) (by decide) (by decide)).mp ⟨by omega, by omega⟩⟩⟩, d_⟩
theorem rxgRYW_25_2 {X : (Nat → Int → Int) → Prop} {S0 : Nat → Int → Int} {ws : List Int} (hP : rxPRYW S0 ws) : bx_obC rxL X S0 rxCRYW.2.2.1 (rxIRYW S0 ws) (rxmRYW S0 ws) 25 rxzRYW_25 rxoRYW_25_2 := by
  intro S S_p r r_p hinv hX hin hsm_ hseg
  obtain ⟨I0, I1, h0_, hr_, b_, f_, d_⟩ := bx_cl (evs := [(0, (0, 480), (0, 12), .inr (1, (14, 0))), (0, (0, 480), (0, 11), .inr (0, (13, 0))), (0, (0, 480), (0, 14), .inr (0, (12, 0)))]) (fvs := []) hseg (by decide +kernel) (by decide +kernel)
  have hinv : rxIRYW_25 S0 ws S (r 8) (r 9) (r 10) (r 11) := hinv
  rw [← hr_ 8 (by decide), ← hr_ 9 (by decide), ← hr_ 10 (by decide), ← hr_ 11 (by decide)] at hinv
  obtain ⟨⟨l8, u8⟩, ⟨l9, u9⟩, ⟨l10, u10⟩, ⟨l11, u11⟩, ⟨l12, u12⟩, ⟨l13, u13⟩, ⟨l14, u14⟩, -⟩ := b_
  obtain ⟨e0, ⟨e1, ⟨e2, w_⟩⟩⟩ := d_
  subst w_
  have g := rxcRYW_25_2 hP hin I0 hinv l8 u8 l9 u9 l10 u10 l11 u11 l12 u12 l13 u13 l14 u14 e2 e1 e0
  refine ⟨bx_narP_ok (l := []) g.1, bx_nfP_ok h0_ (fvs := []) (by decide +kernel) g.2.1, ?_, ?_⟩
  · show rxIRYW_26 S0 ws S_p (bx_val [(0, 0), (0, 0), (0, 0), (0, 0), (0, 0), (0, 0), (0, 0), (0, 0), (8, 0), (9, 0)] r_p 8) (bx_val [(0, 0), (0, 0), (0, 0), (0, 0), (0, 0), (0, 0), (0, 0), (0, 0), (8, 0), (9, 0)] r_p 9)
    rw [bx_val_x (n := 8) (e := (8, 0)) h0_ rfl, bx_val_x (n := 9) (e := (9, 0)) h0_ rfl]
    exact g.2.2.1
  · show rxmRYW_26 S0 ws S_p (bx_val [(0, 0), (0, 0), (0, 0), (0, 0), (0, 0), (0, 0), (0, 0), (0, 0), (8, 0), (9, 0)] r_p 8) (bx_val [(0, 0), (0, 0), (0, 0), (0, 0), (0, 0), (0, 0), (0, 0), (0, 0), (8, 0), (9, 0)] r_p 9) < rxmRYW_25 S0 ws S_p (r 8) (r 9) (r 10) (r 11)
    rw [bx_val_x (n := 8) (e := (8, 0)) h0_ rfl, bx_val_x (n := 9) (e := (9, 0)) h0_ rfl, ← hr_ 8 (by decide), ← hr_ 9 (by decide), ← hr_ 10 (by decide), ← hr_ 11 (by decide)]
    exact g.2.2.2
theorem rxcRYW_25_3 {S0 : Nat → Int → Int} {ws : List Int} {S : Nat → Int → Int} {base dd a v x12 x13 : Int} (hP : rxPRYW S0 ws) (hin : bx_same rxL (bx_mdl rxCRYW.2.2.1) S0 S) (I0 : bx_Inv rxL S) (hinv : rxIRYW_25 S0 ws S base dd a v) (l8 : 0 ≤ base) (u8 : base ≤ 110) (l9 : 1 ≤ dd) (u9 : dd ≤ 1) (l10 : 4 ≤ a) (u10 : a ≤ 114) (l11 : 0 ≤ v) (u11 : v ≤ 400) (l12 : 0 ≤ x12) (u12 : x12 ≤ 0) (l13 : 0 ≤ x13) (u13 : x13 ≤ 400) (f0 : dd ≠ 0) (e1 : S 480 14 = x12) (e0 : S 480 18 = x13) : (True) ∧ (True) ∧ rxIRYW_30 S0 ws S base dd (base + 5) x13 ∧ rxmRYW_30 S0 ws S base dd (base + 5) x13 < rxmRYW_25 S0 ws S base dd a v := by
  obtain ⟨hI, hx⟩ := hinv
  obtain ⟨a_, b_, c_, d_⟩ := rxcRY_25_3 hP hin I0 hI l8 u8 l9 u9 l10 u10 l11 u11 l12 u12 l13 u13 f0 e1 e0
  exact ⟨a_, b_, ⟨c_, (fun c hD hW => rzCa_im (hx c hD hW) fun _ r q => Or.inl ⟨decide_eq_true (by omega), q⟩)⟩, d_⟩
theorem rxgRYW_25_3 {X : (Nat → Int → Int) → Prop} {S0 : Nat → Int → Int} {ws : List Int} (hP : rxPRYW S0 ws) : bx_obC rxL X S0 rxCRYW.2.2.1 (rxIRYW S0 ws) (rxmRYW S0 ws) 25 rxzRYW_25 rxoRYW_25_3 := by
  intro S S_p r r_p hinv hX hin hsm_ hseg
  obtain ⟨I0, I1, h0_, hr_, b_, f_, d_⟩ := bx_cl (evs := [(0, (0, 480), (0, 18), .inr (0, (13, 0))), (0, (0, 480), (0, 14), .inr (0, (12, 0)))]) (fvs := [(3, (9, 0), (0, 0), (0, 0))]) hseg (by decide +kernel) (by decide +kernel)
  have hinv : rxIRYW_25 S0 ws S (r 8) (r 9) (r 10) (r 11) := hinv
  rw [← hr_ 8 (by decide), ← hr_ 9 (by decide), ← hr_ 10 (by decide), ← hr_ 11 (by decide)] at hinv
  obtain ⟨⟨l8, u8⟩, ⟨l9, u9⟩, ⟨l10, u10⟩, ⟨l11, u11⟩, ⟨l12, u12⟩, ⟨l13, u13⟩, -⟩ := b_
  obtain ⟨f0, -⟩ := f_
  obtain ⟨e0, ⟨e1, w_⟩⟩ := d_
  subst w_
  have g := rxcRYW_25_3 hP hin I0 hinv l8 u8 l9 u9 l10 u10 l11 u11 l12 u12 l13 u13 f0 e1 e0
  refine ⟨bx_narP_ok (l := []) g.1, bx_nfP_ok h0_ (fvs := []) (by decide +kernel) g.2.1, ?_, ?_⟩
  · show rxIRYW_30 S0 ws S_p (bx_val [(0, 0), (0, 0), (0, 0), (0, 0), (0, 0), (0, 0), (0, 0), (0, 0), (8, 0), (9, 0), (8, 5), (13, 0)] r_p 8) (bx_val [(0, 0), (0, 0), (0, 0), (0, 0), (0, 0), (0, 0), (0, 0), (0, 0), (8, 0), (9, 0), (8, 5), (13, 0)] r_p 9) (bx_val [(0, 0), (0, 0), (0, 0), (0, 0), (0, 0), (0, 0), (0, 0), (0, 0), (8, 0), (9, 0), (8, 5), (13, 0)] r_p 10) (bx_val [(0, 0), (0, 0), (0, 0), (0, 0), (0, 0), (0, 0), (0, 0), (0, 0), (8, 0), (9, 0), (8, 5), (13, 0)] r_p 11)
    rw [bx_val_x (n := 8) (e := (8, 0)) h0_ rfl, bx_val_x (n := 9) (e := (9, 0)) h0_ rfl, bx_val_x (n := 10) (e := (8, 5)) h0_ rfl, bx_val_x (n := 11) (e := (13, 0)) h0_ rfl]
    exact g.2.2.1
  · show rxmRYW_30 S0 ws S_p (bx_val [(0, 0), (0, 0), (0, 0), (0, 0), (0, 0), (0, 0), (0, 0), (0, 0), (8, 0), (9, 0), (8, 5), (13, 0)] r_p 8) (bx_val [(0, 0), (0, 0), (0, 0), (0, 0), (0, 0), (0, 0), (0, 0), (0, 0), (8, 0), (9, 0), (8, 5), (13, 0)] r_p 9) (bx_val [(0, 0), (0, 0), (0, 0), (0, 0), (0, 0), (0, 0), (0, 0), (0, 0), (8, 0), (9, 0), (8, 5), (13, 0)] r_p 10) (bx_val [(0, 0), (0, 0), (0, 0), (0, 0), (0, 0), (0, 0), (0, 0), (0, 0), (8, 0), (9, 0), (8, 5), (13, 0)] r_p 11) < rxmRYW_25 S0 ws S_p (r 8) (r 9) (r 10) (r 11)
    rw [bx_val_x (n := 8) (e := (8, 0)) h0_ rfl, bx_val_x (n := 9) (e := (9, 0)) h0_ rfl, bx_val_x (n := 10) (e := (8, 5)) h0_ rfl, bx_val_x (n := 11) (e := (13, 0)) h0_ rfl, ← hr_ 8 (by decide), ← hr_ 9 (by decide), ← hr_ 10 (by decide), ← hr_ 11 (by decide)]
    exact g.2.2.2
theorem rxcRYW_25_4 {S0 : Nat → Int → Int} {ws : List Int} {S : Nat → Int → Int} {base dd a v x12 x13 : Int} (hP : rxPRYW S0 ws) (hin : bx_same rxL (bx_mdl rxCRYW.2.2.1) S0 S) (I0 : bx_Inv rxL S) (hinv : rxIRYW_25 S0 ws S base dd a v) (l8 : 0 ≤ base) (u8 : base ≤ 110) (l9 : 0 ≤ dd) (u9 : dd ≤ 1) (l10 : 4 ≤ a) (u10 : a ≤ 114) (l11 : 0 ≤ v) (u11 : v ≤ 400) (l12 : 1 ≤ x12) (u12 : x12 ≤ 1) (l13 : 0 ≤ x13) (u13 : x13 ≤ 400) (f0 : x12 ≠ 0) (e1 : S 480 14 = x12) (e0 : S 480 18 = x13) : (True) ∧ (True) ∧ rxIRYW_30 S0 ws S base dd (base + 5) x13 ∧ rxmRYW_30 S0 ws S base dd (base + 5) x13 < rxmRYW_25 S0 ws S base dd a v := by
  obtain ⟨hI, hx⟩ := hinv
  obtain ⟨a_, b_, c_, d_⟩ := rxcRY_25_4 hP hin I0 hI l8 u8 l9 u9 l10 u10 l11 u11 l12 u12 l13 u13 f0 e1 e0
  exact ⟨a_, b_, ⟨c_, (fun c hD hW => rzCa_b (hx c hD hW) (by omega))⟩, d_⟩
theorem rxgRYW_25_4 {X : (Nat → Int → Int) → Prop} {S0 : Nat → Int → Int} {ws : List Int} (hP : rxPRYW S0 ws) : bx_obC rxL X S0 rxCRYW.2.2.1 (rxIRYW S0 ws) (rxmRYW S0 ws) 25 rxzRYW_25 rxoRYW_25_4 := by
  intro S S_p r r_p hinv hX hin hsm_ hseg
  obtain ⟨I0, I1, h0_, hr_, b_, f_, d_⟩ := bx_cl (evs := [(0, (0, 480), (0, 18), .inr (0, (13, 0))), (0, (0, 480), (0, 14), .inr (0, (12, 0)))]) (fvs := [(3, (12, 0), (0, 0), (0, 0))]) hseg (by decide +kernel) (by decide +kernel)
  have hinv : rxIRYW_25 S0 ws S (r 8) (r 9) (r 10) (r 11) := hinv
  rw [← hr_ 8 (by decide), ← hr_ 9 (by decide), ← hr_ 10 (by decide), ← hr_ 11 (by decide)] at hinv
  obtain ⟨⟨l8, u8⟩, ⟨l9, u9⟩, ⟨l10, u10⟩, ⟨l11, u11⟩, ⟨l12, u12⟩, ⟨l13, u13⟩, -⟩ := b_
  obtain ⟨f0, -⟩ := f_
  obtain ⟨e0, ⟨e1, w_⟩⟩ := d_
  subst w_
  have g := rxcRYW_25_4 hP hin I0 hinv l8 u8 l9 u9 l10 u10 l11 u11 l12 u12 l13 u13 f0 e1 e0
  refine ⟨bx_narP_ok (l := []) g.1, bx_nfP_ok h0_ (fvs := []) (by decide +kernel) g.2.1, ?_, ?_⟩
  · show rxIRYW_30 S0 ws S_p (bx_val [(0, 0), (0, 0), (0, 0), (0, 0), (0, 0), (0, 0), (0, 0), (0, 0), (8, 0), (9, 0), (8, 5), (13, 0)] r_p 8) (bx_val [(0, 0), (0, 0), (0, 0), (0, 0), (0, 0), (0, 0), (0, 0), (0, 0), (8, 0), (9, 0), (8, 5), (13, 0)] r_p 9) (bx_val [(0, 0), (0, 0), (0, 0), (0, 0), (0, 0), (0, 0), (0, 0), (0, 0), (8, 0), (9, 0), (8, 5), (13, 0)] r_p 10) (bx_val [(0, 0), (0, 0), (0, 0), (0, 0), (0, 0), (0, 0), (0, 0), (0, 0), (8, 0), (9, 0), (8, 5), (13, 0)] r_p 11)
    rw [bx_val_x (n := 8) (e := (8, 0)) h0_ rfl, bx_val_x (n := 9) (e := (9, 0)) h0_ rfl, bx_val_x (n := 10) (e := (8, 5)) h0_ rfl, bx_val_x (n := 11) (e := (13, 0)) h0_ rfl]
    exact g.2.2.1
  · show rxmRYW_30 S0 ws S_p (bx_val [(0, 0), (0, 0), (0, 0), (0, 0), (0, 0), (0, 0), (0, 0), (0, 0), (8, 0), (9, 0), (8, 5), (13, 0)] r_p 8) (bx_val [(0, 0), (0, 0), (0, 0), (0, 0), (0, 0), (0, 0), (0, 0), (0, 0), (8, 0), (9, 0), (8, 5), (13, 0)] r_p 9) (bx_val [(0, 0), (0, 0), (0, 0), (0, 0), (0, 0), (0, 0), (0, 0), (0, 0), (8, 0), (9, 0), (8, 5), (13, 0)] r_p 10) (bx_val [(0, 0), (0, 0), (0, 0), (0, 0), (0, 0), (0, 0), (0, 0), (0, 0), (8, 0), (9, 0), (8, 5), (13, 0)] r_p 11) < rxmRYW_25 S0 ws S_p (r 8) (r 9) (r 10) (r 11)
    rw [bx_val_x (n := 8) (e := (8, 0)) h0_ rfl, bx_val_x (n := 9) (e := (9, 0)) h0_ rfl, bx_val_x (n := 10) (e := (8, 5)) h0_ rfl, bx_val_x (n := 11) (e := (13, 0)) h0_ rfl, ← hr_ 8 (by decide), ← hr_ 9 (by decide), ← hr_ 10 (by decide), ← hr_ 11 (by decide)]
    exact g.2.2.2
theorem rxcRYW_27_0 {S0 : Nat → Int → Int} {ws : List Int} {S : Nat → Int → Int} {base dd : Int} (hP : rxPRYW S0 ws) (hin : bx_same rxL (bx_mdl rxCRYW.2.2.1) S0 S) (I0 : bx_Inv rxL S) (hinv : rxIRYW_27 S0 ws S base dd) (l8 : 0 ≤ base) (u8 : base ≤ 110) (l9 : 0 ≤ dd) (u9 : dd ≤ 1) : (True) ∧ (True) ∧ rxIRYW_28 S0 ws S base dd ∧ rxmRYW_28 S0 ws S base dd < rxmRYW_27 S0 ws S base dd := by
  obtain ⟨hI, hx⟩ := hinv
  obtain ⟨a_, b_, c_, d_⟩ := rxcRY_27_0 hP hin I0 hI l8 u8 l9 u9
  exact ⟨a_, b_, ⟨c_, (fun c hD hW => hx c hD hW)⟩, d_⟩
theorem rxgRYW_27_0 {X : (Nat → Int → Int) → Prop} {S0 : Nat → Int → Int} {ws : List Int} (hP : rxPRYW S0 ws) : bx_obC rxL X S0 rxCRYW.2.2.1 (rxIRYW S0 ws) (rxmRYW S0 ws) 27 rxzRYW_27 rxoRYW_27_0 := by
  intro S S_p r r_p hinv hX hin hsm_ hseg
  obtain ⟨I0, I1, h0_, hr_, b_, f_, d_⟩ := bx_cl (evs := []) (fvs := []) hseg (by decide +kernel) (by decide +kernel)
  have hinv : rxIRYW_27 S0 ws S (r 8) (r 9) := hinv
  rw [← hr_ 8 (by decide), ← hr_ 9 (by decide)] at hinv
  obtain ⟨⟨l8, u8⟩, ⟨l9, u9⟩, -⟩ := b_
  have w_ := d_
  subst w_
  have g := rxcRYW_27_0 hP hin I0 hinv l8 u8 l9 u9
  refine ⟨bx_narP_ok (l := []) g.1, bx_nfP_ok h0_ (fvs := []) (by decide +kernel) g.2.1, ?_, ?_⟩
  · show rxIRYW_28 S0 ws S_p (bx_val [(0, 0), (0, 0), (0, 0), (0, 0), (0, 0), (0, 0), (0, 0), (0, 0), (8, 0), (9, 0)] r_p 8) (bx_val [(0, 0), (0, 0), (0, 0), (0, 0), (0, 0), (0, 0), (0, 0), (0, 0), (8, 0), (9, 0)] r_p 9)
    rw [bx_val_x (n := 8) (e := (8, 0)) h0_ rfl, bx_val_x (n := 9) (e := (9, 0)) h0_ rfl]
    exact g.2.2.1
  · show rxmRYW_28 S0 ws S_p (bx_val [(0, 0), (0, 0), (0, 0), (0, 0), (0, 0), (0, 0), (0, 0), (0, 0), (8, 0), (9, 0)] r_p 8) (bx_val [(0, 0), (0, 0), (0, 0), (0, 0), (0, 0), (0, 0), (0, 0), (0, 0), (8, 0), (9, 0)] r_p 9) < rxmRYW_27 S0 ws S_p (r 8) (r 9)
    rw [bx_val_x (n := 8) (e := (8, 0)) h0_ rfl, bx_val_x (n := 9) (e := (9, 0)) h0_ rfl, ← hr_ 8 (by decide), ← hr_ 9 (by decide)]
    exact g.2.2.2
theorem rxcRYW_29_0 {S0 : Nat → Int → Int} {ws : List Int} {S : Nat → Int → Int} {base dd x10 : Int} (hP : rxPRYW S0 ws) (hin : bx_same rxL (bx_mdl rxCRYW.2.2.1) S0 S) (I0 : bx_Inv rxL S) (hinv : rxIRYW_29 S0 ws S base dd) (l8 : 0 ≤ base) (u8 : base ≤ 110) (l9 : 0 ≤ dd) (u9 : dd ≤ 1) (l10 : 0 ≤ x10) (u10 : x10 ≤ 400) (e0 : S 480 18 = x10) : (True) ∧ (True) ∧ rxIRYW_30 S0 ws S base dd (base + 5) x10 ∧ rxmRYW_30 S0 ws S base dd (base + 5) x10 < rxmRYW_29 S0 ws S base dd := by
  obtain ⟨hI, hx⟩ := hinv
  obtain ⟨a_, b_, c_, d_⟩ := rxcRY_29_0 hP hin I0 hI l8 u8 l9 u9 l10 u10 e0
  exact ⟨a_, b_, ⟨c_, (fun c hD hW => hx c hD hW)⟩, d_⟩
theorem rxgRYW_29_0 {X : (Nat → Int → Int) → Prop} {S0 : Nat → Int → Int} {ws : List Int} (hP : rxPRYW S0 ws) : bx_obC rxL X S0 rxCRYW.2.2.1 (rxIRYW S0 ws) (rxmRYW S0 ws) 29 rxzRYW_29 rxoRYW_29_0 := by
  intro S S_p r r_p hinv hX hin hsm_ hseg
  obtain ⟨I0, I1, h0_, hr_, b_, f_, d_⟩ := bx_cl (evs := [(0, (0, 480), (0, 18), .inr (0, (10, 0)))]) (fvs := []) hseg (by decide +kernel) (by decide +kernel)
  have hinv : rxIRYW_29 S0 ws S (r 8) (r 9) := hinv
  rw [← hr_ 8 (by decide), ← hr_ 9 (by decide)] at hinv
  obtain ⟨⟨l8, u8⟩, ⟨l9, u9⟩, ⟨l10, u10⟩, -⟩ := b_
  obtain ⟨e0, w_⟩ := d_
  subst w_
  have g := rxcRYW_29_0 hP hin I0 hinv l8 u8 l9 u9 l10 u10 e0
  refine ⟨bx_narP_ok (l := []) g.1, bx_nfP_ok h0_ (fvs := []) (by decide +kernel) g.2.1, ?_, ?_⟩
  · show rxIRYW_30 S0 ws S_p (bx_val [(0, 0), (0, 0), (0, 0), (0, 0), (0, 0), (0, 0), (0, 0), (0, 0), (8, 0), (9, 0), (8, 5), (10, 0)] r_p 8) (bx_val [(0, 0), (0, 0), (0, 0), (0, 0), (0, 0), (0, 0), (0, 0), (0, 0), (8, 0), (9, 0), (8, 5), (10, 0)] r_p 9) (bx_val [(0, 0), (0, 0), (0, 0), (0, 0), (0, 0), (0, 0), (0, 0), (0, 0), (8, 0), (9, 0), (8, 5), (10, 0)] r_p 10) (bx_val [(0, 0), (0, 0), (0, 0), (0, 0), (0, 0), (0, 0), (0, 0), (0, 0), (8, 0), (9, 0), (8, 5), (10, 0)] r_p 11)
    rw [bx_val_x (n := 8) (e := (8, 0)) h0_ rfl, bx_val_x (n := 9) (e := (9, 0)) h0_ rfl, bx_val_x (n := 10) (e := (8, 5)) h0_ rfl, bx_val_x (n := 11) (e := (10, 0)) h0_ rfl]
    exact g.2.2.1
  · show rxmRYW_30 S0 ws S_p (bx_val [(0, 0), (0, 0), (0, 0), (0, 0), (0, 0), (0, 0), (0, 0), (0, 0), (8, 0), (9, 0), (8, 5), (10, 0)] r_p 8) (bx_val [(0, 0), (0, 0), (0, 0), (0, 0), (0, 0), (0, 0), (0, 0), (0, 0), (8, 0), (9, 0), (8, 5), (10, 0)] r_p 9) (bx_val [(0, 0), (0, 0), (0, 0), (0, 0), (0, 0), (0, 0), (0, 0), (0, 0), (8, 0), (9, 0), (8, 5), (10, 0)] r_p 10) (bx_val [(0, 0), (0, 0), (0, 0), (0, 0), (0, 0), (0, 0), (0, 0), (0, 0), (8, 0), (9, 0), (8, 5), (10, 0)] r_p 11) < rxmRYW_29 S0 ws S_p (r 8) (r 9)
    rw [bx_val_x (n := 8) (e := (8, 0)) h0_ rfl, bx_val_x (n := 9) (e := (9, 0)) h0_ rfl, bx_val_x (n := 10) (e := (8, 5)) h0_ rfl, bx_val_x (n := 11) (e := (10, 0)) h0_ rfl, ← hr_ 8 (by decide), ← hr_ 9 (by decide)]
    exact g.2.2.2
theorem rxcRYW_31_0 {S0 : Nat → Int → Int} {ws : List Int} {S : Nat → Int → Int} {base dd a v x12 x13 x14 : Int} (hP : rxPRYW S0 ws) (hin : bx_same rxL (bx_mdl rxCRYW.2.2.1) S0 S) (I0 : bx_Inv rxL S) (hinv : rxIRYW_31 S0 ws S base dd a v) (l8 : 0 ≤ base) (u8 : base ≤ 110) (l9 : 0 ≤ dd) (u9 : dd ≤ 1) (l10 : 5 ≤ a) (u10 : a ≤ 115) (l11 : 0 ≤ v) (u11 : v ≤ 400) (l12 : 0 ≤ x12) (u12 : x12 ≤ 0) (l13 : 0 ≤ x13) (u13 : x13 ≤ 3) (l14 : 0 ≤ x14) (u14 : x14 ≤ 400) (f0 : x13 ≠ 1) (e2 : S 480 14 = x12) (e1 : S 480 11 = x13) (e0 : S 480 18 = x14) : (True) ∧ (True) ∧ rxIRYW_36 S0 ws S base dd (base + 6) x14 ∧ rxmRYW_36 S0 ws S base dd (base + 6) x14 < rxmRYW_31 S0 ws S base dd a v := by
  obtain ⟨hI, hx⟩ := hinv
  obtain ⟨a_, b_, c_, d_⟩ := rxcRY_31_0 hP hin I0 hI l8 u8 l9 u9 l10 u10 l11 u11 l12 u12 l13 u13 l14 u14 f0 e2 e1 e0
  exact ⟨a_, b_, ⟨c_, (fun c hD hW => rzCa_dn (hx c hD hW) fun z => by
    obtain ⟨a, b, -⟩ := (hx c hD hW).1 z
    have q := rzDq_no b (w := rzW_if) (v := 294) (by decide) (by decide) (by omega)
    rw [a.1, a.2.1] at q
    exact Or.inr ⟨q, rfl⟩)⟩, d_⟩
theorem rxgRYW_31_0 {X : (Nat → Int → Int) → Prop} {S0 : Nat → Int → Int} {ws : List Int} (hP : rxPRYW S0 ws) : bx_obC rxL X S0 rxCRYW.2.2.1 (rxIRYW S0 ws) (rxmRYW S0 ws) 31 rxzRYW_31 rxoRYW_31_0 := by
  intro S S_p r r_p hinv hX hin hsm_ hseg
  obtain ⟨I0, I1, h0_, hr_, b_, f_, d_⟩ := bx_cl (evs := [(0, (0, 480), (0, 18), .inr (0, (14, 0))), (0, (0, 480), (0, 11), .inr (0, (13, 0))), (0, (0, 480), (0, 14), .inr (0, (12, 0)))]) (fvs := [(3, (13, 0), (0, 1), (0, 0))]) hseg (by decide +kernel) (by decide +kernel)
  have hinv : rxIRYW_31 S0 ws S (r 8) (r 9) (r 10) (r 11) := hinv
  rw [← hr_ 8 (by decide), ← hr_ 9 (by decide), ← hr_ 10 (by decide), ← hr_ 11 (by decide)] at hinv
  obtain ⟨⟨l8, u8⟩, ⟨l9, u9⟩, ⟨l10, u10⟩, ⟨l11, u11⟩, ⟨l12, u12⟩, ⟨l13, u13⟩, ⟨l14, u14⟩, -⟩ := b_
  obtain ⟨f0, -⟩ := f_
  obtain ⟨e0, ⟨e1, ⟨e2, w_⟩⟩⟩ := d_
  subst w_
  have g := rxcRYW_31_0 hP hin I0 hinv l8 u8 l9 u9 l10 u10 l11 u11 l12 u12 l13 u13 l14 u14 f0 e2 e1 e0
  refine ⟨bx_narP_ok (l := []) g.1, bx_nfP_ok h0_ (fvs := []) (by decide +kernel) g.2.1, ?_, ?_⟩
  · show rxIRYW_36 S0 ws S_p (bx_val [(0, 0), (0, 0), (0, 0), (0, 0), (0, 0), (0, 0), (0, 0), (0, 0), (8, 0), (9, 0), (8, 6), (14, 0)] r_p 8) (bx_val [(0, 0), (0, 0), (0, 0), (0, 0), (0, 0), (0, 0), (0, 0), (0, 0), (8, 0), (9, 0), (8, 6), (14, 0)] r_p 9) (bx_val [(0, 0), (0, 0), (0, 0), (0, 0), (0, 0), (0, 0), (0, 0), (0, 0), (8, 0), (9, 0), (8, 6), (14, 0)] r_p 10) (bx_val [(0, 0), (0, 0), (0, 0), (0, 0), (0, 0), (0, 0), (0, 0), (0, 0), (8, 0), (9, 0), (8, 6), (14, 0)] r_p 11)
    rw [bx_val_x (n := 8) (e := (8, 0)) h0_ rfl, bx_val_x (n := 9) (e := (9, 0)) h0_ rfl, bx_val_x (n := 10) (e := (8, 6)) h0_ rfl, bx_val_x (n := 11) (e := (14, 0)) h0_ rfl]
    exact g.2.2.1
  · show rxmRYW_36 S0 ws S_p (bx_val [(0, 0), (0, 0), (0, 0), (0, 0), (0, 0), (0, 0), (0, 0), (0, 0), (8, 0), (9, 0), (8, 6), (14, 0)] r_p 8) (bx_val [(0, 0), (0, 0), (0, 0), (0, 0), (0, 0), (0, 0), (0, 0), (0, 0), (8, 0), (9, 0), (8, 6), (14, 0)] r_p 9) (bx_val [(0, 0), (0, 0), (0, 0), (0, 0), (0, 0), (0, 0), (0, 0), (0, 0), (8, 0), (9, 0), (8, 6), (14, 0)] r_p 10) (bx_val [(0, 0), (0, 0), (0, 0), (0, 0), (0, 0), (0, 0), (0, 0), (0, 0), (8, 0), (9, 0), (8, 6), (14, 0)] r_p 11) < rxmRYW_31 S0 ws S_p (r 8) (r 9) (r 10) (r 11)
    rw [bx_val_x (n := 8) (e := (8, 0)) h0_ rfl, bx_val_x (n := 9) (e := (9, 0)) h0_ rfl, bx_val_x (n := 10) (e := (8, 6)) h0_ rfl, bx_val_x (n := 11) (e := (14, 0)) h0_ rfl, ← hr_ 8 (by decide), ← hr_ 9 (by decide), ← hr_ 10 (by decide), ← hr_ 11 (by decide)]
    exact g.2.2.2
theorem rxcRYW_31_1 {S0 : Nat → Int → Int} {ws : List Int} {S : Nat → Int → Int} {base dd a v x12 x13 x14 x15 : Int} (hP : rxPRYW S0 ws) (hin : bx_same rxL (bx_mdl rxCRYW.2.2.1) S0 S) (I0 : bx_Inv rxL S) (hinv : rxIRYW_31 S0 ws S base dd a v) (l8 : 0 ≤ base) (u8 : base ≤ 110) (l9 : 0 ≤ dd) (u9 : dd ≤ 1) (l10 : 5 ≤ a) (u10 : a ≤ 115) (l11 : 0 ≤ v) (u11 : v ≤ 400) (l12 : 0 ≤ x12) (u12 : x12 ≤ 0) (l13 : 1 ≤ x13) (u13 : x13 ≤ 1) (l14 : (-9223372036854775808) ≤ x14) (u14 : x14 ≤ 9223372036854775807) (l15 : 0 ≤ x15) (u15 : x15 ≤ 400) (f0 : x14 ≠ 294) (e3 : S 480 14 = x12) (e2 : S 480 11 = x13) (e1 : S 480 12 = x14) (e0 : S 480 18 = x15) : (True) ∧ (True) ∧ rxIRYW_36 S0 ws S base dd (base + 6) x15 ∧ rxmRYW_36 S0 ws S base dd (base + 6) x15 < rxmRYW_31 S0 ws S base dd a v := by
  obtain ⟨hI, hx⟩ := hinv
  obtain ⟨a_, b_, c_, d_⟩ := rxcRY_31_1 hP hin I0 hI l8 u8 l9 u9 l10 u10 l11 u11 l12 u12 l13 u13 l14 u14 l15 u15 f0 e3 e2 e1 e0
  exact ⟨a_, b_, ⟨c_, (fun c hD hW => rzCa_dn (hx c hD hW) fun z => by
    obtain ⟨a, b, -⟩ := (hx c hD hW).1 z
    have q := rzDq_no b (w := rzW_if) (v := 294) (by decide) (by decide) (by omega)
    rw [a.1, a.2.1] at q
    exact Or.inr ⟨q, rfl⟩)⟩, d_⟩
theorem rxgRYW_31_1 {X : (Nat → Int → Int) → Prop} {S0 : Nat → Int → Int} {ws : List Int} (hP : rxPRYW S0 ws) : bx_obC rxL X S0 rxCRYW.2.2.1 (rxIRYW S0 ws) (rxmRYW S0 ws) 31 rxzRYW_31 rxoRYW_31_1 := by
  intro S S_p r r_p hinv hX hin hsm_ hseg
  obtain ⟨I0, I1, h0_, hr_, b_, f_, d_⟩ := bx_cl (evs := [(0, (0, 480), (0, 18), .inr (0, (15, 0))), (0, (0, 480), (0, 12), .inr (1, (14, 0))), (0, (0, 480), (0, 11), .inr (0, (13, 0))), (0, (0, 480), (0, 14), .inr (0, (12, 0)))]) (fvs := [(3, (14, 0), (0, 294), (0, 0))]) hseg (by decide +kernel) (by decide +kernel)
  have hinv : rxIRYW_31 S0 ws S (r 8) (r 9) (r 10) (r 11) := hinv
  rw [← hr_ 8 (by decide), ← hr_ 9 (by decide), ← hr_ 10 (by decide), ← hr_ 11 (by decide)] at hinv
  obtain ⟨⟨l8, u8⟩, ⟨l9, u9⟩, ⟨l10, u10⟩, ⟨l11, u11⟩, ⟨l12, u12⟩, ⟨l13, u13⟩, ⟨l14, u14⟩, ⟨l15, u15⟩, -⟩ := b_
  obtain ⟨f0, -⟩ := f_
  obtain ⟨e0, ⟨e1, ⟨e2, ⟨e3, w_⟩⟩⟩⟩ := d_
  subst w_
  have g := rxcRYW_31_1 hP hin I0 hinv l8 u8 l9 u9 l10 u10 l11 u11 l12 u12 l13 u13 l14 u14 l15 u15 f0 e3 e2 e1 e0
  refine ⟨bx_narP_ok (l := []) g.1, bx_nfP_ok h0_ (fvs := []) (by decide +kernel) g.2.1, ?_, ?_⟩
  · show rxIRYW_36 S0 ws S_p (bx_val [(0, 0), (0, 0), (0, 0), (0, 0), (0, 0), (0, 0), (0, 0), (0, 0), (8, 0), (9, 0), (8, 6), (15, 0)] r_p 8) (bx_val [(0, 0), (0, 0), (0, 0), (0, 0), (0, 0), (0, 0), (0, 0), (0, 0), (8, 0), (9, 0), (8, 6), (15, 0)] r_p 9) (bx_val [(0, 0), (0, 0), (0, 0), (0, 0), (0, 0), (0, 0), (0, 0), (0, 0), (8, 0), (9, 0), (8, 6), (15, 0)] r_p 10) (bx_val [(0, 0), (0, 0), (0, 0), (0, 0), (0, 0), (0, 0), (0, 0), (0, 0), (8, 0), (9, 0), (8, 6), (15, 0)] r_p 11)
    rw [bx_val_x (n := 8) (e := (8, 0)) h0_ rfl, bx_val_x (n := 9) (e := (9, 0)) h0_ rfl, bx_val_x (n := 10) (e := (8, 6)) h0_ rfl, bx_val_x (n := 11) (e := (15, 0)) h0_ rfl]
    exact g.2.2.1
  · show rxmRYW_36 S0 ws S_p (bx_val [(0, 0), (0, 0), (0, 0), (0, 0), (0, 0), (0, 0), (0, 0), (0, 0), (8, 0), (9, 0), (8, 6), (15, 0)] r_p 8) (bx_val [(0, 0), (0, 0), (0, 0), (0, 0), (0, 0), (0, 0), (0, 0), (0, 0), (8, 0), (9, 0), (8, 6), (15, 0)] r_p 9) (bx_val [(0, 0), (0, 0), (0, 0), (0, 0), (0, 0), (0, 0), (0, 0), (0, 0), (8, 0), (9, 0), (8, 6), (15, 0)] r_p 10) (bx_val [(0, 0), (0, 0), (0, 0), (0, 0), (0, 0), (0, 0), (0, 0), (0, 0), (8, 0), (9, 0), (8, 6), (15, 0)] r_p 11) < rxmRYW_31 S0 ws S_p (r 8) (r 9) (r 10) (r 11)
    rw [bx_val_x (n := 8) (e := (8, 0)) h0_ rfl, bx_val_x (n := 9) (e := (9, 0)) h0_ rfl, bx_val_x (n := 10) (e := (8, 6)) h0_ rfl, bx_val_x (n := 11) (e := (15, 0)) h0_ rfl, ← hr_ 8 (by decide), ← hr_ 9 (by decide), ← hr_ 10 (by decide), ← hr_ 11 (by decide)]
    exact g.2.2.2
theorem rxcRYW_31_2 {S0 : Nat → Int → Int} {ws : List Int} {S : Nat → Int → Int} {base dd a v x12 x13 x14 : Int} (hP : rxPRYW S0 ws) (hin : bx_same rxL (bx_mdl rxCRYW.2.2.1) S0 S) (I0 : bx_Inv rxL S) (hinv : rxIRYW_31 S0 ws S base dd a v) (l8 : 0 ≤ base) (u8 : base ≤ 110) (l9 : 0 ≤ dd) (u9 : dd ≤ 1) (l10 : 5 ≤ a) (u10 : a ≤ 115) (l11 : 0 ≤ v) (u11 : v ≤ 400) (l12 : 0 ≤ x12) (u12 : x12 ≤ 0) (l13 : 1 ≤ x13) (u13 : x13 ≤ 1) (l14 : 294 ≤ x14) (u14 : x14 ≤ 294) (e2 : S 480 14 = x12) (e1 : S 480 11 = x13) (e0 : S 480 12 = x14) : (True) ∧ (True) ∧ rxIRYW_32 S0 ws S base dd ∧ rxmRYW_32 S0 ws S base dd < rxmRYW_31 S0 ws S base dd a v := by
  obtain ⟨hI, hx⟩ := hinv
  obtain ⟨a_, b_, c_, d_⟩ := rxcRY_31_2 hP hin I0 hI l8 u8 l9 u9 l10 u10 l11 u11 l12 u12 l13 u13 l14 u14 e2 e1 e0
  exact ⟨a_, b_, ⟨c_, ⟨hx, fun b => (rzDq_is b (w := rzW_if) (v := 294) (by decide) (by decide)).mp ⟨by omega, by omega⟩⟩⟩, d_⟩
theorem rxgRYW_31_2 {X : (Nat → Int → Int) → Prop} {S0 : Nat → Int → Int} {ws : List Int} (hP : rxPRYW S0 ws) : bx_obC rxL X S0 rxCRYW.2.2.1 (rxIRYW S0 ws) (rxmRYW S0 ws) 31 rxzRYW_31 rxoRYW_31_2 := by
  intro S S_p r r_p hinv hX hin hsm_ hseg
  obtain ⟨I0, I1, h0_, hr_, b_, f_, d_⟩ := bx_cl (evs := [(0, (0, 480), (0, 12), .inr (1, (14, 0))), (0, (0, 480), (0, 11), .inr (0, (13, 0))), (0, (0, 480), (0, 14), .inr (0, (12, 0)))]) (fvs := []) hseg (by decide +kernel) (by decide +kernel)
  have hinv : rxIRYW_31 S0 ws S (r 8) (r 9) (r 10) (r 11) := hinv
  rw [← hr_ 8 (by decide), ← hr_ 9 (by decide), ← hr_ 10 (by decide), ← hr_ 11 (by decide)] at hinv
  obtain ⟨⟨l8, u8⟩, ⟨l9, u9⟩, ⟨l10, u10⟩, ⟨l11, u11⟩, ⟨l12, u12⟩, ⟨l13, u13⟩, ⟨l14, u14⟩, -⟩ := b_
  obtain ⟨e0, ⟨e1, ⟨e2, w_⟩⟩⟩ := d_
  subst w_
  have g := rxcRYW_31_2 hP hin I0 hinv l8 u8 l9 u9 l10 u10 l11 u11 l12 u12 l13 u13 l14 u14 e2 e1 e0
  refine ⟨bx_narP_ok (l := []) g.1, bx_nfP_ok h0_ (fvs := []) (by decide +kernel) g.2.1, ?_, ?_⟩
  · show rxIRYW_32 S0 ws S_p (bx_val [(0, 0), (0, 0), (0, 0), (0, 0), (0, 0), (0, 0), (0, 0), (0, 0), (8, 0), (9, 0)] r_p 8) (bx_val [(0, 0), (0, 0), (0, 0), (0, 0), (0, 0), (0, 0), (0, 0), (0, 0), (8, 0), (9, 0)] r_p 9)
    rw [bx_val_x (n := 8) (e := (8, 0)) h0_ rfl, bx_val_x (n := 9) (e := (9, 0)) h0_ rfl]
    exact g.2.2.1
  · show rxmRYW_32 S0 ws S_p (bx_val [(0, 0), (0, 0), (0, 0), (0, 0), (0, 0), (0, 0), (0, 0), (0, 0), (8, 0), (9, 0)] r_p 8) (bx_val [(0, 0), (0, 0), (0, 0), (0, 0), (0, 0), (0, 0), (0, 0), (0, 0), (8, 0), (9, 0)] r_p 9) < rxmRYW_31 S0 ws S_p (r 8) (r 9) (r 10) (r 11)
    rw [bx_val_x (n := 8) (e := (8, 0)) h0_ rfl, bx_val_x (n := 9) (e := (9, 0)) h0_ rfl, ← hr_ 8 (by decide), ← hr_ 9 (by decide), ← hr_ 10 (by decide), ← hr_ 11 (by decide)]
    exact g.2.2.2
theorem rxcRYW_31_3 {S0 : Nat → Int → Int} {ws : List Int} {S : Nat → Int → Int} {base dd a v x12 x13 : Int} (hP : rxPRYW S0 ws) (hin : bx_same rxL (bx_mdl rxCRYW.2.2.1) S0 S) (I0 : bx_Inv rxL S) (hinv : rxIRYW_31 S0 ws S base dd a v) (l8 : 0 ≤ base) (u8 : base ≤ 110) (l9 : 0 ≤ dd) (u9 : dd ≤ 1) (l10 : 5 ≤ a) (u10 : a ≤ 115) (l11 : 0 ≤ v) (u11 : v ≤ 400) (l12 : 1 ≤ x12) (u12 : x12 ≤ 1) (l13 : 0 ≤ x13) (u13 : x13 ≤ 400) (f0 : x12 ≠ 0) (e1 : S 480 14 = x12) (e0 : S 480 18 = x13) : (True) ∧ (True) ∧ rxIRYW_36 S0 ws S base dd (base + 6) x13 ∧ rxmRYW_36 S0 ws S base dd (base + 6) x13 < rxmRYW_31 S0 ws S base dd a v := by
  obtain ⟨hI, hx⟩ := hinv
  obtain ⟨a_, b_, c_, d_⟩ := rxcRY_31_3 hP hin I0 hI l8 u8 l9 u9 l10 u10 l11 u11 l12 u12 l13 u13 f0 e1 e0
  exact ⟨a_, b_, ⟨c_, (fun c hD hW => rzCa_bd (hx c hD hW) (by omega))⟩, d_⟩
theorem rxgRYW_31_3 {X : (Nat → Int → Int) → Prop} {S0 : Nat → Int → Int} {ws : List Int} (hP : rxPRYW S0 ws) : bx_obC rxL X S0 rxCRYW.2.2.1 (rxIRYW S0 ws) (rxmRYW S0 ws) 31 rxzRYW_31 rxoRYW_31_3 := by
  intro S S_p r r_p hinv hX hin hsm_ hseg
  obtain ⟨I0, I1, h0_, hr_, b_, f_, d_⟩ := bx_cl (evs := [(0, (0, 480), (0, 18), .inr (0, (13, 0))), (0, (0, 480), (0, 14), .inr (0, (12, 0)))]) (fvs := [(3, (12, 0), (0, 0), (0, 0))]) hseg (by decide +kernel) (by decide +kernel)
  have hinv : rxIRYW_31 S0 ws S (r 8) (r 9) (r 10) (r 11) := hinv
  rw [← hr_ 8 (by decide), ← hr_ 9 (by decide), ← hr_ 10 (by decide), ← hr_ 11 (by decide)] at hinv
  obtain ⟨⟨l8, u8⟩, ⟨l9, u9⟩, ⟨l10, u10⟩, ⟨l11, u11⟩, ⟨l12, u12⟩, ⟨l13, u13⟩, -⟩ := b_
  obtain ⟨f0, -⟩ := f_
  obtain ⟨e0, ⟨e1, w_⟩⟩ := d_
  subst w_
  have g := rxcRYW_31_3 hP hin I0 hinv l8 u8 l9 u9 l10 u10 l11 u11 l12 u12 l13 u13 f0 e1 e0
  refine ⟨bx_narP_ok (l := []) g.1, bx_nfP_ok h0_ (fvs := []) (by decide +kernel) g.2.1, ?_, ?_⟩
  · show rxIRYW_36 S0 ws S_p (bx_val [(0, 0), (0, 0), (0, 0), (0, 0), (0, 0), (0, 0), (0, 0), (0, 0), (8, 0), (9, 0), (8, 6), (13, 0)] r_p 8) (bx_val [(0, 0), (0, 0), (0, 0), (0, 0), (0, 0), (0, 0), (0, 0), (0, 0), (8, 0), (9, 0), (8, 6), (13, 0)] r_p 9) (bx_val [(0, 0), (0, 0), (0, 0), (0, 0), (0, 0), (0, 0), (0, 0), (0, 0), (8, 0), (9, 0), (8, 6), (13, 0)] r_p 10) (bx_val [(0, 0), (0, 0), (0, 0), (0, 0), (0, 0), (0, 0), (0, 0), (0, 0), (8, 0), (9, 0), (8, 6), (13, 0)] r_p 11)
    rw [bx_val_x (n := 8) (e := (8, 0)) h0_ rfl, bx_val_x (n := 9) (e := (9, 0)) h0_ rfl, bx_val_x (n := 10) (e := (8, 6)) h0_ rfl, bx_val_x (n := 11) (e := (13, 0)) h0_ rfl]
    exact g.2.2.1
  · show rxmRYW_36 S0 ws S_p (bx_val [(0, 0), (0, 0), (0, 0), (0, 0), (0, 0), (0, 0), (0, 0), (0, 0), (8, 0), (9, 0), (8, 6), (13, 0)] r_p 8) (bx_val [(0, 0), (0, 0), (0, 0), (0, 0), (0, 0), (0, 0), (0, 0), (0, 0), (8, 0), (9, 0), (8, 6), (13, 0)] r_p 9) (bx_val [(0, 0), (0, 0), (0, 0), (0, 0), (0, 0), (0, 0), (0, 0), (0, 0), (8, 0), (9, 0), (8, 6), (13, 0)] r_p 10) (bx_val [(0, 0), (0, 0), (0, 0), (0, 0), (0, 0), (0, 0), (0, 0), (0, 0), (8, 0), (9, 0), (8, 6), (13, 0)] r_p 11) < rxmRYW_31 S0 ws S_p (r 8) (r 9) (r 10) (r 11)
    rw [bx_val_x (n := 8) (e := (8, 0)) h0_ rfl, bx_val_x (n := 9) (e := (9, 0)) h0_ rfl, bx_val_x (n := 10) (e := (8, 6)) h0_ rfl, bx_val_x (n := 11) (e := (13, 0)) h0_ rfl, ← hr_ 8 (by decide), ← hr_ 9 (by decide), ← hr_ 10 (by decide), ← hr_ 11 (by decide)]
    exact g.2.2.2
theorem rxcRYW_33_0 {S0 : Nat → Int → Int} {ws : List Int} {S : Nat → Int → Int} {base dd : Int} (hP : rxPRYW S0 ws) (hin : bx_same rxL (bx_mdl rxCRYW.2.2.1) S0 S) (I0 : bx_Inv rxL S) (hinv : rxIRYW_33 S0 ws S base dd) (l8 : 0 ≤ base) (u8 : base ≤ 110) (l9 : 0 ≤ dd) (u9 : dd ≤ 1) : (True) ∧ (True) ∧ rxIRYW_34 S0 ws S base dd ∧ rxmRYW_34 S0 ws S base dd < rxmRYW_33 S0 ws S base dd := by
  obtain ⟨hI, hx⟩ := hinv
  obtain ⟨a_, b_, c_, d_⟩ := rxcRY_33_0 hP hin I0 hI l8 u8 l9 u9
  exact ⟨a_, b_, ⟨c_, (fun c hD hW => hx c hD hW)⟩, d_⟩
theorem rxgRYW_33_0 {X : (Nat → Int → Int) → Prop} {S0 : Nat → Int → Int} {ws : List Int} (hP : rxPRYW S0 ws) : bx_obC rxL X S0 rxCRYW.2.2.1 (rxIRYW S0 ws) (rxmRYW S0 ws) 33 rxzRYW_33 rxoRYW_33_0 := by
  intro S S_p r r_p hinv hX hin hsm_ hseg
  obtain ⟨I0, I1, h0_, hr_, b_, f_, d_⟩ := bx_cl (evs := []) (fvs := []) hseg (by decide +kernel) (by decide +kernel)
  have hinv : rxIRYW_33 S0 ws S (r 8) (r 9) := hinv
  rw [← hr_ 8 (by decide), ← hr_ 9 (by decide)] at hinv
  obtain ⟨⟨l8, u8⟩, ⟨l9, u9⟩, -⟩ := b_
  have w_ := d_
  subst w_
  have g := rxcRYW_33_0 hP hin I0 hinv l8 u8 l9 u9
  refine ⟨bx_narP_ok (l := []) g.1, bx_nfP_ok h0_ (fvs := []) (by decide +kernel) g.2.1, ?_, ?_⟩
  · show rxIRYW_34 S0 ws S_p (bx_val [(0, 0), (0, 0), (0, 0), (0, 0), (0, 0), (0, 0), (0, 0), (0, 0), (8, 0), (9, 0)] r_p 8) (bx_val [(0, 0), (0, 0), (0, 0), (0, 0), (0, 0), (0, 0), (0, 0), (0, 0), (8, 0), (9, 0)] r_p 9)
    rw [bx_val_x (n := 8) (e := (8, 0)) h0_ rfl, bx_val_x (n := 9) (e := (9, 0)) h0_ rfl]
    exact g.2.2.1
  · show rxmRYW_34 S0 ws S_p (bx_val [(0, 0), (0, 0), (0, 0), (0, 0), (0, 0), (0, 0), (0, 0), (0, 0), (8, 0), (9, 0)] r_p 8) (bx_val [(0, 0), (0, 0), (0, 0), (0, 0), (0, 0), (0, 0), (0, 0), (0, 0), (8, 0), (9, 0)] r_p 9) < rxmRYW_33 S0 ws S_p (r 8) (r 9)
    rw [bx_val_x (n := 8) (e := (8, 0)) h0_ rfl, bx_val_x (n := 9) (e := (9, 0)) h0_ rfl, ← hr_ 8 (by decide), ← hr_ 9 (by decide)]
    exact g.2.2.2
theorem rxcRYW_35_0 {S0 : Nat → Int → Int} {ws : List Int} {S : Nat → Int → Int} {base dd x10 : Int} (hP : rxPRYW S0 ws) (hin : bx_same rxL (bx_mdl rxCRYW.2.2.1) S0 S) (I0 : bx_Inv rxL S) (hinv : rxIRYW_35 S0 ws S base dd) (l8 : 0 ≤ base) (u8 : base ≤ 110) (l9 : 0 ≤ dd) (u9 : dd ≤ 1) (l10 : 0 ≤ x10) (u10 : x10 ≤ 400) (e0 : S 480 18 = x10) : (True) ∧ (True) ∧ rxIRYW_36 S0 ws S base dd (base + 6) x10 ∧ rxmRYW_36 S0 ws S base dd (base + 6) x10 < rxmRYW_35 S0 ws S base dd := by
  obtain ⟨hI, hx⟩ := hinv
  obtain ⟨a_, b_, c_, d_⟩ := rxcRY_35_0 hP hin I0 hI l8 u8 l9 u9 l10 u10 e0
  exact ⟨a_, b_, ⟨c_, (fun c hD hW => hx c hD hW)⟩, d_⟩
theorem rxgRYW_35_0 {X : (Nat → Int → Int) → Prop} {S0 : Nat → Int → Int} {ws : List Int} (hP : rxPRYW S0 ws) : bx_obC rxL X S0 rxCRYW.2.2.1 (rxIRYW S0 ws) (rxmRYW S0 ws) 35 rxzRYW_35 rxoRYW_35_0 := by
  intro S S_p r r_p hinv hX hin hsm_ hseg
  obtain ⟨I0, I1, h0_, hr_, b_, f_, d_⟩ := bx_cl (evs := [(0, (0, 480), (0, 18), .inr (0, (10, 0)))]) (fvs := []) hseg (by decide +kernel) (by decide +kernel)
  have hinv : rxIRYW_35 S0 ws S (r 8) (r 9) := hinv
  rw [← hr_ 8 (by decide), ← hr_ 9 (by decide)] at hinv
  obtain ⟨⟨l8, u8⟩, ⟨l9, u9⟩, ⟨l10, u10⟩, -⟩ := b_
  obtain ⟨e0, w_⟩ := d_
  subst w_
  have g := rxcRYW_35_0 hP hin I0 hinv l8 u8 l9 u9 l10 u10 e0
  refine ⟨bx_narP_ok (l := []) g.1, bx_nfP_ok h0_ (fvs := []) (by decide +kernel) g.2.1, ?_, ?_⟩
  · show rxIRYW_36 S0 ws S_p (bx_val [(0, 0), (0, 0), (0, 0), (0, 0), (0, 0), (0, 0), (0, 0), (0, 0), (8, 0), (9, 0), (8, 6), (10, 0)] r_p 8) (bx_val [(0, 0), (0, 0), (0, 0), (0, 0), (0, 0), (0, 0), (0, 0), (0, 0), (8, 0), (9, 0), (8, 6), (10, 0)] r_p 9) (bx_val [(0, 0), (0, 0), (0, 0), (0, 0), (0, 0), (0, 0), (0, 0), (0, 0), (8, 0), (9, 0), (8, 6), (10, 0)] r_p 10) (bx_val [(0, 0), (0, 0), (0, 0), (0, 0), (0, 0), (0, 0), (0, 0), (0, 0), (8, 0), (9, 0), (8, 6), (10, 0)] r_p 11)
    rw [bx_val_x (n := 8) (e := (8, 0)) h0_ rfl, bx_val_x (n := 9) (e := (9, 0)) h0_ rfl, bx_val_x (n := 10) (e := (8, 6)) h0_ rfl, bx_val_x (n := 11) (e := (10, 0)) h0_ rfl]
    exact g.2.2.1
  · show rxmRYW_36 S0 ws S_p (bx_val [(0, 0), (0, 0), (0, 0), (0, 0), (0, 0), (0, 0), (0, 0), (0, 0), (8, 0), (9, 0), (8, 6), (10, 0)] r_p 8) (bx_val [(0, 0), (0, 0), (0, 0), (0, 0), (0, 0), (0, 0), (0, 0), (0, 0), (8, 0), (9, 0), (8, 6), (10, 0)] r_p 9) (bx_val [(0, 0), (0, 0), (0, 0), (0, 0), (0, 0), (0, 0), (0, 0), (0, 0), (8, 0), (9, 0), (8, 6), (10, 0)] r_p 10) (bx_val [(0, 0), (0, 0), (0, 0), (0, 0), (0, 0), (0, 0), (0, 0), (0, 0), (8, 0), (9, 0), (8, 6), (10, 0)] r_p 11) < rxmRYW_35 S0 ws S_p (r 8) (r 9)
    rw [bx_val_x (n := 8) (e := (8, 0)) h0_ rfl, bx_val_x (n := 9) (e := (9, 0)) h0_ rfl, bx_val_x (n := 10) (e := (8, 6)) h0_ rfl, bx_val_x (n := 11) (e := (10, 0)) h0_ rfl, ← hr_ 8 (by decide), ← hr_ 9 (by decide)]
    exact g.2.2.2
theorem rxdRYW_37_0 {S0 : Nat → Int → Int} {ws : List Int} {S : Nat → Int → Int} {base dd a v : Int} (hP : rxPRYW S0 ws) (hin : bx_same rxL (bx_mdl rxCRYW.2.2.1) S0 S) (hin2 : bx_same rxL (bx_mdl rxCRYW.2.2.1) S S) (I0 : bx_Inv rxL S) (I1 : bx_Inv rxL S) (hinv : rxIRYW_37 S0 ws S base dd a v) (l8 : 0 ≤ base) (u8 : base ≤ 110) (l9 : 0 ≤ dd) (u9 : dd ≤ 1) (l10 : 6 ≤ a) (u10 : a ≤ 116) (l11 : 0 ≤ v) (u11 : v ≤ 400) : (True) ∧ rxPSRYW S0 ws S none := by
  obtain ⟨hI, hx⟩ := hinv
  obtain ⟨a_, c_⟩ := rxdRY_37_0 hP hin hin2 I0 I1 hI l8 u8 l9 u9 l10 u10 l11 u11
  exact ⟨a_, rfl, c_, hx⟩
theorem rxfRYW_37_0 {X : (Nat → Int → Int) → Prop} {S0 : Nat → Int → Int} {ws : List Int} (hP : rxPRYW S0 ws) : bx_obE rxL X S0 rxCRYW.2.2.1 (rxIRYW S0 ws) (rxPSRYW S0 ws) 37 rxzRYW_37 rxeRYW_37_0 := by
  intro S S_p r r_p hinv hX hin hsm_ hseg
  obtain ⟨I0, I1, h0_, hr_, b_, f_, d_⟩ := bx_cl (evs := []) (fvs := []) hseg (by decide +kernel) (by decide +kernel)
  have hinv : rxIRYW_37 S0 ws S (r 8) (r 9) (r 10) (r 11) := hinv
  rw [← hr_ 8 (by decide), ← hr_ 9 (by decide), ← hr_ 10 (by decide), ← hr_ 11 (by decide)] at hinv
  obtain ⟨⟨l8, u8⟩, ⟨l9, u9⟩, ⟨l10, u10⟩, ⟨l11, u11⟩, -⟩ := b_
  have w_ := d_
  subst w_
  have g := rxdRYW_37_0 hP hin hsm_ I0 I1 hinv l8 u8 l9 u9 l10 u10 l11 u11
  refine ⟨bx_narP_ok (l := []) g.1, ?_⟩
  exact g.2
theorem rxgCRYW {X : (Nat → Int → Int) → Prop} {S0 : Nat → Int → Int} {ws : List Int} (hP : rxPRYW S0 ws) : bx_allI (fun i q => rxURYW q = true ∨ bx_allP (fun o => bx_obC rxL X S0 rxCRYW.2.2.1 (rxIRYW S0 ws) (rxmRYW S0 ws) i q.1 o) q.2.1) 0 rxYRYW := ⟨Or.inr ⟨rxgRYW_0_0 hP, rxgRYW_0_1 hP, rxgRYW_0_2 hP, rxgRYW_0_3 hP, trivial⟩, Or.inl rfl, Or.inr ⟨rxgRYW_2_0 hP, trivial⟩, Or.inr ⟨rxgRYW_3_0 hP, trivial⟩, Or.inr ⟨rxgRYW_4_0 hP, trivial⟩, Or.inl rfl, Or.inl rfl, Or.inr ⟨rxgRYW_7_0 hP, trivial⟩, Or.inl rfl, Or.inl rfl, Or.inr ⟨rxgRYW_10_0 hP, rxgRYW_10_1 hP, trivial⟩, Or.inl rfl, Or.inl rfl, Or.inr ⟨rxgRYW_13_0 hP, rxgRYW_13_1 hP, rxgRYW_13_2 hP, rxgRYW_13_3 hP, trivial⟩, Or.inl rfl, Or.inr ⟨rxgRYW_15_0 hP, rxgRYW_15_1 hP, rxgRYW_15_2 hP, rxgRYW_15_3 hP, trivial⟩, Or.inl rfl, Or.inr ⟨rxgRYW_17_0 hP, rxgRYW_17_1 hP, trivial⟩, Or.inl rfl, Or.inr ⟨rxgRYW_19_0 hP, trivial⟩, Or.inl rfl, Or.inr ⟨rxgRYW_21_0 hP, rxgRYW_21_1 hP, rxgRYW_21_2 hP, trivial⟩, Or.inl rfl, Or.inr ⟨rxgRYW_23_0 hP, trivial⟩, Or.inl rfl, Or.inr ⟨rxgRYW_25_0 hP, rxgRYW_25_1 hP, rxgRYW_25_2 hP, rxgRYW_25_3 hP, rxgRYW_25_4 hP, trivial⟩, Or.inl rfl, Or.inr ⟨rxgRYW_27_0 hP, trivial⟩, Or.inl rfl, Or.inr ⟨rxgRYW_29_0 hP, trivial⟩, Or.inl rfl, Or.inr ⟨rxgRYW_31_0 hP, rxgRYW_31_1 hP, rxgRYW_31_2 hP, rxgRYW_31_3 hP, trivial⟩, Or.inl rfl, Or.inr ⟨rxgRYW_33_0 hP, trivial⟩, Or.inl rfl, Or.inr ⟨rxgRYW_35_0 hP, trivial⟩, Or.inl rfl, Or.inr trivial, trivial⟩
theorem rxgERYW {X : (Nat → Int → Int) → Prop} {S0 : Nat → Int → Int} {ws : List Int} (hP : rxPRYW S0 ws) : bx_allI (fun i q => rxURYW q = true ∨ bx_allP (fun E => bx_obE rxL X S0 rxCRYW.2.2.1 (rxIRYW S0 ws) (rxPSRYW S0 ws) i q.1 E) q.2.2) 0 rxYRYW := ⟨Or.inr trivial, Or.inl rfl, Or.inr ⟨rxfRYW_2_0 hP, trivial⟩, Or.inr trivial, Or.inr trivial, Or.inl rfl, Or.inl rfl, Or.inr trivial, Or.inl rfl, Or.inl rfl, Or.inr trivial, Or.inl rfl, Or.inl rfl, Or.inr trivial, Or.inl rfl, Or.inr trivial, Or.inl rfl, Or.inr trivial, Or.inl rfl, Or.inr trivial, Or.inl rfl, Or.inr trivial, Or.inl rfl, Or.inr trivial, Or.inl rfl, Or.inr trivial, Or.inl rfl, Or.inr trivial, Or.inl rfl, Or.inr trivial, Or.inl rfl, Or.inr trivial, Or.inl rfl, Or.inr trivial, Or.inl rfl, Or.inr trivial, Or.inl rfl, Or.inr ⟨rxfRYW_37_0 hP, trivial⟩, trivial⟩
theorem rxuRYW {PX : State → Prop} {Dg : va_G} {A : Nat → Prop} {ad xa : Nat → Nat} {l : Launch} {X : (Nat → Int → Int) → Prop} (hPX : rx_PXOK rxNW A PX) (hX : ∀ S S1 : Nat → Int → Int, X S → bx_same rxL (bx_mdl rxCRYW.2.2.1) S S1 → X S1) (hQMUW : bx_ConP rxG rxNW rxAO PX Dg rxL X vwCl A ad l rxM265 rxCMUW rxPMUW rxPSMUW) (hQRPLW : bx_ConP rxG rxNW rxAO PX Dg rxL X vwCl A ad l rxM294 rxCRPLW rxPRPLW rxPSRPLW) (hQIWW : bx_ConP rxG rxNW rxAO PX Dg rxL X vwCl A ad l rxM267 rxCIWW rxPIWW rxPSIWW) (hQREW : bx_ConP rxG rxNW rxAO PX Dg rxL X vwCl A ad l rxM282 rxCREW rxPREW rxPSREW) (hQNXX : bx_ConP rxG rxNW rxAO PX Dg rxL X vwCl A ad l rxM264 rxCNXX rxPNXX rxPSNXX) {S0 : Nat → Int → Int} {ws : List Int} (hP : rxPRYW S0 ws) : ∀ (i : Nat) (q : bx_HE), rxYRYW[i]? = some q → rxURYW q = true → ∀ {p : Program} {e : Env} {R : Room} {s : State} {m : MethodId} {args : Array Value} {below : List Frame} {meth : Method} {c : Code} {Q : State → Prop} {H0 : Heap}, rx_Fr rxG rxNW rxAO PX p s m args meth c rxM295 → (∀ q, H0.size ≤ q → A q) → H0 = s.heap → rxM295.2.2.2.2.2.2.1 ≤ R.cells → rxM295.2.2.2.2.2.2.2 ≤ R.slots → rxCRYW.2.2.2.1 ≤ R.frames → rxCRYW.2.2.2.1 * 40 ≤ R.locals → bx_Step p l e R s m args below meth c Q Dg rxL X vwCl A xa H0 ad rxM295 rxYRYW (rxIRYW S0 ws) (rxmRYW S0 ws) S0 rxCRYW.2.2.1 i q := by
  intro i q hq hus p e R s m args below meth c Q H0 hF hA hH0 hmc hms hd hdl
  match i, hq with
  | 0, hq =>
    cases hq
    exact absurd (show false = true from hus) Bool.false_ne_true
  | 1, hq =>
    cases hq
    exact rx_stepC (ins := .invokevirtual 284) (len := 3) (i_p := 2) (M_p := rxM265) (d := rxCRYW.2.2.2.1) (as := [.inr (3, (0, 480)), .inr (0, (8, 0))]) (t := []) (ct := rxCMUW) hPX hF rfl hA hH0 hmc hms hd hdl (by decide +kernel) rfl rfl (by decide +kernel) (by decide +kernel) hQMUW (by decide +kernel) rfl (Or.inl ⟨rfl, rfl, rfl⟩) (rxsRYW_1 hP)
  | 2, hq =>
    cases hq
    exact absurd (show false = true from hus) Bool.false_ne_true
  | 3, hq =>
    cases hq
    exact absurd (show false = true from hus) Bool.false_ne_true
  | 4, hq =>
    cases hq
    exact absurd (show false = true from hus) Bool.false_ne_true
  | 5, hq =>
    cases hq
    exact rx_stepC (ins := .invokevirtual 452) (len := 3) (i_p := 6) (M_p := rxM294) (d := rxCRYW.2.2.2.1) (as := [.inr (3, (0, 480))]) (t := [.inr (0, (9, 0)), .inr (3, (0, 496))]) (ct := rxCRPLW) hPX hF rfl hA hH0 hmc hms hd hdl (by decide +kernel) rfl rfl (by decide +kernel) (by decide +kernel) hQRPLW (by decide +kernel) rfl (Or.inr ⟨_, _, _, 1, rfl, rfl, by omega, rfl, rfl, rfl⟩) (rxsRYW_5 hP)
  | 6, hq =>
    cases hq
    exact rx_stepS (i_p := 7) (pl := 496) (a := 9) (b := 10) (n := 120) (g := 77) (lo := 0) (hi := 110) (ty := (0, (-2147483648), 2147483647)) (t := []) hF (by decide +kernel) rfl rfl rfl rfl (by omega) (by omega) (by decide +kernel) rfl rfl (rxsRYW_6 hP hX)
  | 7, hq =>
    cases hq
    exact absurd (show false = true from hus) Bool.false_ne_true
  | 8, hq =>
    cases hq
    exact rx_stepC (ins := .invokevirtual 307) (len := 3) (i_p := 9) (M_p := rxM267) (d := rxCRYW.2.2.2.1) (as := [.inr (3, (0, 480)), .inr (1, (0, 52))]) (t := [.inr (3, (0, 480))]) (ct := rxCIWW) hPX hF rfl hA hH0 hmc hms hd hdl (by decide +kernel) rfl rfl (by decide +kernel) (by decide +kernel) hQIWW (by decide +kernel) rfl (Or.inr ⟨_, _, _, 1, rfl, rfl, by omega, rfl, rfl, rfl⟩) (rxsRYW_8 hP)
  | 9, hq =>
    cases hq
    exact rx_stepC (ins := .invokevirtual 284) (len := 3) (i_p := 10) (M_p := rxM265) (d := rxCRYW.2.2.2.1) (as := [.inr (3, (0, 480)), .inr (0, (9, 0))]) (t := []) (ct := rxCMUW) hPX hF rfl hA hH0 hmc hms hd hdl (by decide +kernel) rfl rfl (by decide +kernel) (by decide +kernel) hQMUW (by decide +kernel) rfl (Or.inl ⟨rfl, rfl, rfl⟩) (rxsRYW_9 hP)
  | 10, hq =>
    cases hq
    exact absurd (show false = true from hus) Bool.false_ne_true
  | 11, hq =>
    cases hq
    exact rx_stepC (ins := .invokevirtual 452) (len := 3) (i_p := 12) (M_p := rxM294) (d := rxCRYW.2.2.2.1) (as := [.inr (3, (0, 480))]) (t := [.inr (0, (9, 0)), .inr (3, (0, 496))]) (ct := rxCRPLW) hPX hF rfl hA hH0 hmc hms hd hdl (by decide +kernel) rfl rfl (by decide +kernel) (by decide +kernel) hQRPLW (by decide +kernel) rfl (Or.inr ⟨_, _, _, 1, rfl, rfl, by omega, rfl, rfl, rfl⟩) (rxsRYW_11 hP)
  | 12, hq =>
    cases hq
    exact rx_stepS (i_p := 13) (pl := 496) (a := 9) (b := 10) (n := 120) (g := 77) (lo := 1) (hi := 111) (ty := (0, (-2147483648), 2147483647)) (t := []) hF (by decide +kernel) rfl rfl rfl rfl (by omega) (by omega) (by decide +kernel) rfl rfl (rxsRYW_12 hP hX)
  | 13, hq =>
    cases hq
    exact absurd (show false = true from hus) Bool.false_ne_true
  | 14, hq =>
    cases hq
    exact rx_stepS (i_p := 15) (pl := 496) (a := 9) (b := 10) (n := 120) (g := 77) (lo := 1) (hi := 111) (ty := (0, 0, 0)) (t := []) hF (by decide +kernel) rfl rfl rfl rfl (by omega) (by omega) (by decide +kernel) rfl rfl (rxsRYW_14 hP hX)
  | 15, hq =>
    cases hq
    exact absurd (show false = true from hus) Bool.false_ne_true
  | 16, hq =>
    cases hq
    exact rx_stepC (ins := .invokevirtual 284) (len := 3) (i_p := 17) (M_p := rxM265) (d := rxCRYW.2.2.2.1) (as := [.inr (3, (0, 480)), .inr (0, (10, 0))]) (t := []) (ct := rxCMUW) hPX hF rfl hA hH0 hmc hms hd hdl (by decide +kernel) rfl rfl (by decide +kernel) (by decide +kernel) hQMUW (by decide +kernel) rfl (Or.inl ⟨rfl, rfl, rfl⟩) (rxsRYW_16 hP)
  | 17, hq =>
    cases hq
    exact absurd (show false = true from hus) Bool.false_ne_true
  | 18, hq =>
    cases hq
    exact rx_stepS (i_p := 19) (pl := 496) (a := 10) (b := 11) (n := 120) (g := 77) (lo := 2) (hi := 112) (ty := (0, 0, 1)) (t := []) hF (by decide +kernel) rfl rfl rfl rfl (by omega) (by omega) (by decide +kernel) rfl rfl (rxsRYW_18 hP hX)
  | 19, hq =>
    cases hq
    exact absurd (show false = true from hus) Bool.false_ne_true
  | 20, hq =>
    cases hq
    exact rx_stepS (i_p := 21) (pl := 496) (a := 10) (b := 11) (n := 120) (g := 77) (lo := 3) (hi := 113) (ty := (0, 0, 400)) (t := []) hF (by decide +kernel) rfl rfl rfl rfl (by omega) (by omega) (by decide +kernel) rfl rfl (rxsRYW_20 hP hX)
  | 21, hq =>
    cases hq
    exact absurd (show false = true from hus) Bool.false_ne_true
  | 22, hq =>
    cases hq
    exact rx_stepC (ins := .invokevirtual 383) (len := 3) (i_p := 23) (M_p := rxM282) (d := rxCRYW.2.2.2.1) (as := [.inr (3, (0, 480)), .inr (0, (0, 0))]) (t := []) (ct := rxCREW) hPX hF rfl hA hH0 hmc hms hd hdl (by decide +kernel) rfl rfl (by decide +kernel) (by decide +kernel) hQREW (by decide +kernel) rfl (Or.inl ⟨rfl, rfl, rfl⟩) (rxsRYW_22 hP)
  | 23, hq =>
    cases hq
    exact absurd (show false = true from hus) Bool.false_ne_true
  | 24, hq =>
    cases hq
    exact rx_stepS (i_p := 25) (pl := 496) (a := 10) (b := 11) (n := 120) (g := 77) (lo := 4) (hi := 114) (ty := (0, 0, 400)) (t := []) hF (by decide +kernel) rfl rfl rfl rfl (by omega) (by omega) (by decide +kernel) rfl rfl (rxsRYW_24 hP hX)
  | 25, hq =>
    cases hq
    exact absurd (show false = true from hus) Bool.false_ne_true
  | 26, hq =>
    cases hq
    exact rx_stepC (ins := .invokevirtual 253) (len := 3) (i_p := 27) (M_p := rxM264) (d := rxCRYW.2.2.2.1) (as := [.inr (3, (0, 480))]) (t := []) (ct := rxCNXX) hPX hF rfl hA hH0 hmc hms hd hdl (by decide +kernel) rfl rfl (by decide +kernel) (by decide +kernel) hQNXX (by decide +kernel) rfl (Or.inl ⟨rfl, rfl, rfl⟩) (rxsRYW_26 hP)
  | 27, hq =>
    cases hq
    exact absurd (show false = true from hus) Bool.false_ne_true
  | 28, hq =>
    cases hq
    exact rx_stepC (ins := .invokevirtual 383) (len := 3) (i_p := 29) (M_p := rxM282) (d := rxCRYW.2.2.2.1) (as := [.inr (3, (0, 480)), .inr (0, (0, 0))]) (t := []) (ct := rxCREW) hPX hF rfl hA hH0 hmc hms hd hdl (by decide +kernel) rfl rfl (by decide +kernel) (by decide +kernel) hQREW (by decide +kernel) rfl (Or.inl ⟨rfl, rfl, rfl⟩) (rxsRYW_28 hP)
  | 29, hq =>
    cases hq
    exact absurd (show false = true from hus) Bool.false_ne_true
  | 30, hq =>
    cases hq
    exact rx_stepS (i_p := 31) (pl := 496) (a := 10) (b := 11) (n := 120) (g := 77) (lo := 5) (hi := 115) (ty := (0, 0, 400)) (t := []) hF (by decide +kernel) rfl rfl rfl rfl (by omega) (by omega) (by decide +kernel) rfl rfl (rxsRYW_30 hP hX)
  | 31, hq =>
    cases hq
    exact absurd (show false = true from hus) Bool.false_ne_true
  | 32, hq =>
    cases hq
    exact rx_stepC (ins := .invokevirtual 253) (len := 3) (i_p := 33) (M_p := rxM264) (d := rxCRYW.2.2.2.1) (as := [.inr (3, (0, 480))]) (t := []) (ct := rxCNXX) hPX hF rfl hA hH0 hmc hms hd hdl (by decide +kernel) rfl rfl (by decide +kernel) (by decide +kernel) hQNXX (by decide +kernel) rfl (Or.inl ⟨rfl, rfl, rfl⟩) (rxsRYW_32 hP)
  | 33, hq =>
    cases hq
    exact absurd (show false = true from hus) Bool.false_ne_true
  | 34, hq =>
    cases hq
    exact rx_stepC (ins := .invokevirtual 383) (len := 3) (i_p := 35) (M_p := rxM282) (d := rxCRYW.2.2.2.1) (as := [.inr (3, (0, 480)), .inr (0, (0, 1))]) (t := []) (ct := rxCREW) hPX hF rfl hA hH0 hmc hms hd hdl (by decide +kernel) rfl rfl (by decide +kernel) (by decide +kernel) hQREW (by decide +kernel) rfl (Or.inl ⟨rfl, rfl, rfl⟩) (rxsRYW_34 hP)
  | 35, hq =>
    cases hq
    exact absurd (show false = true from hus) Bool.false_ne_true
  | 36, hq =>
    cases hq
    exact rx_stepS (i_p := 37) (pl := 496) (a := 10) (b := 11) (n := 120) (g := 77) (lo := 6) (hi := 116) (ty := (0, 0, 400)) (t := []) hF (by decide +kernel) rfl rfl rfl rfl (by omega) (by omega) (by decide +kernel) rfl rfl (rxsRYW_36 hP hX)
  | 37, hq =>
    cases hq
    exact absurd (show false = true from hus) Bool.false_ne_true
  | n + 38, hq => cases hq
theorem rxQRYW {PX : State → Prop} {Dg : va_G} {A : Nat → Prop} {ad xa : Nat → Nat} {l : Launch} {X : (Nat → Int → Int) → Prop} (hPX : rx_PXOK rxNW A PX) (hsl : ∀ s : State, PX s → ∀ o idx n : Nat, rxSl o idx = some n → ∃ tx : String, vk_R (rxNm o) idx tx (ad n) s)
    (hX : ∀ S S_p : Nat → Int → Int, X S → bx_same rxL (bx_mdl rxCRYW.2.2.1) S S_p → X S_p)
    (ih : ∀ (j2 : Nat) (ct2 : bx_Ct) (M2 : rx_Mt), ct2 ∈ rxCnE j2 → ct2.2.2.2.1 + 1 ≤ rxCRYW.2.2.2.1 → rxT.2.2.2.2.2 j2 = some M2 → bx_Con rxG rxNW rxAO PX Dg rxL X vwCl A ad l M2 ct2) (hQMUW : bx_ConP rxG rxNW rxAO PX Dg rxL X vwCl A ad l rxM265 rxCMUW rxPMUW rxPSMUW) (hQRPLW : bx_ConP rxG rxNW rxAO PX Dg rxL X vwCl A ad l rxM294 rxCRPLW rxPRPLW rxPSRPLW) (hQIWW : bx_ConP rxG rxNW rxAO PX Dg rxL X vwCl A ad l rxM267 rxCIWW rxPIWW rxPSIWW) (hQREW : bx_ConP rxG rxNW rxAO PX Dg rxL X vwCl A ad l rxM282 rxCREW rxPREW rxPSREW) (hQNXX : bx_ConP rxG rxNW rxAO PX Dg rxL X vwCl A ad l rxM264 rxCNXX rxPNXX rxPSNXX) : bx_ConP rxG rxNW rxAO PX Dg rxL X vwCl A ad l rxM295 rxCRYW rxPRYW rxPSRYW :=
  rxQof (xa := xa) (Cn := rxCnE) (f := 30000) (j := 295) (tab := rxYRYW) (us := rxURYW) hPX hsl hX ih rfl rxYcRYW rxIRYW rxmRYW
    (fun S0 ws r I0 I ht0 ht as he he1 hX0 hI0 hP hs ha => by
      have e := he.symm.trans (show bx_ent0 rxNP rxCRYW.1 bx_I0 [] = some ([(0, 0), (0, 0), (0, 0), (0, 0), (0, 0), (0, 0), (0, 0), (0, 0)], [], [.inr (3, (0, 480))]) from rfl)
      cases e
      subst ha
      have h0 : r 0 = 0 := hs.1
      show rxIRYW_0 S0 _ S0
      refine ⟨⟨rfl, ?_⟩, trivial⟩
      simp only [List.map_cons, List.map_nil, bx_xv_ok h0]
      rfl)
    (fun S0 ws hP => rxuRYW (xa := xa) hPX hX hQMUW hQRPLW hQIWW hQREW hQNXX hP) (fun S0 ws hP => rxgCRYW hP) (fun S0 ws hP => rxgERYW hP)

noncomputable def rzBg (S0 S : Nat → Int → Int) : Prop := rzCut (S 485) = rzCut (S0 485) ∧ S 480 8 = S0 480 8 ∧ (rzCk S0 → rzCk S)
noncomputable def rzSt (S0 S1 : Nat → Int → Int) (z : Int) : Prop := rzBg S0 S1 ∧ S1 480 13 = -1 ∧ S1 480 15 = z ∧ rzDq S1
noncomputable def rzRj (S0 S : Nat → Int → Int) (z : Int) (C : Int → Int → rzR → Prop) : Prop := ∃ S1 : Nat → Int → Int, rzSt S0 S1 z ∧ rzCk S1 ∧ rzCa S1 S (rzText (decide (z = 1)) (rzCut (S0 485)) (S0 480 8)) C
noncomputable def rzTz (S0 S : Nat → Int → Int) (z : Int) : Prop := ∃ r : rzR, rzText (decide (z = 1)) (rzCut (S0 485)) (S0 480 8) r ∧ ((S 480 14 = 0 ∧ r.1 = true ∧ S 480 13 = -1) ∨ (S 480 14 ≠ 0 ∧ r.1 = false ∧ S 480 13 = r.2.1))
theorem rzCa_co {S0 S S_p : Nat → Int → Int} {G P : rzR → Prop} {b C : Int → Int → rzR → Prop} (h : rzCa S0 S G C) (z0 : S 480 14 = 0) (x : rzCo S S_p P) (k : ∀ r : rzR, rzThen P b r → C (S 480 9) (S 480 21) r) : rzCa S0 S_p G b := by
  obtain ⟨a, d, c⟩ := h.1 z0
  refine ⟨fun z => ?_, fun z => ?_⟩
  · obtain ⟨k2, d2, r, r1, r2, r3, r4⟩ := x.1 z
    refine ⟨a.tr k2, d2, fun q hq => c q (k q ⟨r, r1, Or.inr ⟨r2, ?_⟩⟩)⟩
    rw [r3, r4] at hq
    exact hq
  · obtain ⟨r, r1, r2, r3⟩ := x.2 z
    exact ⟨r, c r (k r ⟨r, r1, Or.inl ⟨r2, rfl⟩⟩), r2, r3⟩
theorem rzTx_lr {T : Int → Int} {n nc f lf : Int} {r : rzR} {play : Bool} {P : rzR → Prop} (h0 : nc < 12 → ∀ r : rzR, P r → rzCl play T n f lf r) (h1 : ¬ nc < 12 → ∀ r : rzR, P r → r = (false, f, lf)) (h : rzThen P (rzNx play T n (11 - nc).toNat) r) : rzTx (rzCl play T n) T n (12 - nc).toNat f lf r := by
  by_cases c : nc < 12
  · rw [show (12 - nc).toNat = (11 - nc).toNat + 1 by omega]
    exact rzThen_map (h0 c) h
  · rw [show (12 - nc).toNat = 0 by omega]
    exact rzThen_f (rzThen_map (a_p := fun r => r = (false, f, lf)) (h1 c) h)
theorem rzRj_0 {S0 S : Nat → Int → Int} {z : Int} (c : rzCk S0) (b : rzBg S0 S) (h13 : S 480 13 = -1) (h15 : S 480 15 = z) (d : rzDq S) (e : S 480 9 = rzF (rzCut (S0 485)) (S0 480 8) 0) (e21 : S 480 21 = 0) (e14 : S 480 14 = 0) : rzRj S0 S z (rzTx (rzCl (decide (z = 1)) (rzCut (S0 485)) (S0 480 8)) (rzCut (S0 485)) (S0 480 8) 12) :=
  ⟨S, ⟨b, h13, h15, d⟩, b.2.2 c, fun _ => ⟨rzKr_rf, d, fun r hr => by
    rw [e, e21] at hr
    exact hr⟩, fun z0 => absurd e14 z0⟩
theorem rzCl_z0 {T : Int → Int} {n : Int} : rzCl (decide ((0 : Int) = 1)) T n = rzLC T n := by
  rw [decide_eq_false (by decide)]
  exact if_neg (by decide)
theorem rzCl_z1 {T : Int → Int} {n : Int} : rzCl (decide ((1 : Int) = 1)) T n = rzPC T n := by
  rw [decide_eq_true rfl]
  exact if_pos rfl
theorem rzRj_nx {S0 S S_p : Nat → Int → Int} {z : Int} {C C_p : Int → Int → rzR → Prop} (h : rzRj S0 S z C) (z0 : S 480 14 = 0) (e14 : S_p 480 14 = S 480 14) (e21 : S_p 480 21 = S 480 21) (k : rzKr S S_p) (d : rzDq S_p) (e : S_p 480 9 = rzF (rzCut (S 485)) (S 480 8) (S 480 10)) (k1 : ∀ (f lf : Int) (r : rzR), f = S 480 9 → lf = S 480 21 → C_p (rzN (rzCut (S0 485)) (S0 480 8) f) lf r → C f lf r) : rzRj S0 S_p z C_p := by
  obtain ⟨S1, s1, c1, h⟩ := h
  refine ⟨S1, s1, c1, rzCa_nx h z0 e14 e21 k d e fun r q => k1 _ _ r rfl rfl ?_⟩
  rw [s1.1.1, s1.1.2.1] at q
  exact q
theorem rzRj_q {S0 S : Nat → Int → Int} {z : Int} {C : Int → Int → rzR → Prop} (h : rzRj S0 S z C) (z0 : S 480 14 = 0) : rzCk S ∧ rzDq S ∧ S 480 15 = z ∧ rzCut (S 485) = rzCut (S0 485) ∧ S 480 8 = S0 480 8 ∧ S 480 13 = -1 := by
  obtain ⟨S1, s1, c1, h⟩ := h
  obtain ⟨a, b, -⟩ := h.1 z0
  exact ⟨a.2.2.2.2 c1, b, a.2.2.1.trans s1.2.2.1, a.1.trans s1.1.1, a.2.1.trans s1.1.2.1, a.2.2.2.1.trans s1.2.1⟩
theorem rzRj_co {S0 S S_p : Nat → Int → Int} {z : Int} {P : rzR → Prop} (h : rzRj S0 S z (rzTx (rzCl (decide (z = 1)) (rzCut (S0 485)) (S0 480 8)) (rzCut (S0 485)) (S0 480 8) (12 - S 480 16).toNat)) (z0 : S 480 14 = 0) (x : rzCo S S_p P) (e16 : S_p 480 14 = 0 → S_p 480 16 = S 480 16 + 1)
    (h0 : S 480 16 < 12 → ∀ r : rzR, P r → rzCl (decide (z = 1)) (rzCut (S0 485)) (S0 480 8) (S 480 9) (S 480 21) r) (h1 : ¬ S 480 16 < 12 → ∀ r : rzR, P r → r = (false, S 480 9, S 480 21)) : rzRj S0 S_p z (rzNx (decide (z = 1)) (rzCut (S0 485)) (S0 480 8) (12 - S_p 480 16).toNat) := by
  obtain ⟨S1, s1, c1, h⟩ := h
  have g := rzCa_co h z0 x (b := rzNx (decide (z = 1)) (rzCut (S0 485)) (S0 480 8) (11 - S 480 16).toNat) fun r q => rzTx_lr h0 h1 q
  refine ⟨S1, s1, c1, ?_⟩
  by_cases w : S_p 480 14 = 0
  · rw [show (12 - S_p 480 16).toNat = (11 - S 480 16).toNat by have := e16 w; omega]
    exact g
  · exact rzCa_b g w
theorem rzRj_et {S0 S S_p : Nat → Int → Int} {z : Int} {c : Nat} (h : rzRj S0 S z (rzNx (decide (z = 1)) (rzCut (S0 485)) (S0 480 8) c)) (hs : S 480 14 = 0 → rzSg (rzCut (S 485)) (S 480 8) 59 (S 480 9) = false)
    (x : (S 480 14 = 0 → rzDq S → (S_p 480 14 = 0 → S 480 8 ≤ S 480 9 ∧ S_p 480 13 = S 480 13) ∧ (S_p 480 14 ≠ 0 → ¬ S 480 8 ≤ S 480 9 ∧ S_p 480 13 = S 480 9)) ∧ (S 480 14 ≠ 0 → S_p 480 14 ≠ 0 ∧ S_p 480 13 = S 480 13)) : rzTz S0 S_p z := by
  by_cases w : S 480 14 = 0
  · obtain ⟨q1, q2, q3, q4, q5, q6⟩ := rzRj_q h w
    obtain ⟨S1, s1, c1, h⟩ := h
    obtain ⟨a, b, k⟩ := h.1 w
    have hs := hs w
    rw [q4, q5] at hs
    have x := x.1 w b
    by_cases v : S_p 480 14 = 0
    · obtain ⟨x1, x2⟩ := x.1 v
      exact ⟨_, k _ (Or.inr ⟨hs, Or.inl ⟨decide_eq_true (by omega), rfl⟩⟩), Or.inl ⟨v, rfl, x2.trans q6⟩⟩
    · obtain ⟨x1, x2⟩ := x.2 v
      exact ⟨_, k _ (Or.inr ⟨hs, Or.inr ⟨decide_eq_false (by omega), rfl⟩⟩), Or.inr ⟨v, rfl, x2⟩⟩
  · obtain ⟨S1, s1, c1, h⟩ := h
    obtain ⟨r, r1, r2, r3⟩ := h.2 w
    exact ⟨r, r1, Or.inr ⟨(x.2 w).1, r2, (x.2 w).2.trans r3⟩⟩
noncomputable def rxCBGW : bx_Ct := ([(3, (1, 480, 0))], none, [(12, 9), (12, 10), (12, 11), (12, 12), (12, 13), (12, 14)], 2, [])
noncomputable def rxIBGW_0 (S0 : Nat → Int → Int) (ws : List Int) (S : Nat → Int → Int) : Prop := rxIBG_0 S0 ws S ∧ True
noncomputable def rxmBGW_0 (S0 : Nat → Int → Int) (ws : List Int) (S : Nat → Int → Int) : Nat := rxmBG_0 S0 ws S
noncomputable def rxzBGW_0 : rx_Z := ([(0, 0), (0, 0), (0, 0), (0, 0), (0, 0), (0, 0), (0, 0), (0, 0)], [], [], 0, 0, 0, [(0, .inr (3, (0, 480)))], [])
noncomputable def rxIBGW_1 (S0 : Nat → Int → Int) (ws : List Int) (S : Nat → Int → Int) : Prop := rxIBG_1 S0 ws S ∧ (rzBg S0 S ∧ S 480 13 = -1 ∧ S 480 15 = S0 480 15)
noncomputable def rxmBGW_1 (S0 : Nat → Int → Int) (ws : List Int) (S : Nat → Int → Int) : Nat := rxmBG_1 S0 ws S
noncomputable def rxzBGW_1 : rx_Z := ([(0, 0), (0, 0), (0, 0), (0, 0), (0, 0), (0, 0), (0, 0), (0, 0)], [], [], 0, 0, 16, [(0, .inr (3, (0, 480)))], [.inr (3, (0, 480))])
noncomputable def rxIBGW_2 (S0 : Nat → Int → Int) (ws : List Int) (S : Nat → Int → Int) : Prop := rxIBG_2 S0 ws S ∧ (rzBg S0 S ∧ S 480 13 = -1 ∧ S 480 15 = S0 480 15 ∧ rzDq S ∧ S 480 9 = rzF (rzCut (S0 485)) (S0 480 8) 0)
noncomputable def rxmBGW_2 (S0 : Nat → Int → Int) (ws : List Int) (S : Nat → Int → Int) : Nat := rxmBG_2 S0 ws S
noncomputable def rxzBGW_2 : rx_Z := ([(0, 0), (0, 0), (0, 0), (0, 0), (0, 0), (0, 0), (0, 0), (0, 0)], [], [], 0, 0, 19, [(0, .inr (3, (0, 480)))], [])
noncomputable def rxoBGW_0_0 : bx_HO := (([(0, 0), (0, 0), (0, 0), (0, 0), (0, 0), (0, 0), (0, 0), (0, 0)], [], [(((0, 0), 1851192626986356800033527518605102225670697052925901474036187139000000), .inr (0, (0, (-1)))), (((0, 480), 13), .inr (0, (0, (-1)))), (((0, 0), 1851192626986356800234234225391877833944518517379736727590010883000000), .inr (0, (0, 0))), (((0, 480), 14), .inr (0, (0, 0))), (((0, 0), 1851192626986356799431407398244775400849232659564395713374715907000000), .inr (0, (0, 0))), (((0, 480), 10), .inr (0, (0, 0)))], 0, 0, 16, [(0, .inr (3, (0, 480)))], [.inr (3, (0, 480))]), [], [], [(0, 0), (0, 0), (0, 0), (0, 0), (0, 0), (0, 0), (0, 0), (0, 0)], 1)
noncomputable def rxeBGW_2_0 : rx_End × List (Nat × Int × Int) := (([(0, 0), (0, 0), (0, 0), (0, 0), (0, 0), (0, 0), (0, 0), (0, 0)], [], [], none), [])
noncomputable def rxYBGW : List bx_HE := [(rxzBGW_0, [rxoBGW_0_0], []), (rxzBGW_1, [], []), (rxzBGW_2, [], [rxeBGW_2_0])]
noncomputable def rxUBGW (q : bx_HE) : Bool := Nat.beq (rx_zpc q.1) 16
noncomputable def rxYBBGW : bx_B := (rxV, rxNP, rxDmf, bx_mdH rxCBGW.2.2.1)
set_option maxRecDepth 100000 in
theorem rxYcBGW : bx_chkH rxYBBGW rxM281 rxCBGW rxYBGW (rxUBGW, fun cut z => rx_ex2 (rxCT rxYBBGW rxCnE) cut 30000 rxCBGW.2.2.2.1 281 z) = true := by decide +kernel
noncomputable def rxIBGW (S0 : Nat → Int → Int) (ws : List Int) (i : Nat) : bx_SP := fun S r => match i with | 0 => rxIBGW_0 S0 ws S | 1 => rxIBGW_1 S0 ws S | 2 => rxIBGW_2 S0 ws S | _ => False
noncomputable def rxmBGW (S0 : Nat → Int → Int) (ws : List Int) (i : Nat) (S : Nat → Int → Int) (r : Nat → Int) : Nat := match i with | 0 => rxmBGW_0 S0 ws S | 1 => rxmBGW_1 S0 ws S | 2 => rxmBGW_2 S0 ws S | _ => 0
noncomputable def rxPBGW (S0 : Nat → Int → Int) (ws : List Int) : Prop := rxPBG S0 ws
noncomputable def rxPSBGW (S0 : Nat → Int → Int) (ws : List Int) (S : Nat → Int → Int) (w : Option Int) : Prop := w = none ∧ rxPSBG S0 ws S w ∧ (rzBg S0 S ∧ S 480 13 = -1 ∧ S 480 15 = S0 480 15 ∧ rzDq S ∧ S 480 9 = rzF (rzCut (S0 485)) (S0 480 8) 0)
theorem rxkBGW_1 {S0 : Nat → Int → Int} {ws : List Int} {S : Nat → Int → Int} (hP : rxPBGW S0 ws) (hin : bx_same rxL (bx_mdl rxCBGW.2.2.1) S0 S) (I0 : bx_Inv rxL S) (hinv : rxIBGW_1 S0 ws S)  : rxPNXX S [480] ∧ ∀ (S_p : Nat → Int → Int), rxPSNXX S [480] S_p none → bx_Inv rxL S_p → bx_same rxL (bx_mdl rxCNXX.2.2.1) S S_p → rxIBGW_2 S0 ws S_p ∧ rxmBGW_2 S0 ws S_p < rxmBGW_1 S0 ws S := by
  obtain ⟨hI, hx⟩ := hinv
  have g_ := rxkBG_1 hP hin I0 hI
  exact ⟨g_.1, fun S_p hq I1 hsm => ⟨⟨(g_.2 S_p hq.2.1 I1 hsm).1, (by
    obtain ⟨b, h13, h15⟩ := hx
    have kr := rzKr_of hsm (by decide +kernel)
    have g := hq.2.2
    have e := g.2
    rw [show S 480 10 = 0 from hI.1, b.1, b.2.1] at e
    exact ⟨⟨kr.1.trans b.1, kr.2.1.trans b.2.1, fun c => kr.2.2.2.2 (b.2.2 c)⟩, kr.2.2.2.1.trans h13, kr.2.2.1.trans h15, g.1, e⟩)⟩, (g_.2 S_p hq.2.1 I1 hsm).2⟩⟩
theorem rxsBGW_1 {X : (Nat → Int → Int) → Prop} {S0 : Nat → Int → Int} {ws : List Int} (hP : rxPBGW S0 ws) : rx_obK X S0 rxCBGW.2.2.1 rxCNXX.2.2.1 (rxIBGW S0 ws) (rxmBGW S0 ws) 1 2 rxzBGW_1 rxzBGW_2 [.inr (3, (0, 480))] none rxPNXX rxPSNXX := by
  intro S r hinv hXS I0 hin hs_ hf_
  have b_ := bx_bds_sat hs_
  have f_ := bx_fcl_ok hs_.1 hf_
  have g := rxkBGW_1 hP hin I0 hinv 
  have ea : List.map (bx_num r) [.inr (3, (0, 480))] = [480] := by
    simp only [List.map_cons, List.map_nil, bx_xv_ok hs_.1]
    rfl
  rw [ea]
  refine ⟨g.1, fun S_p w r_p hPS hX_p I1 hsm hr hw hs_p => ?_⟩
  have hw : w = none := hPS.1
  subst hw
  have g2 := g.2 S_p hPS I1 hsm
  show rxIBGW_2 S0 ws S_p ∧ rxmBGW_2 S0 ws S_p < _
  exact g2
theorem rxcBGW_0_0 {S0 : Nat → Int → Int} {ws : List Int} {S : Nat → Int → Int} (hP : rxPBGW S0 ws) (hin : bx_same rxL (bx_mdl rxCBGW.2.2.1) S0 S) (I0 : bx_Inv rxL S) (hinv : rxIBGW_0 S0 ws S)  : (True) ∧ (True) ∧ rxIBGW_1 S0 ws (bx_up (bx_up (bx_up S 480 10 0) 480 14 0) 480 13 ((-1))) ∧ rxmBGW_1 S0 ws (bx_up (bx_up (bx_up S 480 10 0) 480 14 0) 480 13 ((-1))) < rxmBGW_0 S0 ws S := by
  obtain ⟨hI, hx⟩ := hinv
  obtain ⟨a_, b_, c_, d_⟩ := rxcBG_0_0 hP hin I0 hI
  exact ⟨a_, b_, ⟨c_, (by
    have e := hI.1
    subst e
    exact ⟨⟨congrArg rzCut (funext fun _ => (bx_up_ne (by omega)).trans ((bx_up_ne (by omega)).trans ((bx_up_ne (by omega))))), (bx_up_ne (by omega)).trans ((bx_up_ne (by omega)).trans ((bx_up_ne (by omega)))), fun c => rzCk_c c (funext fun _ => (bx_up_ne (by omega)).trans ((bx_up_ne (by omega)).trans ((bx_up_ne (by omega))))) (funext fun _ => (bx_up_ne (by omega)).trans ((bx_up_ne (by omega)).trans ((bx_up_ne (by omega)))))⟩, bx_up_at, (bx_up_ne (by omega)).trans ((bx_up_ne (by omega)).trans ((bx_up_ne (by omega))))⟩)⟩, d_⟩
theorem rxgBGW_0_0 {X : (Nat → Int → Int) → Prop} {S0 : Nat → Int → Int} {ws : List Int} (hP : rxPBGW S0 ws) : bx_obC rxL X S0 rxCBGW.2.2.1 (rxIBGW S0 ws) (rxmBGW S0 ws) 0 rxzBGW_0 rxoBGW_0_0 := by
  intro S S_p r r_p hinv hX hin hsm_ hseg
  obtain ⟨I0, I1, h0_, hr_, b_, f_, d_⟩ := bx_cl (evs := [(1, (0, 480), (0, 13), .inr (0, (0, (-1)))), (1, (0, 480), (0, 14), .inr (0, (0, 0))), (1, (0, 480), (0, 10), .inr (0, (0, 0)))]) (fvs := []) hseg (by decide +kernel) (by decide +kernel)
  have hinv : rxIBGW_0 S0 ws S := hinv
  obtain ⟨T0, ⟨T1, ⟨T2, w_, w2⟩, w1⟩, w0⟩ := d_
  subst w0
  subst w1
  subst w2
  subst w_
  have g := rxcBGW_0_0 hP hin I0 hinv 
  refine ⟨bx_narP_ok (l := []) g.1, bx_nfP_ok h0_ (fvs := []) (by decide +kernel) g.2.1, ?_, ?_⟩
  · show rxIBGW_1 S0 ws (bx_up (bx_up (bx_up T2 480 (10) (0)) 480 (14) (0)) 480 (13) ((-1)))
    exact g.2.2.1
  · show rxmBGW_1 S0 ws (bx_up (bx_up (bx_up T2 480 (10) (0)) 480 (14) (0)) 480 (13) ((-1))) < rxmBGW_0 S0 ws T2
    exact g.2.2.2
theorem rxdBGW_2_0 {S0 : Nat → Int → Int} {ws : List Int} {S : Nat → Int → Int} (hP : rxPBGW S0 ws) (hin : bx_same rxL (bx_mdl rxCBGW.2.2.1) S0 S) (hin2 : bx_same rxL (bx_mdl rxCBGW.2.2.1) S S) (I0 : bx_Inv rxL S) (I1 : bx_Inv rxL S) (hinv : rxIBGW_2 S0 ws S)  : (True) ∧ rxPSBGW S0 ws S none := by
  obtain ⟨hI, hx⟩ := hinv
  obtain ⟨a_, c_⟩ := rxdBG_2_0 hP hin hin2 I0 I1 hI
  exact ⟨a_, rfl, c_, hx⟩
theorem rxfBGW_2_0 {X : (Nat → Int → Int) → Prop} {S0 : Nat → Int → Int} {ws : List Int} (hP : rxPBGW S0 ws) : bx_obE rxL X S0 rxCBGW.2.2.1 (rxIBGW S0 ws) (rxPSBGW S0 ws) 2 rxzBGW_2 rxeBGW_2_0 := by
  intro S S_p r r_p hinv hX hin hsm_ hseg
  obtain ⟨I0, I1, h0_, hr_, b_, f_, d_⟩ := bx_cl (evs := []) (fvs := []) hseg (by decide +kernel) (by decide +kernel)
  have hinv : rxIBGW_2 S0 ws S := hinv
  have w_ := d_
  subst w_
  have g := rxdBGW_2_0 hP hin hsm_ I0 I1 hinv 
  refine ⟨bx_narP_ok (l := []) g.1, ?_⟩
  exact g.2
theorem rxgCBGW {X : (Nat → Int → Int) → Prop} {S0 : Nat → Int → Int} {ws : List Int} (hP : rxPBGW S0 ws) : bx_allI (fun i q => rxUBGW q = true ∨ bx_allP (fun o => bx_obC rxL X S0 rxCBGW.2.2.1 (rxIBGW S0 ws) (rxmBGW S0 ws) i q.1 o) q.2.1) 0 rxYBGW := ⟨Or.inr ⟨rxgBGW_0_0 hP, trivial⟩, Or.inl rfl, Or.inr trivial, trivial⟩
theorem rxgEBGW {X : (Nat → Int → Int) → Prop} {S0 : Nat → Int → Int} {ws : List Int} (hP : rxPBGW S0 ws) : bx_allI (fun i q => rxUBGW q = true ∨ bx_allP (fun E => bx_obE rxL X S0 rxCBGW.2.2.1 (rxIBGW S0 ws) (rxPSBGW S0 ws) i q.1 E) q.2.2) 0 rxYBGW := ⟨Or.inr trivial, Or.inl rfl, Or.inr ⟨rxfBGW_2_0 hP, trivial⟩, trivial⟩
theorem rxuBGW {PX : State → Prop} {Dg : va_G} {A : Nat → Prop} {ad xa : Nat → Nat} {l : Launch} {X : (Nat → Int → Int) → Prop} (hPX : rx_PXOK rxNW A PX) (hX : ∀ S S1 : Nat → Int → Int, X S → bx_same rxL (bx_mdl rxCBGW.2.2.1) S S1 → X S1) (hQNXX : bx_ConP rxG rxNW rxAO PX Dg rxL X vwCl A ad l rxM264 rxCNXX rxPNXX rxPSNXX) {S0 : Nat → Int → Int} {ws : List Int} (hP : rxPBGW S0 ws) : ∀ (i : Nat) (q : bx_HE), rxYBGW[i]? = some q → rxUBGW q = true → ∀ {p : Program} {e : Env} {R : Room} {s : State} {m : MethodId} {args : Array Value} {below : List Frame} {meth : Method} {c : Code} {Q : State → Prop} {H0 : Heap}, rx_Fr rxG rxNW rxAO PX p s m args meth c rxM281 → (∀ q, H0.size ≤ q → A q) → H0 = s.heap → rxM281.2.2.2.2.2.2.1 ≤ R.cells → rxM281.2.2.2.2.2.2.2 ≤ R.slots → rxCBGW.2.2.2.1 ≤ R.frames → rxCBGW.2.2.2.1 * 40 ≤ R.locals → bx_Step p l e R s m args below meth c Q Dg rxL X vwCl A xa H0 ad rxM281 rxYBGW (rxIBGW S0 ws) (rxmBGW S0 ws) S0 rxCBGW.2.2.1 i q := by
  intro i q hq hus p e R s m args below meth c Q H0 hF hA hH0 hmc hms hd hdl
  match i, hq with
  | 0, hq =>
    cases hq
    exact absurd (show false = true from hus) Bool.false_ne_true
  | 1, hq =>
    cases hq
    exact rx_stepC (ins := .invokevirtual 253) (len := 3) (i_p := 2) (M_p := rxM264) (d := rxCBGW.2.2.2.1) (as := [.inr (3, (0, 480))]) (t := []) (ct := rxCNXX) hPX hF rfl hA hH0 hmc hms hd hdl (by decide +kernel) rfl rfl (by decide +kernel) (by decide +kernel) hQNXX (by decide +kernel) rfl (Or.inl ⟨rfl, rfl, rfl⟩) (rxsBGW_1 hP)
  | 2, hq =>
    cases hq
    exact absurd (show false = true from hus) Bool.false_ne_true
  | n + 3, hq => cases hq
theorem rxQBGW {PX : State → Prop} {Dg : va_G} {A : Nat → Prop} {ad xa : Nat → Nat} {l : Launch} {X : (Nat → Int → Int) → Prop} (hPX : rx_PXOK rxNW A PX) (hsl : ∀ s : State, PX s → ∀ o idx n : Nat, rxSl o idx = some n → ∃ tx : String, vk_R (rxNm o) idx tx (ad n) s)
    (hX : ∀ S S_p : Nat → Int → Int, X S → bx_same rxL (bx_mdl rxCBGW.2.2.1) S S_p → X S_p)
    (ih : ∀ (j2 : Nat) (ct2 : bx_Ct) (M2 : rx_Mt), ct2 ∈ rxCnE j2 → ct2.2.2.2.1 + 1 ≤ rxCBGW.2.2.2.1 → rxT.2.2.2.2.2 j2 = some M2 → bx_Con rxG rxNW rxAO PX Dg rxL X vwCl A ad l M2 ct2) (hQNXX : bx_ConP rxG rxNW rxAO PX Dg rxL X vwCl A ad l rxM264 rxCNXX rxPNXX rxPSNXX) : bx_ConP rxG rxNW rxAO PX Dg rxL X vwCl A ad l rxM281 rxCBGW rxPBGW rxPSBGW :=
  rxQof (xa := xa) (Cn := rxCnE) (f := 30000) (j := 281) (tab := rxYBGW) (us := rxUBGW) hPX hsl hX ih rfl rxYcBGW rxIBGW rxmBGW
    (fun S0 ws r I0 I ht0 ht as he he1 hX0 hI0 hP hs ha => by
      have e := he.symm.trans (show bx_ent0 rxNP rxCBGW.1 bx_I0 [] = some ([(0, 0), (0, 0), (0, 0), (0, 0), (0, 0), (0, 0), (0, 0), (0, 0)], [], [.inr (3, (0, 480))]) from rfl)
      cases e
      subst ha
      have h0 : r 0 = 0 := hs.1
      show rxIBGW_0 S0 _ S0
      refine ⟨⟨rfl, ?_⟩, trivial⟩
      simp only [List.map_cons, List.map_nil, bx_xv_ok h0]
      rfl)
    (fun S0 ws hP => rxuBGW (xa := xa) hPX hX hQNXX hP) (fun S0 ws hP => rxgCBGW hP) (fun S0 ws hP => rxgEBGW hP)
noncomputable def rxCBXW : bx_Ct := ([(3, (1, 480, 0)), (0, (0, 0, 1))], none, [(12, 9), (12, 10), (12, 11), (12, 12), (12, 13), (12, 14), (12, 15), (12, 16), (12, 18), (12, 21)], 3, [])
noncomputable def rxIBXW_0 (S0 : Nat → Int → Int) (ws : List Int) (S : Nat → Int → Int) (z : Int) : Prop := rxIBX_0 S0 ws S z ∧ True
noncomputable def rxmBXW_0 (S0 : Nat → Int → Int) (ws : List Int) (S : Nat → Int → Int) (z : Int) : Nat := rxmBX_0 S0 ws S z
noncomputable def rxzBXW_0 : rx_Z := ([(0, 0), (0, 0), (0, 0), (0, 0), (0, 0), (0, 0), (0, 0), (0, 0), (0, 1)], [], [], 0, 0, 0, [(0, .inr (3, (0, 480))), (1, .inr (0, (8, 0)))], [])
noncomputable def rxIBXW_1 (S0 : Nat → Int → Int) (ws : List Int) (S : Nat → Int → Int) : Prop := rxIBX_1 S0 ws S ∧ (rzBg S0 S)
noncomputable def rxmBXW_1 (S0 : Nat → Int → Int) (ws : List Int) (S : Nat → Int → Int) : Nat := rxmBX_1 S0 ws S
noncomputable def rxzBXW_1 : rx_Z := ([(0, 0), (0, 0), (0, 0), (0, 0), (0, 0), (0, 0), (0, 0), (0, 0)], [], [], 0, 0, 6, [(0, .inr (3, (0, 480)))], [.inr (3, (0, 480))])
noncomputable def rxIBXW_2 (S0 : Nat → Int → Int) (ws : List Int) (S : Nat → Int → Int) : Prop := rxIBX_2 S0 ws S ∧ (rzBg S0 S ∧ S 480 13 = -1 ∧ rzDq S ∧ S 480 9 = rzF (rzCut (S0 485)) (S0 480 8) 0)
noncomputable def rxmBXW_2 (S0 : Nat → Int → Int) (ws : List Int) (S : Nat → Int → Int) : Nat := rxmBX_2 S0 ws S
noncomputable def rxzBXW_2 : rx_Z := ([(0, 0), (0, 0), (0, 0), (0, 0), (0, 0), (0, 0), (0, 0), (0, 0)], [], [], 0, 0, 9, [(0, .inr (3, (0, 480)))], [])
noncomputable def rxoBXW_0_0 : bx_HO := (([(0, 0), (0, 0), (0, 0), (0, 0), (0, 0), (0, 0), (0, 0), (0, 0), (0, 1)], [], [(((0, 0), 1851192626986356800434940932178653442218339981833571981143834627000000), .inr (0, (8, 0))), (((0, 480), 15), .inr (0, (8, 0)))], 0, 0, 6, [(0, .inr (3, (0, 480))), (1, .inr (0, (8, 0)))], [.inr (3, (0, 480))]), [], [], [(0, 0), (0, 0), (0, 0), (0, 0), (0, 0), (0, 0), (0, 0), (0, 0)], 1)
noncomputable def rxeBXW_2_0 : rx_End × List (Nat × Int × Int) := (([(0, 0), (0, 0), (0, 0), (0, 0), (0, 0), (0, 0), (0, 0), (0, 0)], [], [(((0, 0), 1851192626986356801639181172899307091861268768556583502466777091000000), .inr (0, (0, 0))), (((0, 480), 21), .inr (0, (0, 0))), (((0, 0), 1851192626986356801037061052538980267039804375195077741805305859000000), .inr (0, (0, 0))), (((0, 480), 18), .inr (0, (0, 0))), (((0, 0), 1851192626986356800635647638965429050492161446287407234697658371000000), .inr (0, (0, 0))), (((0, 480), 16), .inr (0, (0, 0)))], none), [])
noncomputable def rxYBXW : List bx_HE := [(rxzBXW_0, [rxoBXW_0_0], []), (rxzBXW_1, [], []), (rxzBXW_2, [], [rxeBXW_2_0])]
noncomputable def rxUBXW (q : bx_HE) : Bool := Nat.beq (rx_zpc q.1) 6
noncomputable def rxYBBXW : bx_B := (rxV, rxNP, rxDmf, bx_mdH rxCBXW.2.2.1)
set_option maxRecDepth 100000 in
theorem rxYcBXW : bx_chkH rxYBBXW rxM283 rxCBXW rxYBXW (rxUBXW, fun cut z => rx_ex2 (rxCT rxYBBXW rxCnE) cut 30000 rxCBXW.2.2.2.1 283 z) = true := by decide +kernel
noncomputable def rxIBXW (S0 : Nat → Int → Int) (ws : List Int) (i : Nat) : bx_SP := fun S r => match i with | 0 => rxIBXW_0 S0 ws S (r 8) | 1 => rxIBXW_1 S0 ws S | 2 => rxIBXW_2 S0 ws S | _ => False
noncomputable def rxmBXW (S0 : Nat → Int → Int) (ws : List Int) (i : Nat) (S : Nat → Int → Int) (r : Nat → Int) : Nat := match i with | 0 => rxmBXW_0 S0 ws S (r 8) | 1 => rxmBXW_1 S0 ws S | 2 => rxmBXW_2 S0 ws S | _ => 0
noncomputable def rxPBXW (S0 : Nat → Int → Int) (ws : List Int) : Prop := rxPBX S0 ws
noncomputable def rxPSBXW (S0 : Nat → Int → Int) (ws : List Int) (S : Nat → Int → Int) (w : Option Int) : Prop := w = none ∧ rxPSBX S0 ws S w ∧ (rzBg S0 S ∧ S 480 13 = -1 ∧ rzDq S ∧ S 480 9 = rzF (rzCut (S0 485)) (S0 480 8) 0 ∧ S 480 21 = 0)
theorem rxkBXW_1 {S0 : Nat → Int → Int} {ws : List Int} {S : Nat → Int → Int} (hP : rxPBXW S0 ws) (hin : bx_same rxL (bx_mdl rxCBXW.2.2.1) S0 S) (I0 : bx_Inv rxL S) (hinv : rxIBXW_1 S0 ws S)  : rxPBGW S [480] ∧ ∀ (S_p : Nat → Int → Int), rxPSBGW S [480] S_p none → bx_Inv rxL S_p → bx_same rxL (bx_mdl rxCBGW.2.2.1) S S_p → rxIBXW_2 S0 ws S_p ∧ rxmBXW_2 S0 ws S_p < rxmBXW_1 S0 ws S := by
  obtain ⟨hI, hx⟩ := hinv
  have g_ := rxkBX_1 hP hin I0 hI
  exact ⟨g_.1, fun S_p hq I1 hsm => ⟨⟨(g_.2 S_p hq.2.1 I1 hsm).1, (by
    obtain ⟨g1, g13, g15, gd, ge⟩ := hq.2.2
    rw [hx.1, hx.2.1] at ge
    exact ⟨⟨g1.1.trans hx.1, g1.2.1.trans hx.2.1, fun c => g1.2.2 (hx.2.2 c)⟩, g13, gd, ge⟩)⟩, (g_.2 S_p hq.2.1 I1 hsm).2⟩⟩
theorem rxsBXW_1 {X : (Nat → Int → Int) → Prop} {S0 : Nat → Int → Int} {ws : List Int} (hP : rxPBXW S0 ws) : rx_obK X S0 rxCBXW.2.2.1 rxCBGW.2.2.1 (rxIBXW S0 ws) (rxmBXW S0 ws) 1 2 rxzBXW_1 rxzBXW_2 [.inr (3, (0, 480))] none rxPBGW rxPSBGW := by
  intro S r hinv hXS I0 hin hs_ hf_
  have b_ := bx_bds_sat hs_
  have f_ := bx_fcl_ok hs_.1 hf_
  have g := rxkBXW_1 hP hin I0 hinv 
  have ea : List.map (bx_num r) [.inr (3, (0, 480))] = [480] := by
    simp only [List.map_cons, List.map_nil, bx_xv_ok hs_.1]
    rfl
  rw [ea]
  refine ⟨g.1, fun S_p w r_p hPS hX_p I1 hsm hr hw hs_p => ?_⟩
  have hw : w = none := hPS.1
  subst hw
  have g2 := g.2 S_p hPS I1 hsm
  show rxIBXW_2 S0 ws S_p ∧ rxmBXW_2 S0 ws S_p < _
  exact g2
theorem rxcBXW_0_0 {S0 : Nat → Int → Int} {ws : List Int} {S : Nat → Int → Int} {z : Int} (hP : rxPBXW S0 ws) (hin : bx_same rxL (bx_mdl rxCBXW.2.2.1) S0 S) (I0 : bx_Inv rxL S) (hinv : rxIBXW_0 S0 ws S z) (l8 : 0 ≤ z) (u8 : z ≤ 1) : (True) ∧ (True) ∧ rxIBXW_1 S0 ws (bx_up S 480 15 z) ∧ rxmBXW_1 S0 ws (bx_up S 480 15 z) < rxmBXW_0 S0 ws S z := by
  obtain ⟨hI, hx⟩ := hinv
  obtain ⟨a_, b_, c_, d_⟩ := rxcBX_0_0 hP hin I0 hI l8 u8
  exact ⟨a_, b_, ⟨c_, (by
    have e := hI.1
    subst e
    exact ⟨congrArg rzCut (funext fun _ => (bx_up_ne (by omega))), (bx_up_ne (by omega)), fun c => rzCk_c c (funext fun _ => (bx_up_ne (by omega))) (funext fun _ => (bx_up_ne (by omega)))⟩)⟩, d_⟩
theorem rxgBXW_0_0 {X : (Nat → Int → Int) → Prop} {S0 : Nat → Int → Int} {ws : List Int} (hP : rxPBXW S0 ws) : bx_obC rxL X S0 rxCBXW.2.2.1 (rxIBXW S0 ws) (rxmBXW S0 ws) 0 rxzBXW_0 rxoBXW_0_0 := by
  intro S S_p r r_p hinv hX hin hsm_ hseg
  obtain ⟨I0, I1, h0_, hr_, b_, f_, d_⟩ := bx_cl (evs := [(1, (0, 480), (0, 15), .inr (0, (8, 0)))]) (fvs := []) hseg (by decide +kernel) (by decide +kernel)
  have hinv : rxIBXW_0 S0 ws S (r 8) := hinv
  rw [← hr_ 8 (by decide)] at hinv
  obtain ⟨⟨l8, u8⟩, -⟩ := b_
  obtain ⟨T0, w_, w0⟩ := d_
  subst w0
  subst w_
  have g := rxcBXW_0_0 hP hin I0 hinv l8 u8
  refine ⟨bx_narP_ok (l := []) g.1, bx_nfP_ok h0_ (fvs := []) (by decide +kernel) g.2.1, ?_, ?_⟩
  · show rxIBXW_1 S0 ws (bx_up T0 480 (15) (r_p 8))
    exact g.2.2.1
  · show rxmBXW_1 S0 ws (bx_up T0 480 (15) (r_p 8)) < rxmBXW_0 S0 ws T0 (r 8)
    rw [← hr_ 8 (by decide)]
    exact g.2.2.2
theorem rxdBXW_2_0 {S0 : Nat → Int → Int} {ws : List Int} {S : Nat → Int → Int} (hP : rxPBXW S0 ws) (hin : bx_same rxL (bx_mdl rxCBXW.2.2.1) S0 S) (hin2 : bx_same rxL (bx_mdl rxCBXW.2.2.1) S (bx_up (bx_up (bx_up S 480 16 0) 480 18 0) 480 21 0)) (I0 : bx_Inv rxL S) (I1 : bx_Inv rxL (bx_up (bx_up (bx_up S 480 16 0) 480 18 0) 480 21 0)) (hinv : rxIBXW_2 S0 ws S)  : (True) ∧ rxPSBXW S0 ws (bx_up (bx_up (bx_up S 480 16 0) 480 18 0) 480 21 0) none := by
  obtain ⟨hI, hx⟩ := hinv
  obtain ⟨a_, c_⟩ := rxdBX_2_0 hP hin hin2 I0 I1 hI
  exact ⟨a_, rfl, c_, ⟨⟨(congrArg rzCut (funext fun _ => (bx_up_ne (by omega)).trans ((bx_up_ne (by omega)).trans ((bx_up_ne (by omega)))))).trans hx.1.1, ((bx_up_ne (by omega)).trans ((bx_up_ne (by omega)).trans ((bx_up_ne (by omega))))).trans hx.1.2.1, fun c => rzCk_c (hx.1.2.2 c) (funext fun _ => (bx_up_ne (by omega)).trans ((bx_up_ne (by omega)).trans ((bx_up_ne (by omega))))) (funext fun _ => (bx_up_ne (by omega)).trans ((bx_up_ne (by omega)).trans ((bx_up_ne (by omega)))))⟩, ((bx_up_ne (by omega)).trans ((bx_up_ne (by omega)).trans ((bx_up_ne (by omega))))).trans hx.2.1, rzDq_c hx.2.2.1 ⟨congrArg rzCut (funext fun _ => (bx_up_ne (by omega)).trans ((bx_up_ne (by omega)).trans ((bx_up_ne (by omega))))), (bx_up_ne (by omega)).trans ((bx_up_ne (by omega)).trans ((bx_up_ne (by omega)))), (bx_up_ne (by omega)).trans ((bx_up_ne (by omega)).trans ((bx_up_ne (by omega)))), (bx_up_ne (by omega)).trans ((bx_up_ne (by omega)).trans ((bx_up_ne (by omega)))), fun c => rzCk_c c (funext fun _ => (bx_up_ne (by omega)).trans ((bx_up_ne (by omega)).trans ((bx_up_ne (by omega))))) (funext fun _ => (bx_up_ne (by omega)).trans ((bx_up_ne (by omega)).trans ((bx_up_ne (by omega)))))⟩ ⟨(bx_up_ne (by omega)).trans ((bx_up_ne (by omega)).trans ((bx_up_ne (by omega)))), (bx_up_ne (by omega)).trans ((bx_up_ne (by omega)).trans ((bx_up_ne (by omega)))), (bx_up_ne (by omega)).trans ((bx_up_ne (by omega)).trans ((bx_up_ne (by omega)))), (bx_up_ne (by omega)).trans ((bx_up_ne (by omega)).trans ((bx_up_ne (by omega))))⟩, ((bx_up_ne (by omega)).trans ((bx_up_ne (by omega)).trans ((bx_up_ne (by omega))))).trans hx.2.2.2, bx_up_at⟩⟩
theorem rxfBXW_2_0 {X : (Nat → Int → Int) → Prop} {S0 : Nat → Int → Int} {ws : List Int} (hP : rxPBXW S0 ws) : bx_obE rxL X S0 rxCBXW.2.2.1 (rxIBXW S0 ws) (rxPSBXW S0 ws) 2 rxzBXW_2 rxeBXW_2_0 := by
  intro S S_p r r_p hinv hX hin hsm_ hseg
  obtain ⟨I0, I1, h0_, hr_, b_, f_, d_⟩ := bx_cl (evs := [(1, (0, 480), (0, 21), .inr (0, (0, 0))), (1, (0, 480), (0, 18), .inr (0, (0, 0))), (1, (0, 480), (0, 16), .inr (0, (0, 0)))]) (fvs := []) hseg (by decide +kernel) (by decide +kernel)
  have hinv : rxIBXW_2 S0 ws S := hinv
  obtain ⟨T0, ⟨T1, ⟨T2, w_, w2⟩, w1⟩, w0⟩ := d_
  subst w0
  subst w1
  subst w2
  subst w_
  have g := rxdBXW_2_0 hP hin hsm_ I0 I1 hinv 
  refine ⟨bx_narP_ok (l := []) g.1, ?_⟩
  exact g.2
theorem rxgCBXW {X : (Nat → Int → Int) → Prop} {S0 : Nat → Int → Int} {ws : List Int} (hP : rxPBXW S0 ws) : bx_allI (fun i q => rxUBXW q = true ∨ bx_allP (fun o => bx_obC rxL X S0 rxCBXW.2.2.1 (rxIBXW S0 ws) (rxmBXW S0 ws) i q.1 o) q.2.1) 0 rxYBXW := ⟨Or.inr ⟨rxgBXW_0_0 hP, trivial⟩, Or.inl rfl, Or.inr trivial, trivial⟩
theorem rxgEBXW {X : (Nat → Int → Int) → Prop} {S0 : Nat → Int → Int} {ws : List Int} (hP : rxPBXW S0 ws) : bx_allI (fun i q => rxUBXW q = true ∨ bx_allP (fun E => bx_obE rxL X S0 rxCBXW.2.2.1 (rxIBXW S0 ws) (rxPSBXW S0 ws) i q.1 E) q.2.2) 0 rxYBXW := ⟨Or.inr trivial, Or.inl rfl, Or.inr ⟨rxfBXW_2_0 hP, trivial⟩, trivial⟩
theorem rxuBXW {PX : State → Prop} {Dg : va_G} {A : Nat → Prop} {ad xa : Nat → Nat} {l : Launch} {X : (Nat → Int → Int) → Prop} (hPX : rx_PXOK rxNW A PX) (hX : ∀ S S1 : Nat → Int → Int, X S → bx_same rxL (bx_mdl rxCBXW.2.2.1) S S1 → X S1) (hQBGW : bx_ConP rxG rxNW rxAO PX Dg rxL X vwCl A ad l rxM281 rxCBGW rxPBGW rxPSBGW) {S0 : Nat → Int → Int} {ws : List Int} (hP : rxPBXW S0 ws) : ∀ (i : Nat) (q : bx_HE), rxYBXW[i]? = some q → rxUBXW q = true → ∀ {p : Program} {e : Env} {R : Room} {s : State} {m : MethodId} {args : Array Value} {below : List Frame} {meth : Method} {c : Code} {Q : State → Prop} {H0 : Heap}, rx_Fr rxG rxNW rxAO PX p s m args meth c rxM283 → (∀ q, H0.size ≤ q → A q) → H0 = s.heap → rxM283.2.2.2.2.2.2.1 ≤ R.cells → rxM283.2.2.2.2.2.2.2 ≤ R.slots → rxCBXW.2.2.2.1 ≤ R.frames → rxCBXW.2.2.2.1 * 40 ≤ R.locals → bx_Step p l e R s m args below meth c Q Dg rxL X vwCl A xa H0 ad rxM283 rxYBXW (rxIBXW S0 ws) (rxmBXW S0 ws) S0 rxCBXW.2.2.1 i q := by
  intro i q hq hus p e R s m args below meth c Q H0 hF hA hH0 hmc hms hd hdl
  match i, hq with
  | 0, hq =>
    cases hq
    exact absurd (show false = true from hus) Bool.false_ne_true
  | 1, hq =>
    cases hq
    exact rx_stepC (ins := .invokevirtual 371) (len := 3) (i_p := 2) (M_p := rxM281) (d := rxCBXW.2.2.2.1) (as := [.inr (3, (0, 480))]) (t := []) (ct := rxCBGW) hPX hF rfl hA hH0 hmc hms hd hdl (by decide +kernel) rfl rfl (by decide +kernel) (by decide +kernel) hQBGW (by decide +kernel) rfl (Or.inl ⟨rfl, rfl, rfl⟩) (rxsBXW_1 hP)
  | 2, hq =>
    cases hq
    exact absurd (show false = true from hus) Bool.false_ne_true
  | n + 3, hq => cases hq
theorem rxQBXW {PX : State → Prop} {Dg : va_G} {A : Nat → Prop} {ad xa : Nat → Nat} {l : Launch} {X : (Nat → Int → Int) → Prop} (hPX : rx_PXOK rxNW A PX) (hsl : ∀ s : State, PX s → ∀ o idx n : Nat, rxSl o idx = some n → ∃ tx : String, vk_R (rxNm o) idx tx (ad n) s)
    (hX : ∀ S S_p : Nat → Int → Int, X S → bx_same rxL (bx_mdl rxCBXW.2.2.1) S S_p → X S_p)
    (ih : ∀ (j2 : Nat) (ct2 : bx_Ct) (M2 : rx_Mt), ct2 ∈ rxCnE j2 → ct2.2.2.2.1 + 1 ≤ rxCBXW.2.2.2.1 → rxT.2.2.2.2.2 j2 = some M2 → bx_Con rxG rxNW rxAO PX Dg rxL X vwCl A ad l M2 ct2) (hQBGW : bx_ConP rxG rxNW rxAO PX Dg rxL X vwCl A ad l rxM281 rxCBGW rxPBGW rxPSBGW) : bx_ConP rxG rxNW rxAO PX Dg rxL X vwCl A ad l rxM283 rxCBXW rxPBXW rxPSBXW :=
  rxQof (xa := xa) (Cn := rxCnE) (f := 30000) (j := 283) (tab := rxYBXW) (us := rxUBXW) hPX hsl hX ih rfl rxYcBXW rxIBXW rxmBXW
    (fun S0 ws r I0 I ht0 ht as he he1 hX0 hI0 hP hs ha => by
      have e := he.symm.trans (show bx_ent0 rxNP rxCBXW.1 bx_I0 [] = some ([(0, 0), (0, 0), (0, 0), (0, 0), (0, 0), (0, 0), (0, 0), (0, 0), (0, 1)], [], [.inr (3, (0, 480)), .inr (0, (8, 0))]) from rfl)
      cases e
      subst ha
      have h0 : r 0 = 0 := hs.1
      show rxIBXW_0 S0 _ S0 (r 8)
      refine ⟨⟨rfl, ?_⟩, trivial⟩
      simp only [List.map_cons, List.map_nil, bx_xv_ok h0]
      rfl)
    (fun S0 ws hP => rxuBXW (xa := xa) hPX hX hQBGW hP) (fun S0 ws hP => rxgCBXW hP) (fun S0 ws hP => rxgEBXW hP)
noncomputable def rxCETW : bx_Ct := ([(3, (1, 480, 0))], none, [(12, 8), (12, 9), (12, 10), (12, 11), (12, 12), (12, 13), (12, 14), (12, 15)], 4, [])
noncomputable def rxIETW_0 (S0 : Nat → Int → Int) (ws : List Int) (S : Nat → Int → Int) : Prop := rxIET_0 S0 ws S ∧ True
noncomputable def rxmETW_0 (S0 : Nat → Int → Int) (ws : List Int) (S : Nat → Int → Int) : Nat := rxmET_0 S0 ws S
noncomputable def rxzETW_0 : rx_Z := ([(0, 0), (0, 0), (0, 0), (0, 0), (0, 0), (0, 0), (0, 0), (0, 0)], [], [], 0, 0, 0, [(0, .inr (3, (0, 480)))], [])
noncomputable def rxIETW_1 (S0 : Nat → Int → Int) (ws : List Int) (S : Nat → Int → Int) : Prop := rxIET_1 S0 ws S ∧ (S0 480 14 = 0 ∧ S0 480 11 ≠ 0)
noncomputable def rxmETW_1 (S0 : Nat → Int → Int) (ws : List Int) (S : Nat → Int → Int) : Nat := rxmET_1 S0 ws S
noncomputable def rxzETW_1 : rx_Z := ([(0, 0), (0, 0), (0, 0), (0, 0), (0, 0), (0, 0), (0, 0), (0, 0)], [], [], 0, 0, 16, [(0, .inr (3, (0, 480)))], [.inr (0, (0, 0)), .inr (3, (0, 480))])
noncomputable def rxIETW_2 (S0 : Nat → Int → Int) (ws : List Int) (S : Nat → Int → Int) : Prop := rxIET_2 S0 ws S ∧ (S0 480 14 = 0 ∧ S0 480 11 ≠ 0 ∧ (rzDq S0 → S 480 13 = S0 480 9))
noncomputable def rxmETW_2 (S0 : Nat → Int → Int) (ws : List Int) (S : Nat → Int → Int) : Nat := rxmET_2 S0 ws S
noncomputable def rxzETW_2 : rx_Z := ([(0, 0), (0, 0), (0, 0), (0, 0), (0, 0), (0, 0), (0, 0), (0, 0)], [], [], 0, 0, 19, [(0, .inr (3, (0, 480)))], [])
noncomputable def rxoETW_0_0 : bx_HO := (([(0, 0), (0, 0), (0, 0), (0, 0), (0, 0), (0, 0), (0, 0), (0, 0), (0, 0), (1, 3)], [(3, (9, 0), (0, 0))], [(((0, 0), 1851192626986356799632114105031551009123054124018230966928539648000000), .inr (0, (9, 0))), (((0, 480), 11), .inr (0, (9, 0))), (((0, 0), 1851192626986356800234234225391877833944518517379736727590010880000000), .inr (0, (8, 0))), (((0, 480), 14), .inr (0, (8, 0)))], 0, 0, 16, [(0, .inr (3, (0, 480)))], [.inr (0, (0, 0)), .inr (3, (0, 480))]), [], [], [(0, 0), (0, 0), (0, 0), (0, 0), (0, 0), (0, 0), (0, 0), (0, 0)], 1)
noncomputable def rxeETW_0_0 : rx_End × List (Nat × Int × Int) := (([(0, 0), (0, 0), (0, 0), (0, 0), (0, 0), (0, 0), (0, 0), (0, 0), (0, 0), (0, 0)], [], [(((0, 0), 1851192626986356799029993984671224184301589730656725206267068419000000), .inr (0, (0, 0))), (((0, 480), 8), .inr (0, (0, 0))), (((0, 0), 1851192626986356800434940932178653442218339981833571981143834627000000), .inr (0, (0, 0))), (((0, 480), 15), .inr (0, (0, 0))), (((0, 0), 1851192626986356799632114105031551009123054124018230966928539648000000), .inr (0, (9, 0))), (((0, 480), 11), .inr (0, (9, 0))), (((0, 0), 1851192626986356800234234225391877833944518517379736727590010880000000), .inr (0, (8, 0))), (((0, 480), 14), .inr (0, (8, 0)))], none), [])
noncomputable def rxeETW_0_1 : rx_End × List (Nat × Int × Int) := (([(0, 0), (0, 0), (0, 0), (0, 0), (0, 0), (0, 0), (0, 0), (0, 0), (1, 1)], [(3, (8, 0), (0, 0))], [(((0, 0), 1851192626986356799029993984671224184301589730656725206267068419000000), .inr (0, (0, 0))), (((0, 480), 8), .inr (0, (0, 0))), (((0, 0), 1851192626986356800434940932178653442218339981833571981143834627000000), .inr (0, (0, 0))), (((0, 480), 15), .inr (0, (0, 0))), (((0, 0), 1851192626986356800234234225391877833944518517379736727590010880000000), .inr (0, (8, 0))), (((0, 480), 14), .inr (0, (8, 0)))], none), [])
noncomputable def rxeETW_2_0 : rx_End × List (Nat × Int × Int) := (([(0, 0), (0, 0), (0, 0), (0, 0), (0, 0), (0, 0), (0, 0), (0, 0)], [], [(((0, 0), 1851192626986356799029993984671224184301589730656725206267068419000000), .inr (0, (0, 0))), (((0, 480), 8), .inr (0, (0, 0))), (((0, 0), 1851192626986356800434940932178653442218339981833571981143834627000000), .inr (0, (0, 0))), (((0, 480), 15), .inr (0, (0, 0)))], none), [])
noncomputable def rxYETW : List bx_HE := [(rxzETW_0, [rxoETW_0_0], [rxeETW_0_0, rxeETW_0_1]), (rxzETW_1, [], []), (rxzETW_2, [], [rxeETW_2_0])]
noncomputable def rxUETW (q : bx_HE) : Bool := Nat.beq (rx_zpc q.1) 16
noncomputable def rxYBETW : bx_B := (rxV, rxNP, rxDmf, bx_mdH rxCETW.2.2.1)
set_option maxRecDepth 100000 in
theorem rxYcETW : bx_chkH rxYBETW rxM285 rxCETW rxYETW (rxUETW, fun cut z => rx_ex2 (rxCT rxYBETW rxCnE) cut 30000 rxCETW.2.2.2.1 285 z) = true := by decide +kernel
noncomputable def rxIETW (S0 : Nat → Int → Int) (ws : List Int) (i : Nat) : bx_SP := fun S r => match i with | 0 => rxIETW_0 S0 ws S | 1 => rxIETW_1 S0 ws S | 2 => rxIETW_2 S0 ws S | _ => False
noncomputable def rxmETW (S0 : Nat → Int → Int) (ws : List Int) (i : Nat) (S : Nat → Int → Int) (r : Nat → Int) : Nat := match i with | 0 => rxmETW_0 S0 ws S | 1 => rxmETW_1 S0 ws S | 2 => rxmETW_2 S0 ws S | _ => 0
noncomputable def rxPETW (S0 : Nat → Int → Int) (ws : List Int) : Prop := rxPET S0 ws
noncomputable def rxPSETW (S0 : Nat → Int → Int) (ws : List Int) (S : Nat → Int → Int) (w : Option Int) : Prop := w = none ∧ rxPSET S0 ws S w ∧ (((S0 480 14 = 0 → rzDq S0 → (S 480 14 = 0 → S0 480 8 ≤ S0 480 9 ∧ S 480 13 = S0 480 13) ∧ (S 480 14 ≠ 0 → ¬ S0 480 8 ≤ S0 480 9 ∧ S 480 13 = S0 480 9)) ∧ (S0 480 14 ≠ 0 → S 480 14 ≠ 0 ∧ S 480 13 = S0 480 13)) ∧ S 480 8 = 0)
theorem rxkETW_1 {S0 : Nat → Int → Int} {ws : List Int} {S : Nat → Int → Int} (hP : rxPETW S0 ws) (hin : bx_same rxL (bx_mdl rxCETW.2.2.1) S0 S) (I0 : bx_Inv rxL S) (hinv : rxIETW_1 S0 ws S)  : rxPMUW S [480, 0] ∧ ∀ (S_p : Nat → Int → Int), rxPSMUW S [480, 0] S_p none → bx_Inv rxL S_p → bx_same rxL (bx_mdl rxCMUW.2.2.1) S S_p → rxIETW_2 S0 ws S_p ∧ rxmETW_2 S0 ws S_p < rxmETW_1 S0 ws S := by
  obtain ⟨hI, hx⟩ := hinv
  have g_ := rxkET_1 hP hin I0 hI
  exact ⟨g_.1, fun S_p hq I1 hsm => ⟨⟨(g_.2 S_p hq.2.1 I1 hsm).1, (by
    have e : S = S0 := hI
    subst e
    refine ⟨hx.1, hx.2, fun hD => ?_⟩
    obtain ⟨-, -, is2, hw2, hc⟩ := hq.2.1
    have he : (0 : Int) = is2 := Option.some.inj (congrArg (fun l : List Int => l[1]?) hw2)
    exact (hq.2.2.1 hx.1 hD).2 (by omega))⟩, (g_.2 S_p hq.2.1 I1 hsm).2⟩⟩
theorem rxsETW_1 {X : (Nat → Int → Int) → Prop} {S0 : Nat → Int → Int} {ws : List Int} (hP : rxPETW S0 ws) : rx_obK X S0 rxCETW.2.2.1 rxCMUW.2.2.1 (rxIETW S0 ws) (rxmETW S0 ws) 1 2 rxzETW_1 rxzETW_2 [.inr (3, (0, 480)), .inr (0, (0, 0))] none rxPMUW rxPSMUW := by
  intro S r hinv hXS I0 hin hs_ hf_
  have b_ := bx_bds_sat hs_
  have f_ := bx_fcl_ok hs_.1 hf_
  have g := rxkETW_1 hP hin I0 hinv 
  have ea : List.map (bx_num r) [.inr (3, (0, 480)), .inr (0, (0, 0))] = [480, 0] := by
    simp only [List.map_cons, List.map_nil, bx_xv_ok hs_.1]
    rfl
  rw [ea]
  refine ⟨g.1, fun S_p w r_p hPS hX_p I1 hsm hr hw hs_p => ?_⟩
  have hw : w = none := hPS.1
  subst hw
  have g2 := g.2 S_p hPS I1 hsm
  show rxIETW_2 S0 ws S_p ∧ rxmETW_2 S0 ws S_p < _
  exact g2
theorem rxcETW_0_0 {S0 : Nat → Int → Int} {ws : List Int} {S : Nat → Int → Int} {x8 x9 : Int} (hP : rxPETW S0 ws) (hin : bx_same rxL (bx_mdl rxCETW.2.2.1) S0 S) (I0 : bx_Inv rxL S) (hinv : rxIETW_0 S0 ws S) (l8 : 0 ≤ x8) (u8 : x8 ≤ 0) (l9 : 1 ≤ x9) (u9 : x9 ≤ 3) (f0 : x9 ≠ 0) (e1 : S 480 14 = x8) (e0 : S 480 11 = x9) : (True) ∧ (True) ∧ rxIETW_1 S0 ws S ∧ rxmETW_1 S0 ws S < rxmETW_0 S0 ws S := by
  obtain ⟨hI, hx⟩ := hinv
  obtain ⟨a_, b_, c_, d_⟩ := rxcET_0_0 hP hin I0 hI l8 u8 l9 u9 f0 e1 e0
  exact ⟨a_, b_, ⟨c_, (by
    have e := hI.1
    subst e
    exact ⟨by omega, by omega⟩)⟩, d_⟩
theorem rxgETW_0_0 {X : (Nat → Int → Int) → Prop} {S0 : Nat → Int → Int} {ws : List Int} (hP : rxPETW S0 ws) : bx_obC rxL X S0 rxCETW.2.2.1 (rxIETW S0 ws) (rxmETW S0 ws) 0 rxzETW_0 rxoETW_0_0 := by
  intro S S_p r r_p hinv hX hin hsm_ hseg
  obtain ⟨I0, I1, h0_, hr_, b_, f_, d_⟩ := bx_cl (evs := [(0, (0, 480), (0, 11), .inr (0, (9, 0))), (0, (0, 480), (0, 14), .inr (0, (8, 0)))]) (fvs := [(3, (9, 0), (0, 0), (0, 0))]) hseg (by decide +kernel) (by decide +kernel)
  have hinv : rxIETW_0 S0 ws S := hinv
  obtain ⟨⟨l8, u8⟩, ⟨l9, u9⟩, -⟩ := b_
  obtain ⟨f0, -⟩ := f_
  obtain ⟨e0, ⟨e1, w_⟩⟩ := d_
  subst w_
  have g := rxcETW_0_0 hP hin I0 hinv l8 u8 l9 u9 f0 e1 e0
  refine ⟨bx_narP_ok (l := []) g.1, bx_nfP_ok h0_ (fvs := []) (by decide +kernel) g.2.1, ?_, ?_⟩
  · show rxIETW_1 S0 ws S_p
    exact g.2.2.1
  · show rxmETW_1 S0 ws S_p < rxmETW_0 S0 ws S_p
    exact g.2.2.2
theorem rxdETW_0_0 {S0 : Nat → Int → Int} {ws : List Int} {S : Nat → Int → Int} {x8 x9 : Int} (hP : rxPETW S0 ws) (hin : bx_same rxL (bx_mdl rxCETW.2.2.1) S0 S) (hin2 : bx_same rxL (bx_mdl rxCETW.2.2.1) S (bx_up (bx_up S 480 15 0) 480 8 0)) (I0 : bx_Inv rxL S) (I1 : bx_Inv rxL (bx_up (bx_up S 480 15 0) 480 8 0)) (hinv : rxIETW_0 S0 ws S) (l8 : 0 ≤ x8) (u8 : x8 ≤ 0) (l9 : 0 ≤ x9) (u9 : x9 ≤ 0) (e3 : S 480 14 = x8) (e2 : S 480 11 = x9) : (True) ∧ rxPSETW S0 ws (bx_up (bx_up S 480 15 0) 480 8 0) none := by
  obtain ⟨hI, hx⟩ := hinv
  obtain ⟨a_, c_⟩ := rxdET_0_0 hP hin hin2 I0 I1 hI l8 u8 l9 u9 e3 e2
  exact ⟨a_, rfl, c_, (by
    have e := hI.1
    subst e
    have u14 := show (bx_up (bx_up S 480 15 0) 480 8 0) 480 14 = S 480 14 from (bx_up_ne (by omega)).trans ((bx_up_ne (by omega)))
    have u13 := show (bx_up (bx_up S 480 15 0) 480 8 0) 480 13 = S 480 13 from (bx_up_ne (by omega)).trans ((bx_up_ne (by omega)))
    refine ⟨⟨fun h0 hD => ⟨fun z => ⟨?_, u13⟩, fun z => absurd (u14.trans h0) z⟩, fun z => by omega⟩, bx_up_at⟩
    obtain ⟨a, b, c, d, q⟩ := hD
    rcases q with v | v | v | v
    · omega
    · omega
    · omega
    · omega)⟩
theorem rxfETW_0_0 {X : (Nat → Int → Int) → Prop} {S0 : Nat → Int → Int} {ws : List Int} (hP : rxPETW S0 ws) : bx_obE rxL X S0 rxCETW.2.2.1 (rxIETW S0 ws) (rxPSETW S0 ws) 0 rxzETW_0 rxeETW_0_0 := by
  intro S S_p r r_p hinv hX hin hsm_ hseg
  obtain ⟨I0, I1, h0_, hr_, b_, f_, d_⟩ := bx_cl (evs := [(1, (0, 480), (0, 8), .inr (0, (0, 0))), (1, (0, 480), (0, 15), .inr (0, (0, 0))), (0, (0, 480), (0, 11), .inr (0, (9, 0))), (0, (0, 480), (0, 14), .inr (0, (8, 0)))]) (fvs := []) hseg (by decide +kernel) (by decide +kernel)
  have hinv : rxIETW_0 S0 ws S := hinv
  obtain ⟨⟨l8, u8⟩, ⟨l9, u9⟩, -⟩ := b_
  obtain ⟨T0, ⟨T1, ⟨e2, ⟨e3, w_⟩⟩, w1⟩, w0⟩ := d_
  subst w0
  subst w1
  subst w_
  have g := rxdETW_0_0 hP hin hsm_ I0 I1 hinv l8 u8 l9 u9 e3 e2
  refine ⟨bx_narP_ok (l := []) g.1, ?_⟩
  exact g.2
theorem rxdETW_0_1 {S0 : Nat → Int → Int} {ws : List Int} {S : Nat → Int → Int} {x8 : Int} (hP : rxPETW S0 ws) (hin : bx_same rxL (bx_mdl rxCETW.2.2.1) S0 S) (hin2 : bx_same rxL (bx_mdl rxCETW.2.2.1) S (bx_up (bx_up S 480 15 0) 480 8 0)) (I0 : bx_Inv rxL S) (I1 : bx_Inv rxL (bx_up (bx_up S 480 15 0) 480 8 0)) (hinv : rxIETW_0 S0 ws S) (l8 : 1 ≤ x8) (u8 : x8 ≤ 1) (f0 : x8 ≠ 0) (e2 : S 480 14 = x8) : (True) ∧ rxPSETW S0 ws (bx_up (bx_up S 480 15 0) 480 8 0) none := by
  obtain ⟨hI, hx⟩ := hinv
  obtain ⟨a_, c_⟩ := rxdET_0_1 hP hin hin2 I0 I1 hI l8 u8 f0 e2
  exact ⟨a_, rfl, c_, (by
    have e := hI.1
    subst e
    have u14 := show (bx_up (bx_up S 480 15 0) 480 8 0) 480 14 = S 480 14 from (bx_up_ne (by omega)).trans ((bx_up_ne (by omega)))
    have u13 := show (bx_up (bx_up S 480 15 0) 480 8 0) 480 13 = S 480 13 from (bx_up_ne (by omega)).trans ((bx_up_ne (by omega)))
    exact ⟨⟨fun h0 hD => by omega, fun z => ⟨fun g => z (u14.symm.trans g), u13⟩⟩, bx_up_at⟩)⟩
theorem rxfETW_0_1 {X : (Nat → Int → Int) → Prop} {S0 : Nat → Int → Int} {ws : List Int} (hP : rxPETW S0 ws) : bx_obE rxL X S0 rxCETW.2.2.1 (rxIETW S0 ws) (rxPSETW S0 ws) 0 rxzETW_0 rxeETW_0_1 := by
  intro S S_p r r_p hinv hX hin hsm_ hseg
  obtain ⟨I0, I1, h0_, hr_, b_, f_, d_⟩ := bx_cl (evs := [(1, (0, 480), (0, 8), .inr (0, (0, 0))), (1, (0, 480), (0, 15), .inr (0, (0, 0))), (0, (0, 480), (0, 14), .inr (0, (8, 0)))]) (fvs := [(3, (8, 0), (0, 0), (0, 0))]) hseg (by decide +kernel) (by decide +kernel)
  have hinv : rxIETW_0 S0 ws S := hinv
  obtain ⟨⟨l8, u8⟩, -⟩ := b_
  obtain ⟨f0, -⟩ := f_
  obtain ⟨T0, ⟨T1, ⟨e2, w_⟩, w1⟩, w0⟩ := d_
  subst w0
  subst w1
  subst w_
  have g := rxdETW_0_1 hP hin hsm_ I0 I1 hinv l8 u8 f0 e2
  refine ⟨bx_narP_ok (l := []) g.1, ?_⟩
  exact g.2
theorem rxdETW_2_0 {S0 : Nat → Int → Int} {ws : List Int} {S : Nat → Int → Int} (hP : rxPETW S0 ws) (hin : bx_same rxL (bx_mdl rxCETW.2.2.1) S0 S) (hin2 : bx_same rxL (bx_mdl rxCETW.2.2.1) S (bx_up (bx_up S 480 15 0) 480 8 0)) (I0 : bx_Inv rxL S) (I1 : bx_Inv rxL (bx_up (bx_up S 480 15 0) 480 8 0)) (hinv : rxIETW_2 S0 ws S)  : (True) ∧ rxPSETW S0 ws (bx_up (bx_up S 480 15 0) 480 8 0) none := by
  obtain ⟨hI, hx⟩ := hinv
  obtain ⟨a_, c_⟩ := rxdET_2_0 hP hin hin2 I0 I1 hI
  exact ⟨a_, rfl, c_, ⟨⟨fun h0 hD => ⟨fun z => by
    have z1 : S 480 14 = 0 := ((bx_up_ne (by omega)).trans ((bx_up_ne (by omega)))).symm.trans z
    have z2 : S 480 14 = 1 := hI
    omega, fun z => ⟨by
    have h11 := hx.2.1
    exact fun g => by
      obtain ⟨a, b, c, d, q⟩ := hD
      rcases q with v | v | v | v
      · omega
      · omega
      · omega
      · omega, ((bx_up_ne (by omega)).trans ((bx_up_ne (by omega)))).trans (hx.2.2 hD)⟩⟩, fun z => absurd hx.1 z⟩, bx_up_at⟩⟩
theorem rxfETW_2_0 {X : (Nat → Int → Int) → Prop} {S0 : Nat → Int → Int} {ws : List Int} (hP : rxPETW S0 ws) : bx_obE rxL X S0 rxCETW.2.2.1 (rxIETW S0 ws) (rxPSETW S0 ws) 2 rxzETW_2 rxeETW_2_0 := by
  intro S S_p r r_p hinv hX hin hsm_ hseg
  obtain ⟨I0, I1, h0_, hr_, b_, f_, d_⟩ := bx_cl (evs := [(1, (0, 480), (0, 8), .inr (0, (0, 0))), (1, (0, 480), (0, 15), .inr (0, (0, 0)))]) (fvs := []) hseg (by decide +kernel) (by decide +kernel)
  have hinv : rxIETW_2 S0 ws S := hinv
  obtain ⟨T0, ⟨T1, w_, w1⟩, w0⟩ := d_
  subst w0
  subst w1
  subst w_
  have g := rxdETW_2_0 hP hin hsm_ I0 I1 hinv 
  refine ⟨bx_narP_ok (l := []) g.1, ?_⟩
  exact g.2
theorem rxgCETW {X : (Nat → Int → Int) → Prop} {S0 : Nat → Int → Int} {ws : List Int} (hP : rxPETW S0 ws) : bx_allI (fun i q => rxUETW q = true ∨ bx_allP (fun o => bx_obC rxL X S0 rxCETW.2.2.1 (rxIETW S0 ws) (rxmETW S0 ws) i q.1 o) q.2.1) 0 rxYETW := ⟨Or.inr ⟨rxgETW_0_0 hP, trivial⟩, Or.inl rfl, Or.inr trivial, trivial⟩
theorem rxgEETW {X : (Nat → Int → Int) → Prop} {S0 : Nat → Int → Int} {ws : List Int} (hP : rxPETW S0 ws) : bx_allI (fun i q => rxUETW q = true ∨ bx_allP (fun E => bx_obE rxL X S0 rxCETW.2.2.1 (rxIETW S0 ws) (rxPSETW S0 ws) i q.1 E) q.2.2) 0 rxYETW := ⟨Or.inr ⟨rxfETW_0_0 hP, rxfETW_0_1 hP, trivial⟩, Or.inl rfl, Or.inr ⟨rxfETW_2_0 hP, trivial⟩, trivial⟩
theorem rxuETW {PX : State → Prop} {Dg : va_G} {A : Nat → Prop} {ad xa : Nat → Nat} {l : Launch} {X : (Nat → Int → Int) → Prop} (hPX : rx_PXOK rxNW A PX) (hX : ∀ S S1 : Nat → Int → Int, X S → bx_same rxL (bx_mdl rxCETW.2.2.1) S S1 → X S1) (hQMUW : bx_ConP rxG rxNW rxAO PX Dg rxL X vwCl A ad l rxM265 rxCMUW rxPMUW rxPSMUW) {S0 : Nat → Int → Int} {ws : List Int} (hP : rxPETW S0 ws) : ∀ (i : Nat) (q : bx_HE), rxYETW[i]? = some q → rxUETW q = true → ∀ {p : Program} {e : Env} {R : Room} {s : State} {m : MethodId} {args : Array Value} {below : List Frame} {meth : Method} {c : Code} {Q : State → Prop} {H0 : Heap}, rx_Fr rxG rxNW rxAO PX p s m args meth c rxM285 → (∀ q, H0.size ≤ q → A q) → H0 = s.heap → rxM285.2.2.2.2.2.2.1 ≤ R.cells → rxM285.2.2.2.2.2.2.2 ≤ R.slots → rxCETW.2.2.2.1 ≤ R.frames → rxCETW.2.2.2.1 * 40 ≤ R.locals → bx_Step p l e R s m args below meth c Q Dg rxL X vwCl A xa H0 ad rxM285 rxYETW (rxIETW S0 ws) (rxmETW S0 ws) S0 rxCETW.2.2.1 i q := by
  intro i q hq hus p e R s m args below meth c Q H0 hF hA hH0 hmc hms hd hdl
  match i, hq with
  | 0, hq =>
    cases hq
    exact absurd (show false = true from hus) Bool.false_ne_true
  | 1, hq =>
    cases hq
    exact rx_stepC (ins := .invokevirtual 284) (len := 3) (i_p := 2) (M_p := rxM265) (d := rxCETW.2.2.2.1) (as := [.inr (3, (0, 480)), .inr (0, (0, 0))]) (t := []) (ct := rxCMUW) hPX hF rfl hA hH0 hmc hms hd hdl (by decide +kernel) rfl rfl (by decide +kernel) (by decide +kernel) hQMUW (by decide +kernel) rfl (Or.inl ⟨rfl, rfl, rfl⟩) (rxsETW_1 hP)
  | 2, hq =>
    cases hq
    exact absurd (show false = true from hus) Bool.false_ne_true
  | n + 3, hq => cases hq
theorem rxQETW {PX : State → Prop} {Dg : va_G} {A : Nat → Prop} {ad xa : Nat → Nat} {l : Launch} {X : (Nat → Int → Int) → Prop} (hPX : rx_PXOK rxNW A PX) (hsl : ∀ s : State, PX s → ∀ o idx n : Nat, rxSl o idx = some n → ∃ tx : String, vk_R (rxNm o) idx tx (ad n) s)
    (hX : ∀ S S_p : Nat → Int → Int, X S → bx_same rxL (bx_mdl rxCETW.2.2.1) S S_p → X S_p)
    (ih : ∀ (j2 : Nat) (ct2 : bx_Ct) (M2 : rx_Mt), ct2 ∈ rxCnE j2 → ct2.2.2.2.1 + 1 ≤ rxCETW.2.2.2.1 → rxT.2.2.2.2.2 j2 = some M2 → bx_Con rxG rxNW rxAO PX Dg rxL X vwCl A ad l M2 ct2) (hQMUW : bx_ConP rxG rxNW rxAO PX Dg rxL X vwCl A ad l rxM265 rxCMUW rxPMUW rxPSMUW) : bx_ConP rxG rxNW rxAO PX Dg rxL X vwCl A ad l rxM285 rxCETW rxPETW rxPSETW :=
  rxQof (xa := xa) (Cn := rxCnE) (f := 30000) (j := 285) (tab := rxYETW) (us := rxUETW) hPX hsl hX ih rfl rxYcETW rxIETW rxmETW
    (fun S0 ws r I0 I ht0 ht as he he1 hX0 hI0 hP hs ha => by
      have e := he.symm.trans (show bx_ent0 rxNP rxCETW.1 bx_I0 [] = some ([(0, 0), (0, 0), (0, 0), (0, 0), (0, 0), (0, 0), (0, 0), (0, 0)], [], [.inr (3, (0, 480))]) from rfl)
      cases e
      subst ha
      have h0 : r 0 = 0 := hs.1
      show rxIETW_0 S0 _ S0
      refine ⟨⟨rfl, ?_⟩, trivial⟩
      simp only [List.map_cons, List.map_nil, bx_xv_ok h0]
      rfl)
    (fun S0 ws hP => rxuETW (xa := xa) hPX hX hQMUW hP) (fun S0 ws hP => rxgCETW hP) (fun S0 ws hP => rxgEETW hP)
