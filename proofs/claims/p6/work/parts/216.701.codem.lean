/-! the reference's code -/
def rkAi (b op a : Int) : Int := if op = 29 ∨ op = 30 then (if a = 0 then 0 else b + a) else a
theorem rkAi_j {b o a : Int} (hj : o = 29 ∨ o = 30) (ha : a ≠ 0) : rkAi b o a = b + a := by
  unfold rkAi
  rw [if_pos hj, if_neg ha]
theorem rkAi_0 {b o : Int} : rkAi b o 0 = 0 := by
  unfold rkAi
  rw [if_pos rfl]
  split <;> rfl
theorem rkAi_n {b o a : Int} (hj : ¬ (o = 29 ∨ o = 30)) : rkAi b o a = a := if_neg hj
/-- the reference's rows hold what waits and what is written, from b on -/
def rkMd (S : Nat → Int → Int) (b : Int) (c : rkC) : Prop := 0 ≤ b ∧ 0 ≤ rkM c ∧ S 480 24 = (c.1 : Int) ∧ S 480 18 = b + rkM c ∧ (∀ j : Int, 0 ≤ j → j < (c.1 : Int) → S 489 j = rkPo c j ∧ (rkJ (rkPo c j) → S 490 j = b + rkPa c j)) ∧ ∀ i : Int, 0 ≤ i → i < rkM c → S 487 (b + i) = rkFo c i ∧ S 488 (b + i) = rkAi b (rkFo c i) (rkFa c i)
def rkFm (S S_p : Nat → Int → Int) (b : Int) : Prop := ∀ i : Int, 0 ≤ i → i < b → S_p 487 i = S 487 i ∧ S_p 488 i = S 488 i
theorem rkFm_rf {S : Nat → Int → Int} {b : Int} : rkFm S S b := fun _ _ _ => ⟨rfl, rfl⟩
theorem rkFm.tr {S S1 S2 : Nat → Int → Int} {b : Int} (h : rkFm S S1 b) (g : rkFm S1 S2 b) : rkFm S S2 b := fun i a c => ⟨(g i a c).1.trans (h i a c).1, (g i a c).2.trans (h i a c).2⟩
theorem rkMd_ne {S S_p : Nat → Int → Int} {b : Int} {c : rkC} (h : rkMd S b c) (e24 : S_p 480 24 = S 480 24) (z : S_p 480 18 = S 480 18) (w : ∀ j : Int, S_p 489 j = S 489 j ∧ S_p 490 j = S 490 j) (s : ∀ i : Int, S_p 487 i = S 487 i ∧ S_p 488 i = S 488 i) : rkMd S_p b c ∧ rkFm S S_p b := by
  obtain ⟨h0, m0, h1, h2, h3, h4⟩ := h
  refine ⟨⟨h0, m0, e24.trans h1, z.trans h2, fun j p q => ?_, fun i p q => ?_⟩, fun i p q => s i⟩
  · rw [(w j).1, (w j).2]
    exact h3 j p q
  · rw [(s (b + i)).1, (s (b + i)).2]
    exact h4 i p q
theorem rkMd_cg {S S_p : Nat → Int → Int} {b : Int} {c : rkC} (h : rkMd S b c) (hn : S 480 24 ≤ 400) (hz : S 480 18 ≤ 400) (e24 : S_p 480 24 = S 480 24) (z : S_p 480 18 = S 480 18) (w : ∀ j : Int, 0 ≤ j → j < 400 → S_p 489 j = S 489 j ∧ S_p 490 j = S 490 j) (s : ∀ i : Int, 0 ≤ i → i < 400 → S_p 487 i = S 487 i ∧ S_p 488 i = S 488 i) : rkMd S_p b c ∧ rkFm S S_p b := by
  obtain ⟨h0, m0, h1, h2, h3, h4⟩ := h
  refine ⟨⟨h0, m0, e24.trans h1, z.trans h2, fun j p q => ?_, fun i p q => ?_⟩, fun i p q => s i p (by omega)⟩
  · rw [(w j p (by omega)).1, (w j p (by omega)).2]
    exact h3 j p q
  · rw [(s (b + i) (by omega) (by omega)).1, (s (b + i) (by omega) (by omega)).2]
    exact h4 i p q
/-- emit, as it is told exactly -/
theorem rkMd_em {S : Nat → Int → Int} {b op a x : Int} {c : rkC} (h : rkMd S b c) (hx : x = rkAi b op a) : rkMd (bx_up (bx_up (bx_up S 487 (S 480 18) op) 488 (S 480 18) x) 480 18 (S 480 18 + 1)) b (rkEmit op a c) ∧ rkFm S (bx_up (bx_up (bx_up S 487 (S 480 18) op) 488 (S 480 18) x) 480 18 (S 480 18 + 1)) b := by
  obtain ⟨h0, m0, h1, h2, h3, h4⟩ := h
  have s7 : ∀ i : Int, i ≠ S 480 18 → bx_up (bx_up (bx_up S 487 (S 480 18) op) 488 (S 480 18) x) 480 18 (S 480 18 + 1) 487 i = S 487 i := fun i hi => by rw [bx_up_ne (by omega), bx_up_ne (by omega), bx_up_ne (by omega)]
  have s8 : ∀ i : Int, i ≠ S 480 18 → bx_up (bx_up (bx_up S 487 (S 480 18) op) 488 (S 480 18) x) 480 18 (S 480 18 + 1) 488 i = S 488 i := fun i hi => by rw [bx_up_ne (by omega), bx_up_ne (by omega), bx_up_ne (by omega)]
  have a7 : bx_up (bx_up (bx_up S 487 (S 480 18) op) 488 (S 480 18) x) 480 18 (S 480 18 + 1) 487 (S 480 18) = op := by rw [bx_up_ne (by omega), bx_up_ne (by omega), bx_up_at]
  have a8 : bx_up (bx_up (bx_up S 487 (S 480 18) op) 488 (S 480 18) x) 480 18 (S 480 18 + 1) 488 (S 480 18) = x := by rw [bx_up_ne (by omega), bx_up_at]
  refine ⟨⟨h0, show 0 ≤ rkM c + 1 by omega, ?_, ?_, fun j p q => ?_, fun i p q => ?_⟩, fun i p q => ⟨s7 i (by omega), s8 i (by omega)⟩⟩
  · rw [bx_up_ne (by omega), bx_up_ne (by omega), bx_up_ne (by omega)]
    exact h1
  · rw [bx_up_at]
    show S 480 18 + 1 = b + (rkM c + 1)
    omega
  · rw [bx_up_ne (by omega), bx_up_ne (by omega), bx_up_ne (by omega), bx_up_ne (by omega), bx_up_ne (by omega), bx_up_ne (by omega)]
    exact h3 j p q
  · have q : i < rkM c + 1 := q
    show _ = rkUp (rkFo c) (rkM c) op i ∧ _ = rkAi b (rkUp (rkFo c) (rkM c) op i) (rkUp (rkFa c) (rkM c) a i)
    by_cases hi : i = rkM c
    · rw [hi, rkUp_at, rkUp_at, ← h2]
      exact ⟨a7, a8.trans hx⟩
    · rw [rkUp_ne hi, rkUp_ne hi, s7 _ (by omega), s8 _ (by omega)]
      exact h4 i p (by omega)
/-- push, as it is told exactly -/
theorem rkMd_pu {S : Nat → Int → Int} {b op a x : Int} {c : rkC} (h : rkMd S b c) (hx : rkJ op → x = b + a) : rkMd (bx_up (bx_up (bx_up S 489 (S 480 24) op) 490 (S 480 24) x) 480 24 (S 480 24 + 1)) b (rkPush op a c) ∧ rkFm S (bx_up (bx_up (bx_up S 489 (S 480 24) op) 490 (S 480 24) x) 480 24 (S 480 24 + 1)) b := by
  obtain ⟨h0, m0, h1, h2, h3, h4⟩ := h
  have s7 : ∀ i : Int, bx_up (bx_up (bx_up S 489 (S 480 24) op) 490 (S 480 24) x) 480 24 (S 480 24 + 1) 487 i = S 487 i := fun i => by rw [bx_up_ne (by omega), bx_up_ne (by omega), bx_up_ne (by omega)]
  have s8 : ∀ i : Int, bx_up (bx_up (bx_up S 489 (S 480 24) op) 490 (S 480 24) x) 480 24 (S 480 24 + 1) 488 i = S 488 i := fun i => by rw [bx_up_ne (by omega), bx_up_ne (by omega), bx_up_ne (by omega)]
  have s9 : ∀ i : Int, i ≠ S 480 24 → bx_up (bx_up (bx_up S 489 (S 480 24) op) 490 (S 480 24) x) 480 24 (S 480 24 + 1) 489 i = S 489 i := fun i hi => by rw [bx_up_ne (by omega), bx_up_ne (by omega), bx_up_ne (by omega)]
  have s0 : ∀ i : Int, i ≠ S 480 24 → bx_up (bx_up (bx_up S 489 (S 480 24) op) 490 (S 480 24) x) 480 24 (S 480 24 + 1) 490 i = S 490 i := fun i hi => by rw [bx_up_ne (by omega), bx_up_ne (by omega), bx_up_ne (by omega)]
  refine ⟨⟨h0, m0, ?_, ?_, fun j p q => ?_, fun i p q => ?_⟩, fun i p q => ⟨s7 i, s8 i⟩⟩
  · rw [bx_up_at]
    show S 480 24 + 1 = ((c.1 + 1 : Nat) : Int)
    omega
  · rw [bx_up_ne (by omega), bx_up_ne (by omega), bx_up_ne (by omega)]
    exact h2
  · have q : j < ((c.1 + 1 : Nat) : Int) := q
    show _ = rkUp (rkPo c) (c.1 : Int) op j ∧ (rkJ (rkUp (rkPo c) (c.1 : Int) op j) → _ = b + rkUp (rkPa c) (c.1 : Int) a j)
    by_cases hi : j = (c.1 : Int)
    · rw [hi, rkUp_at, rkUp_at, ← h1]
      exact ⟨by rw [bx_up_ne (by omega), bx_up_ne (by omega), bx_up_at], fun g => by
        rw [bx_up_ne (by omega), bx_up_at]
        exact hx g⟩
    · rw [rkUp_ne hi, rkUp_ne hi, s9 _ (by omega), s0 _ (by omega)]
      exact h3 j p (by omega)
  · rw [s7, s8]
    exact h4 i p q
theorem rkMd_pop {S S_p : Nat → Int → Int} {b : Int} {c : rkC} (h : rkMd S b c) (hn : 0 < c.1) (e24 : S_p 480 24 = S 480 24 - 1) (z : S_p 480 18 = S 480 18) (w : ∀ j : Int, S_p 489 j = S 489 j ∧ S_p 490 j = S 490 j) (s : ∀ i : Int, S_p 487 i = S 487 i ∧ S_p 488 i = S 488 i) : rkMd S_p b (rkPop c) ∧ rkFm S S_p b := by
  obtain ⟨h0, m0, h1, h2, h3, h4⟩ := h
  refine ⟨⟨h0, m0, show S_p 480 24 = ((c.1 - 1 : Nat) : Int) by omega, z.trans h2, fun j p q => ?_, fun i p q => ?_⟩, fun i p q => s i⟩
  · have q : j < ((c.1 - 1 : Nat) : Int) := q
    rw [(w j).1, (w j).2]
    exact h3 j p (by omega)
  · rw [(s (b + i)).1, (s (b + i)).2]
    exact h4 i p q
/-- a leap is closed: S has the topmost no more -/
theorem rkMd_tj {S1 S_p : Nat → Int → Int} {b : Int} {c : rkC} (h : rkMd S1 b c) (hW : rkW c) (hn : 0 < c.1) (hj : S1 489 (S1 480 24 - 1) = 29 ∨ S1 489 (S1 480 24 - 1) = 30) (e24 : S_p 480 24 = S1 480 24 - 1) (z : S_p 480 18 = S1 480 18) (w : ∀ j : Int, S_p 489 j = S1 489 j ∧ S_p 490 j = S1 490 j) (s7 : ∀ i : Int, S_p 487 i = S1 487 i) (s8 : ∀ i : Int, i ≠ S1 490 (S1 480 24 - 1) → S_p 488 i = S1 488 i) (a8 : S_p 488 (S1 490 (S1 480 24 - 1)) = S1 480 18) : rkMd S_p b (rkTop c) ∧ rkFm S1 S_p b := by
  obtain ⟨h0, m0, h1, h2, h3, h4⟩ := h
  have q := hW.2.1 ((c.1 : Int) - 1) (by omega) (by omega)
  have r := h3 ((c.1 : Int) - 1) (by omega) (by omega)
  rw [h1] at hj s8 a8
  have hj2 : rkPo c ((c.1 : Int) - 1) = 29 ∨ rkPo c ((c.1 : Int) - 1) = 30 := by
    rw [← r.1]
    exact hj
  have q3 := q.2.2 hj2
  rw [r.2 hj2] at s8 a8
  unfold rkTop
  rw [if_pos hj2]
  refine ⟨⟨h0, m0, show S_p 480 24 = ((c.1 - 1 : Nat) : Int) by omega, z.trans h2, fun j p g => ?_, fun i p g => ?_⟩, fun i p g => ⟨s7 i, s8 i (by omega)⟩⟩
  · have g : j < ((c.1 - 1 : Nat) : Int) := g
    rw [(w j).1, (w j).2]
    exact h3 j p (by omega)
  · have g : i < rkM c := g
    show _ = rkFo c i ∧ _ = rkAi b (rkFo c i) (rkUp (rkFa c) (rkPa c ((c.1 : Int) - 1)) (rkM c) i)
    rw [s7]
    refine ⟨(h4 i p g).1, ?_⟩
    by_cases hi : i = rkPa c ((c.1 : Int) - 1)
    · rw [hi, rkUp_at, a8, h2, q3.2.2, rkAi_j hj2 (by omega)]
    · rw [rkUp_ne hi, s8 _ (by omega)]
      exact (h4 i p g).2
/-- what settle leaves -/
def rkMr (S0 S : Nat → Int → Int) (least : Int) : Prop := ∀ (b : Int) (c : rkC), rkMd S0 b c → rkW c → ∃ c' : rkC, rkMd S b c' ∧ rkW c' ∧ rkRed least c' = rkRed least c ∧ rkFm S0 S b
theorem rkMr_0 {S : Nat → Int → Int} {least : Int} : rkMr S S least := fun b c h w => ⟨c, h, w, rfl, rkFm_rf⟩
def rkMe (S0 S : Nat → Int → Int) (least : Int) : Prop := ∀ (b : Int) (c : rkC), rkMd S0 b c → rkW c → rkMd S b (rkRed least c) ∧ rkFm S0 S b
theorem rkMr_end {S0 S : Nat → Int → Int} {least : Int} (h : rkMr S0 S least) (hz : S 480 24 = 0 ∨ rxBd (S 489 (S 480 24 - 1)) < least) : rkMe S0 S least := fun b c d w => by
  obtain ⟨c', d1, d2, d4, d5⟩ := h b c d w
  refine ⟨?_, d5⟩
  rw [← d4, rkRed_n fun q => ?_]
  · exact d1
  · have e1 := d1.2.2.1
    have r := d1.2.2.2.2.1 ((c'.1 : Int) - 1) (by omega) (by omega)
    rw [e1, r.1] at hz
    have e : rxBd (rkPo c' ((c'.1 : Int) - 1)) = rkBd (rkPo c' ((c'.1 : Int) - 1)) := rfl
    omega
/-- one step: S1 is the state ahead of it -/
theorem rkMr_step {S0 S1 S_p : Nat → Int → Int} {least : Int} (h : rkMr S0 S1 least) (hl : 1 ≤ least) (h0 : 1 ≤ S1 480 24) (hs : least ≤ rxBd (S1 489 (S1 480 24 - 1))) (g : ∀ (b : Int) (c : rkC), rkMd S1 b c → rkW c → 0 < c.1 → rkMd S_p b (rkTop c) ∧ rkFm S1 S_p b) : rkMr S0 S_p least := fun b c d w => by
  obtain ⟨c', d1, d2, d4, d5⟩ := h b c d w
  have e1 := d1.2.2.1
  have n0 : 0 < c'.1 := by omega
  have r := d1.2.2.2.2.1 ((c'.1 : Int) - 1) (by omega) (by omega)
  rw [e1, r.1] at hs
  have e : rxBd (rkPo c' ((c'.1 : Int) - 1)) = rkBd (rkPo c' ((c'.1 : Int) - 1)) := rfl
  obtain ⟨g1, g2⟩ := g b c' d1 d2 n0
  exact ⟨rkTop c', g1, rkW_top d2 n0 (rkBd_le (by omega)), (rkRed_y n0 (by omega)).symm.trans d4, d5.tr g2⟩
/-- the state ahead, of one whose pile is one less -/
def rkBk (S : Nat → Int → Int) : Nat → Int → Int := bx_up S 480 24 (S 480 24 + 1)
theorem rkBk_at {S1 : Nat → Int → Int} : rkBk (bx_up S1 480 24 (S1 480 24 - 1)) = S1 := by
  funext p i
  unfold rkBk
  by_cases h : p = 480 ∧ i = 24
  · obtain ⟨rfl, rfl⟩ := h
    rw [bx_up_at, bx_up_at]
    omega
  · rw [bx_up_ne h, bx_up_ne h]
theorem rkMd_of {ms : List (Nat × Nat)} {S S_p : Nat → Int → Int} {b : Int} {c : rkC} (h : rkMd S b c) (I0 : bx_Inv rxL S) (hs : bx_same rxL (bx_mdl ms) S S_p) (hk : [(12, 24), (12, 18), (1068, 0), (1069, 0), (1070, 0), (1071, 0)].all (fun q => !(bx_mdl ms q.1 q.2)) = true) : rkMd S_p b c ∧ rkFm S S_p b := by
  have hq : ∀ a b : Nat, (a, b) ∈ [(12, 24), (12, 18), (1068, 0), (1069, 0), (1070, 0), (1071, 0)] → bx_mdl ms a b = false := fun a b hm => by
    have := List.all_eq_true.mp hk (a, b) hm
    rw [Bool.not_eq_true'] at this
    exact this
  have b24 : 0 ≤ S 480 24 ∧ S 480 24 ≤ 400 := I0 480 24 (by decide) (by decide)
  have bz : 0 ≤ S 480 18 ∧ S 480 18 ≤ 400 := I0 480 18 (by decide) (by decide)
  exact rkMd_cg h b24.2 bz.2 (hs 480 24 (by decide) (by decide) (hq 12 24 (by decide))) (hs 480 18 (by decide) (by decide) (hq 12 18 (by decide)))
    (fun j p q => ⟨rz_fd hs (p := 489) (n := 400) (c := 1070) (k := 0) (hq 1070 0 (by decide)) (by decide) (by decide +kernel) j p q, rz_fd hs (p := 490) (n := 400) (c := 1071) (k := 0) (hq 1071 0 (by decide)) (by decide) (by decide +kernel) j p q⟩)
    (fun j p q => ⟨rz_fd hs (p := 487) (n := 400) (c := 1068) (k := 0) (hq 1068 0 (by decide)) (by decide) (by decide +kernel) j p q, rz_fd hs (p := 488) (n := 400) (c := 1069) (k := 0) (hq 1069 0 (by decide)) (by decide) (by decide +kernel) j p q⟩)
/-- an operation is written down: S1 is the state ahead -/
theorem rkMd_te {S1 : Nat → Int → Int} {b op : Int} {c : rkC} (h : rkMd S1 b c) (hW : rkW c) (hn : 0 < c.1) (hj : ¬ (S1 489 (S1 480 24 - 1) = 29 ∨ S1 489 (S1 480 24 - 1) = 30)) (ho : op = S1 489 (S1 480 24 - 1)) : rkMd (bx_up (bx_up (bx_up (bx_up S1 480 24 (S1 480 24 - 1)) 487 (S1 480 18) op) 488 (S1 480 18) 0) 480 18 (S1 480 18 + 1)) b (rkTop c) ∧ rkFm S1 (bx_up (bx_up (bx_up (bx_up S1 480 24 (S1 480 24 - 1)) 487 (S1 480 18) op) 488 (S1 480 18) 0) 480 18 (S1 480 18 + 1)) b := by
  have p := rkMd_pop (S_p := bx_up S1 480 24 (S1 480 24 - 1)) h hn bx_up_at (bx_up_ne (by omega)) (fun j => ⟨bx_up_ne (by omega), bx_up_ne (by omega)⟩) (fun j => ⟨bx_up_ne (by omega), bx_up_ne (by omega)⟩)
  have q := rkMd_em (op := op) (a := 0) (x := 0) p.1 rkAi_0.symm
  rw [show bx_up S1 480 24 (S1 480 24 - 1) 480 18 = S1 480 18 from bx_up_ne (by omega)] at q
  have r := h.2.2.2.2.1 ((c.1 : Int) - 1) (by omega) (by omega)
  rw [h.2.2.1] at hj ho
  have hj2 : ¬ (rkPo c ((c.1 : Int) - 1) = 29 ∨ rkPo c ((c.1 : Int) - 1) = 30) := by
    rw [← r.1]
    exact hj
  unfold rkTop
  rw [if_neg hj2, ← r.1, ← ho]
  exact ⟨q.1, p.2.tr q.2⟩
/-! thresholds between which nothing stands -/
theorem rkRd_th {l l' : Int} (hle : l ≤ l') : ∀ (k : Nat) (c : rkC) (lo : Int), c.1 ≤ k → -1 ≤ lo → lo < (c.1 : Int) → (∀ j : Int, lo < j → j < (c.1 : Int) → l' ≤ rkBd (rkPo c j)) → (lo = -1 ∨ rkBd (rkPo c lo) < l) → rkRd l k c = rkRd l' k c
  | 0, c, lo, hk, h0, h1, h2, h3 => rfl
  | k + 1, c, lo, hk, h0, h1, h2, h3 => by
    show (if 0 < c.1 ∧ l ≤ rkBd (rkPo c ((c.1 : Int) - 1)) then rkRd l k (rkTop c) else c) = (if 0 < c.1 ∧ l' ≤ rkBd (rkPo c ((c.1 : Int) - 1)) then rkRd l' k (rkTop c) else c)
    by_cases hz : lo = (c.1 : Int) - 1
    · have h4 : ¬ (0 < c.1 ∧ l ≤ rkBd (rkPo c ((c.1 : Int) - 1))) := fun g => by
        rcases h3 with h3 | h3
        · omega
        · rw [hz] at h3
          omega
      rw [if_neg h4, if_neg fun g => h4 ⟨g.1, by omega⟩]
    · have h5 := h2 ((c.1 : Int) - 1) (by omega) (by omega)
      have hc : 0 < c.1 := by omega
      rw [if_pos ⟨hc, by omega⟩, if_pos ⟨hc, h5⟩]
      have n := rkTop_n (c := c)
      have e : rkPo (rkTop c) = rkPo c := by
        unfold rkTop
        split <;> rfl
      exact rkRd_th hle k (rkTop c) lo (by omega) h0 (by omega) (fun j a b => by rw [e]; exact h2 j a (by omega)) (by rw [e]; exact h3)
theorem rkRed_th {l l' : Int} (hle : l ≤ l') {c : rkC} {lo : Int} (h0 : -1 ≤ lo) (h1 : lo < (c.1 : Int)) (h2 : ∀ j : Int, lo < j → j < (c.1 : Int) → l' ≤ rkBd (rkPo c j)) (h3 : lo = -1 ∨ rkBd (rkPo c lo) < l) : rkRed l c = rkRed l' c := rkRd_th hle c.1 c lo (Nat.le_refl _) h0 h1 h2 h3
theorem rkBd_sum {v : Int} (h : 20 ≤ v ∧ v ≤ 24) : 5 ≤ rkBd v := by
  have e : v = 20 ∨ v = 21 ∨ v = 22 ∨ v = 23 ∨ v = 24 := by omega
  rcases e with rfl | rfl | rfl | rfl | rfl <;> decide
theorem rkBd_28 {v : Int} (h : 28 ≤ v) : rkBd v < 4 := by
  unfold rkBd
  split
  · omega
  · split
    · omega
    · split
      · omega
      · split
        · omega
        · omega
/-- ahead of ']': all that waits above the bracket is sums -/
theorem rkRed_sq {S : Nat → Int → Int} {b tst : Int} {rest : List Int} {c : rkC} (h : rkMd S b c) (r : rzSr S tst (0 :: rest)) (hr : rest ≠ []) : rkRed 1 c = rkRed 5 c := by
  obtain ⟨bb, b0, b1, a1, a2, a3, a4, a5, a6⟩ := rzBr_top r.2.2 r.1
  obtain ⟨q0, q1⟩ := a5 hr
  have e1 := h.2.2.1
  have e : ∀ j : Int, 0 ≤ j → j < (c.1 : Int) → S 489 j = rkPo c j := fun j x y => (h.2.2.2.2.1 j x y).1
  refine rkRed_th (lo := bb) (by omega) b0 (by omega) (fun j x y => ?_) (Or.inr ?_)
  · rw [← e j (by omega) y]
    exact rkBd_sum (a3.1 rfl j (by omega) (by omega))
  · rw [← e bb (by omega) (by omega)]
    have h31 : 31 ≤ S 489 bb := by omega
    unfold rkBd
    rw [if_pos h31]
    omega
/-- ahead of a comparison: no other one waits -/
theorem rkCm_lo {P : Int → Int} : ∀ {n : Nat}, ¬ rzCm P (n : Int) → ∃ lo : Int, -1 ≤ lo ∧ lo < (n : Int) ∧ (∀ j : Int, lo < j → j < (n : Int) → 20 ≤ P j ∧ P j ≤ 24) ∧ (lo = -1 ∨ P lo < 20 ∨ 28 ≤ P lo)
  | 0, _ => ⟨-1, by omega, by omega, fun j a b => by omega, Or.inl rfl⟩
  | n + 1, h => by
    by_cases hs : 20 ≤ P (n : Int) ∧ P (n : Int) ≤ 24
    · obtain ⟨lo, l0, l1, l2, l3⟩ := rkCm_lo (P := P) (n := n) fun g => h (by
        obtain ⟨k, k0, k1, k2, k3, k4⟩ := g
        refine ⟨k, k0, by omega, k2, k3, fun j a b => ?_⟩
        by_cases hj : j = (n : Int)
        · rw [hj]
          exact hs
        · exact k4 j a (by omega))
      refine ⟨lo, l0, by omega, fun j a b => ?_, l3⟩
      by_cases hj : j = (n : Int)
      · rw [hj]
        exact hs
      · exact l2 j a (by omega)
    · refine ⟨(n : Int), by omega, by omega, fun j a b => by omega, Or.inr ?_⟩
      by_cases h2 : 25 ≤ P (n : Int) ∧ P (n : Int) ≤ 27
      · exact absurd ⟨(n : Int), by omega, by omega, h2.1, h2.2, fun j a b => by omega⟩ h
      · omega
theorem rkRed_cm {S : Nat → Int → Int} {b tst : Int} {rest : List Int} {c : rkC} (h : rkMd S b c) (hW : rkW c) (r : rzSr S tst (2 :: rest)) : rkRed 4 c = rkRed 5 c := by
  obtain ⟨bb, b0, b1, a1, a2, a3, a4, a5, a6⟩ := rzBr_top r.2.2 r.1
  have e1 := h.2.2.1
  have e : ∀ j : Int, 0 ≤ j → j < (c.1 : Int) → S 489 j = rkPo c j := fun j x y => (h.2.2.2.2.1 j x y).1
  have hc := a3.2.1 (Or.inr rfl)
  rw [e1] at hc
  obtain ⟨lo, l0, l1, l2, l3⟩ := rkCm_lo hc
  refine rkRed_th (lo := lo) (by omega) l0 l1 (fun j x y => ?_) ?_
  · rw [← e j (by omega) y]
    exact rkBd_sum (l2 j x y)
  · rcases l3 with l3 | l3
    · exact Or.inl l3
    · by_cases hl : lo = -1
      · exact Or.inl hl
      · refine Or.inr ?_
        have w := hW.2.1 lo (by omega) l1
        rw [e lo (by omega) l1] at l3
        exact rkBd_28 (by omega)
/-! a token's part in it, by the reference's signs -/
section RKSM
variable {T : Int → Int} {n : Int} {ws : List (List Int)} {f s : Int} {rest : List Int} {c : rkC}
theorem rkSt_sg (h0 : rzL (T f) = false) (h1 : T f ≠ 93) (h2 : T f ≠ 41) : rkSt T n ws f (s :: rest) true c = (if T f = 43 then rkPush 20 0 (rkRed 5 c) else if T f = 45 then rkPush 21 0 (rkRed 5 c) else if T f = 42 then rkPush 22 0 (rkRed 6 c) else if T f = 47 then rkPush 23 0 (rkRed 6 c) else if T f = 37 then rkPush 24 0 (rkRed 6 c) else if T f = 60 then rkPush 25 0 (rkRed 4 c) else if T f = 62 then rkPush 26 0 (rkRed 4 c) else rkPush 27 0 (rkRed 4 c)) := by
  have w : ∀ {v : List Int}, rzOkW v = true → ¬ rzIs T n v f = true := fun hv g => by
    have q := ((rzIs_iff hv).mp g).2.1
    rw [h0] at q
    cases q
  have sg : ∀ {x : Int}, T f ≠ x → ¬ rzSg T n x f = true := fun hx g => hx (of_decide_eq_true g : f < n ∧ T f = _).2
  rw [rkSt_1, if_neg fun g => sg h1 g.2.2, if_neg fun g => sg h2 g.2.2, if_neg fun g => w (by decide) g.2, if_neg fun g => w (by decide) g.2]
theorem rkSt_an (h : rzIs T n rzW_and f = true) (hs : s = 3 ∨ s = 4) : rkSt T n ws f (s :: rest) true c = rkPush 29 (rkM (rkRed 2 c)) (rkEmit 29 0 (rkRed 2 c)) := by
  have hl := ((rzIs_iff (by decide)).mp h).2.1
  have sg : ∀ {x : Int}, rzL x = false → ¬ rzSg T n x f = true := fun hx g => by
    rw [(of_decide_eq_true g : f < n ∧ T f = _).2, hx] at hl
    cases hl
  rw [rkSt_1, if_neg fun g => sg (by decide) g.2.2, if_neg fun g => sg (by decide) g.2.2, if_pos ⟨hs, h⟩]
theorem rkSt_or (h : rzIs T n rzW_or f = true) (hs : s = 3 ∨ s = 4) : rkSt T n ws f (s :: rest) true c = rkPush 30 (rkM (rkRed 1 c)) (rkEmit 30 0 (rkRed 1 c)) := by
  have hl := ((rzIs_iff (by decide)).mp h).2.1
  have sg : ∀ {x : Int}, rzL x = false → ¬ rzSg T n x f = true := fun hx g => by
    rw [(of_decide_eq_true g : f < n ∧ T f = _).2, hx] at hl
    cases hl
  have na : ¬ rzIs T n rzW_and f = true := fun g => by
    have e := rzIs_u h (v := rzW_and)
    rw [g] at e
    exact absurd e.symm (by decide)
  rw [rkSt_1, if_neg fun g => sg (by decide) g.2.2, if_neg fun g => sg (by decide) g.2.2, if_neg fun g => na g.2, if_pos ⟨hs, h⟩]
end RKSM
/-- what a turn makes of the reference's rows -/
def rkTq (S0 S : Nat → Int → Int) (lv : List Int) (pr : Bool) : Prop := S 480 14 = 0 → S 480 9 ≠ S0 480 9 → ∀ (b : Int) (c : rkC), rkMd S0 b c → rkW c → rkMd S b (rkSt (rzCut (S0 485)) (S0 480 8) (rzWr S0) (S0 480 9) lv pr c) ∧ rkFm S0 S b
