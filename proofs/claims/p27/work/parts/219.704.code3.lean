section
noncomputable abbrev rkQ := Int × Int × Int × Option rkC × Option rkC × Option rkC
noncomputable def rkSe (S : Nat → Int → Int) (b : Int) (d : rkC) : Prop := 0 ≤ b ∧ 0 ≤ rkM d ∧ b + rkM d < S 427 0 ∧ S 428 (b + rkM d) = 0 ∧ ∀ i : Int, 0 ≤ i → i < rkM d → S 428 (b + i) = rkEn (rkFo d i) ∧ S 429 (b + i) = rkEi b (rkFo d i) (rkFa d i)
noncomputable def rkOs (S : Nat → Int → Int) (a : Int) : Option rkC → Prop
  | none => a = -1
  | some d => rkSe S a d ∧ rkW d
theorem rkSe_do {S : Nat → Int → Int} {b : Int} {d : rkC} (h : rkDo S b d) (b0 : 0 ≤ b) : rkSe S b d := ⟨b0, h.1, by
  have := h.2.1
  omega, h.2.2.1, h.2.2.2⟩
theorem rkOs_fr {S S_p : Nat → Int → Int} {a : Int} {o : Option rkC} (h : rkOs S a o) (f : rkFr S S_p (S 427 0)) (z : S 427 0 ≤ S_p 427 0) : rkOs S_p a o := by
  cases o with
  | none => exact h
  | some d =>
    obtain ⟨⟨h0, h1, h2, h3, h4⟩, hw⟩ := h
    refine ⟨⟨h0, h1, by omega, (f _ (by omega) (by omega)).1.trans h3, fun i p q => ?_⟩, hw⟩
    obtain ⟨f1, f2⟩ := f (a + i) (by omega) (by omega)
    rw [f1, f2]
    exact h4 i p q
noncomputable def rkCq (S : Nat → Int → Int) (i : Int) (q : rkQ) : Prop := S 431 i = q.1 ∧ S 432 i = q.2.1 ∧ S 433 i = q.2.2.1 ∧ rkOs S (S 434 i) q.2.2.2.1 ∧ rkOs S (S 435 i) q.2.2.2.2.1 ∧ rkOs S (S 436 i) q.2.2.2.2.2
noncomputable def rkCf (S S_p : Nat → Int → Int) (c : Int) : Prop := ∀ p : Nat, 431 ≤ p → p ≤ 436 → ∀ i : Int, 0 ≤ i → i < c → S_p p i = S p i
theorem rkCf_rf {S : Nat → Int → Int} {c : Int} : rkCf S S c := fun _ _ _ _ _ _ => rfl
theorem rkCf.tr {S S1 S2 : Nat → Int → Int} {c : Int} (h : rkCf S S1 c) (g : rkCf S1 S2 c) : rkCf S S2 c := fun p a b i x y => (g p a b i x y).trans (h p a b i x y)
theorem rkCq_fr {S S_p : Nat → Int → Int} {i c : Int} {q : rkQ} (h : rkCq S i q) (i0 : 0 ≤ i) (i1 : i < c) (f : rkFr S S_p (S 427 0)) (z : S 427 0 ≤ S_p 427 0) (g : rkCf S S_p c) : rkCq S_p i q := by
  obtain ⟨h1, h2, h3, h4, h5, h6⟩ := h
  have e := fun (p : Nat) (a : 431 ≤ p) (b : p ≤ 436) => g p a b i i0 i1
  unfold rkCq
  rw [e 431 (by omega) (by omega), e 432 (by omega) (by omega), e 433 (by omega) (by omega), e 434 (by omega) (by omega), e 435 (by omega) (by omega), e 436 (by omega) (by omega)]
  exact ⟨h1, h2, h3, rkOs_fr h4 f z, rkOs_fr h5 f z, rkOs_fr h6 f z⟩
noncomputable def rkPd (S : Nat → Int → Int) : Int → List rkQ → Prop
  | _, [] => True
  | i, q :: L => rkCq S i q ∧ rkPd S (i + 1) L
theorem rkPd_fr {S S_p : Nat → Int → Int} {c : Int} (f : rkFr S S_p (S 427 0)) (z : S 427 0 ≤ S_p 427 0) (g : rkCf S S_p c) : ∀ {L : List rkQ} {i : Int}, 0 ≤ i → i + (L.length : Int) ≤ c → rkPd S i L → rkPd S_p i L
  | [], _, _, _, _ => trivial
  | q :: L, i, i0, hc, h => by
    simp only [List.length_cons] at hc
    exact ⟨rkCq_fr h.1 i0 (by omega) f z g, rkPd_fr f z g (by omega) (by omega) h.2⟩
theorem rkPd_ap {S : Nat → Int → Int} {q : rkQ} : ∀ {L : List rkQ} {i : Int}, rkPd S i L → rkCq S (i + (L.length : Int)) q → rkPd S i (L ++ [q])
  | [], i, _, h => by
    simp only [List.length_nil] at h
    exact ⟨by rw [show i = i + ((0 : Nat) : Int) by omega]; exact h, trivial⟩
  | x :: L, i, g, h => by
    simp only [List.length_cons] at h
    exact ⟨g.1, rkPd_ap g.2 (by rw [show i + 1 + (L.length : Int) = i + ((L.length + 1 : Nat) : Int) by omega]; exact h)⟩
noncomputable def rkIf (T : Int → Int) (n : Int) (ws : List (List Int)) (f lf : Int) (t : Option rkC) : Prop := rzAlt (rzIs T n rzW_if f) (∃ d : rkC, rkEx T n ws 1 (rzN T n f) lf d ∧ t = some d) (t = none)
theorem rkEx_det {T : Int → Int} {n test f lf : Int} {ws : List (List Int)} {d d_p : rkC} (h : rkEx T n ws test f lf d) (h_p : rkEx T n ws test f lf d_p) : d = d_p := rkRes_det h h_p
theorem rzAlt_c {c : Bool} {A B A_p B_p : Prop} (h : rzAlt c A B) (h_p : rzAlt c A_p B_p) : (A ∧ A_p) ∨ (B ∧ B_p) := by
  rcases h with ⟨h1, h2⟩ | ⟨h1, h2⟩ <;> rcases h_p with ⟨g1, g2⟩ | ⟨g1, g2⟩
  · exact Or.inl ⟨h2, g2⟩
  · rw [h1] at g1
    cases g1
  · rw [h1] at g1
    cases g1
  · exact Or.inr ⟨h2, g2⟩
theorem rkIf_det {T : Int → Int} {n f lf : Int} {ws : List (List Int)} {t t_p : Option rkC} (h : rkIf T n ws f lf t) (h_p : rkIf T n ws f lf t_p) : t = t_p := by
  rcases rzAlt_c h h_p with ⟨⟨d, a, b⟩, d_p, a_p, b_p⟩ | ⟨a, b⟩
  · rw [b, b_p, rkEx_det a a_p]
  · rw [a, b]
noncomputable def rkLH (T : Int → Int) (n : Int) (ws : List (List Int)) (f lf : Int) (q : rkQ) : Prop := rzAlt (rzIs T n rzW_bars f) (q = (2, -1, -1, none, none, none)) (∃ d : rkC, rkEx T n ws 0 (rzN T n f) lf d ∧ q = ((if rzIs T n rzW_slips f = true then 0 else 1), -1, -1, some d, none, none))
theorem rkLH_det {T : Int → Int} {n f lf : Int} {ws : List (List Int)} {q q_p : rkQ} (h : rkLH T n ws f lf q) (h_p : rkLH T n ws f lf q_p) : q = q_p := by
  rcases rzAlt_c h h_p with ⟨a, b⟩ | ⟨⟨d, a, b⟩, d_p, a_p, b_p⟩
  · rw [a, b]
  · rw [b, b_p, rkEx_det a a_p]
noncomputable def rkPG (T : Int → Int) (n : Int) (ws : List (List Int)) (f lf : Int) (t : Option rkC) : Prop := rzAlt (rzIs T n rzW_go f) (∃ d : rkC, rkEx T n ws 0 (rzN T n f) lf d ∧ t = some d) (t = none)
theorem rkPG_det {T : Int → Int} {n f lf : Int} {ws : List (List Int)} {t t_p : Option rkC} (h : rkPG T n ws f lf t) (h_p : rkPG T n ws f lf t_p) : t = t_p := by
  rcases rzAlt_c h h_p with ⟨⟨d, a, b⟩, d_p, a_p, b_p⟩ | ⟨a, b⟩
  · rw [b, b_p, rkEx_det a a_p]
  · rw [a, b]
noncomputable def rkPH (T : Int → Int) (n : Int) (ws : List (List Int)) (f lf : Int) (q : rkQ) : Prop := ∃ f1 f2 f3 f4 : Int, f1 = rzN T n f ∧ f2 = rzN T n f1 ∧ f3 = rzN T n f2 ∧ f4 = rzN T n f3 ∧ rzAlt (rzIs T n rzW_hush f4) (q = (4, rzPv T n f1, rzPv T n f3, none, none, none)) (∃ (d : rkC) (r : rzR) (g : Option rkC), rkEx T n ws 0 (rzN T n f4) lf d ∧ rzEx T n ws 0 (rzN T n f4) lf r ∧ rkPG T n ws r.2.1 r.2.2 g ∧ q = (3, rzPv T n f1, rzPv T n f3, some d, g, none))
theorem rkPH_det {T : Int → Int} {n f lf : Int} {ws : List (List Int)} {q q_p : rkQ} (h : rkPH T n ws f lf q) (h_p : rkPH T n ws f lf q_p) : q = q_p := by
  obtain ⟨f1, f2, f3, f4, e1, e2, e3, e4, h⟩ := h
  obtain ⟨g1, g2, g3, g4, k1, k2, k3, k4, h_p⟩ := h_p
  subst e1 e2 e3 e4 k1 k2 k3 k4
  rcases rzAlt_c h h_p with ⟨a, b⟩ | ⟨⟨d, r, g, a1, a2, a3, a4⟩, d_p, r_p, g_p, b1, b2, b3, b4⟩
  · rw [a, b]
  · have e := rzDet_ex r r_p a2 b2
    subst e
    rw [a4, b4, rkEx_det a1 b1, rkPG_det a3 b3]
noncomputable def rkHd (play : Bool) (T : Int → Int) (n : Int) (f lf : Int) (q : rkQ) : Prop := if play = true then rkPH T n rzPn f lf q else rkLH T n rzLn_ f lf q
noncomputable def rzHd (play : Bool) (T : Int → Int) (n : Int) (f lf : Int) (r : rzR) : Prop := if play = true then rzPH T n rzPn f lf r else rzLH T n rzLn_ f lf r
noncomputable def rkWs (play : Bool) : List (List Int) := if play = true then rzPn else rzLn_
noncomputable def rkTx (play : Bool) (T : Int → Int) (n : Int) : Nat → Int → Int → List rkQ → Prop
  | 0, _, _, _ => False
  | c + 1, f, lf, L => ∃ (r r2 : rzR) (q : rkQ) (t : Option rkC) (L_p : List rkQ), rzHd play T n f lf r ∧ rkHd play T n f lf q ∧ rzIf T n (rkWs play) r.2.1 r.2.2 r2 ∧ rkIf T n (rkWs play) r.2.1 r.2.2 t ∧ L = (q.1, q.2.1, q.2.2.1, q.2.2.2.1, q.2.2.2.2.1, t) :: L_p ∧ rzAlt (rzSg T n 59 r2.2.1) (rkTx play T n c (rzN T n r2.2.1) r2.2.2 L_p) (L_p = [])
theorem rzDet_lh {T : Int → Int} {n f lf : Int} {ws : List (List Int)} : rzDet (rzLH T n ws f lf) := rzDet_alt rzDet_eq (rzDet_alt rzDet_ex rzDet_eq)
theorem rzDet_pg {T : Int → Int} {n f lf : Int} {ws : List (List Int)} : rzDet (rzPG T n ws f lf) := rzDet_alt rzDet_ex rzDet_eq
theorem rzDet_ph {T : Int → Int} {n f lf : Int} {ws : List (List Int)} : rzDet (rzPH T n ws f lf) := rzDet_alt (rzDet_alt (rzDet_alt (rzDet_alt (rzDet_alt rzDet_eq (rzDet_alt (rzDet_then rzDet_ex fun _ _ => rzDet_pg) rzDet_eq)) rzDet_eq) rzDet_eq) rzDet_eq) rzDet_eq
theorem rkTx_det {play : Bool} {T : Int → Int} {n : Int} : ∀ {c : Nat} {f lf : Int} {L L2 : List rkQ}, rkTx play T n c f lf L → rkTx play T n c f lf L2 → L = L2
  | 0, _, _, _, _, h, _ => h.elim
  | c + 1, f, lf, L, L2, h, h_p => by
    obtain ⟨r, r2, q, t, L_p, a1, a2, a3, a4, a5, a6⟩ := h
    obtain ⟨s, s2, p, u, M_p, b1, b2, b3, b4, b5, b6⟩ := h_p
    have e1 : r = s := by
      unfold rzHd at a1 b1
      cases play
      · exact rzDet_lh r s a1 b1
      · exact rzDet_ph r s a1 b1
    subst e1
    have e2 : q = p := by
      unfold rkHd at a2 b2
      cases play
      · exact rkLH_det a2 b2
      · exact rkPH_det a2 b2
    subst e2
    have e3 := rzDet_if r2 s2 a3 b3
    subst e3
    have e4 := rkIf_det a4 b4
    subst e4
    have e5 : L_p = M_p := by
      rcases rzAlt_c a6 b6 with ⟨x, y⟩ | ⟨x, y⟩
      · exact rkTx_det x y
      · rw [x, y]
    rw [a5, b5, e5]
noncomputable def rkText (play : Bool) (T : Int → Int) (n : Int) (L : List rkQ) : Prop := rkTx play T n 12 (rzF T n 0) 0 L
noncomputable def rkPs (S0 S : Nat → Int → Int) : Prop := S 427 0 = S0 427 0 ∧ S 427 4 = S0 427 4 ∧ rkFr S0 S 400 ∧ rkCf S0 S 12 ∧ (S 427 8 = S0 427 8 ∧ S 427 9 = S0 427 9 ∧ S 427 10 = S0 427 10)
theorem rkPs_rf {S : Nat → Int → Int} : rkPs S S := ⟨rfl, rfl, rkFr_rf, rkCf_rf, rfl, rfl, rfl⟩
theorem rkPs_sm {ms : List (Nat × Nat)} {S0 S S_p : Nat → Int → Int} (h : rkPs S0 S) (hs : bx_same rxL (bx_mdl ms) S S_p) (hk : [(6, 0), (6, 4), (6, 8), (6, 9), (6, 10), (1021, 0), (1022, 0), (1024, 0), (1025, 0), (1026, 0), (1027, 0)].all (fun q => !(bx_mdl ms q.1 q.2)) = true) : rkPs S0 S_p := by
  have hq : ∀ a b : Nat, (a, b) ∈ [(6, 0), (6, 4), (6, 8), (6, 9), (6, 10), (1021, 0), (1022, 0), (1024, 0), (1025, 0), (1026, 0), (1027, 0)] → bx_mdl ms a b = false := fun a b hm => by
    have := List.all_eq_true.mp hk (a, b) hm
    rw [Bool.not_eq_true'] at this
    exact this
  obtain ⟨h1, h2, h3, h4, h5, h6, h7⟩ := h
  refine ⟨(hs 427 0 (by decide) (by decide) (hq 6 0 (by decide))).trans h1, (hs 427 4 (by decide) (by decide) (hq 6 4 (by decide))).trans h2, fun i a b => ⟨(rz_fd hs (p := 428) (n := 400) (c := 1021) (k := 0) (hq 1021 0 (by decide)) (by decide) (by decide +kernel) i a b).trans (h3 i a b).1, (rz_fd hs (p := 429) (n := 400) (c := 1022) (k := 0) (hq 1022 0 (by decide)) (by decide) (by decide +kernel) i a b).trans (h3 i a b).2⟩, fun p a b i x y => Eq.trans ?_ (h4 p a b i x y), (hs 427 8 (by decide) (by decide) (hq 6 8 (by decide))).trans h5, (hs 427 9 (by decide) (by decide) (hq 6 9 (by decide))).trans h6, (hs 427 10 (by decide) (by decide) (hq 6 10 (by decide))).trans h7⟩
  have e : p = 431 ∨ p = 432 ∨ p = 433 ∨ p = 434 ∨ p = 435 ∨ p = 436 := by omega
  rcases e with rfl | rfl | rfl | rfl | rfl | rfl
  · exact rz_fd hs (p := 431) (n := 12) (c := 1024) (k := 0) (hq 1024 0 (by decide)) (by decide) (by decide +kernel) i x y
  · exact rz_fd hs (p := 432) (n := 12) (c := 1025) (k := 0) (hq 1025 0 (by decide)) (by decide) (by decide +kernel) i x y
  · exact rz_fd hs (p := 433) (n := 12) (c := 1026) (k := 0) (hq 1026 0 (by decide)) (by decide) (by decide +kernel) i x y
  · exact rz_fd hs (p := 434) (n := 12) (c := 1027) (k := 0) (hq 1027 0 (by decide)) (by decide) (by decide +kernel) i x y
  · exact rz_fd hs (p := 435) (n := 12) (c := 1027) (k := 0) (hq 1027 0 (by decide)) (by decide) (by decide +kernel) i x y
  · exact rz_fd hs (p := 436) (n := 12) (c := 1027) (k := 0) (hq 1027 0 (by decide)) (by decide) (by decide +kernel) i x y
noncomputable def rkTa (S0 S : Nat → Int → Int) (f : Int) : Prop := S 412 2 = f ∧ S 412 7 = S0 412 7 ∧ rkPs S0 S
theorem rkTa_rf {S : Nat → Int → Int} : rkTa S S (S 412 2) := ⟨rfl, rfl, rkPs_rf⟩
theorem rkTa_ad {ms : List (Nat × Nat)} {S0 S S_p : Nat → Int → Int} {f : Int} (h : rkTa S0 S f) (k : rzKp S0 S) (d : rzDt S) (hs : bx_same rxL (bx_mdl ms) S S_p) (h7 : bx_mdl ms 7 7 = false) (hk : [(6, 0), (6, 4), (6, 8), (6, 9), (6, 10), (1021, 0), (1022, 0), (1024, 0), (1025, 0), (1026, 0), (1027, 0)].all (fun q => !(bx_mdl ms q.1 q.2)) = true) (e2 : S_p 412 2 = rzF (rzCut (S 411)) (S 412 1) (S 412 3)) : rkTa S0 S_p (rzN (rzCut (S0 411)) (S0 412 1) f) := by
  obtain ⟨h1, h2, h3⟩ := h
  refine ⟨?_, (hs 412 7 (by decide) (by decide) h7).trans h2, rkPs_sm h3 hs hk⟩
  rw [e2, d.1, h1, k.1, k.2.1]
  rfl
noncomputable def rkPp (S : Nat → Int → Int) : Prop := S 427 8 = 434 ∧ S 427 9 = 435 ∧ S 427 10 = 436
theorem rkEo_use {S0 S S_p : Nat → Int → Int} {sa sg f : Int} (h : rkEo S S_p sa sg) (ht : rkTa S0 S f) (k : rzKp S0 S) (hsa : sa = 434 ∨ sa = 435 ∨ sa = 436) (hc : 0 < S0 427 4) (hf : S0 427 0 + 1 ≤ f) : rkSs S S_p sa ∧ rkFr S S_p (S0 427 0) ∧ S_p 427 0 ≤ S_p 412 2 ∧ ∃ d : rkC, rkEx (rzCut (S0 411)) (S0 412 1) (rzWs S0) sg f (S0 412 7) d ∧ rkW d ∧ rkDo S_p (S0 427 0) d := by
  obtain ⟨h1, h2, h3⟩ := ht
  obtain ⟨g1, g2, g3, d, g4, g5, g6⟩ := h hsa (by rw [h3.2.1]; exact hc) (by rw [h3.1, h1]; exact hf)
  rw [h3.1] at g2 g6
  rw [k.1, k.2.1, k.ws, h1, h2] at g4
  exact ⟨g1, g2, g3, d, g4, g5, g6⟩
noncomputable def rkIo (S0 S : Nat → Int → Int) : Prop := rkPp S0 → 0 < S0 427 4 → S0 427 4 ≤ 12 → 0 ≤ S0 427 0 → S0 427 0 ≤ 400 → S0 427 0 ≤ S0 412 2 → S0 436 (S0 427 4 - 1) = -1 → S 427 4 = S0 427 4 ∧ S0 427 0 ≤ S 427 0 ∧ S 427 0 ≤ S 412 2 ∧ rkFr S0 S (S0 427 0) ∧ (∀ p : Nat, 431 ≤ p → p ≤ 436 → ∀ i : Int, 0 ≤ i → i < 12 → ¬ (p = 436 ∧ i = S0 427 4 - 1) → S p i = S0 p i) ∧ rkPp S ∧ ∃ t : Option rkC, rkIf (rzCut (S0 411)) (S0 412 1) (rzWs S0) (S0 412 2) (S0 412 7) t ∧ rkOs S (S 436 (S0 427 4 - 1)) t
theorem rkIo_n {S0 S : Nat → Int → Int} (h : rkTa S0 S (S0 412 2)) (hb : rzIs (rzCut (S0 411)) (S0 412 1) rzW_if (S0 412 2) = false) : rkIo S0 S := fun hp h1 h2 z0 z4 h3 h4 => by
  obtain ⟨a1, a2, a3, a4, a5, a6, a7⟩ := h
  refine ⟨a4, by omega, by omega, fun i x y => a5 i x (by omega), fun p x y i u v _ => a6 p x y i u v, ⟨a7.1.trans hp.1, a7.2.1.trans hp.2.1, a7.2.2.trans hp.2.2⟩, none, rzAlt_n hb rfl, ?_⟩
  exact (a6 436 (by omega) (by omega) _ (by omega) (by omega)).trans h4
theorem rkIo_y {ms : List (Nat × Nat)} {S0 S S_p : Nat → Int → Int} {sa : Int} (hb : rzIs (rzCut (S0 411)) (S0 412 1) rzW_if (S0 412 2) = true) (h : rkTa S0 S (rzN (rzCut (S0 411)) (S0 412 1) (S0 412 2))) (k : rzKp S0 S) (hs : bx_same rxL (bx_mdl ms) S S_p) (hk : [(6, 8), (6, 9), (6, 10), (1024, 0), (1025, 0), (1026, 0)].all (fun q => !(bx_mdl ms q.1 q.2)) = true) (esa : sa = S0 427 10) (g : rkEo S S_p sa 1) : rkIo S0 S_p := fun hp h1 h2 z0 z4 h3 h4 => by
  have hq : ∀ a b : Nat, (a, b) ∈ [(6, 8), (6, 9), (6, 10), (1024, 0), (1025, 0), (1026, 0)] → bx_mdl ms a b = false := fun a b hm => by
    have := List.all_eq_true.mp hk (a, b) hm
    rw [Bool.not_eq_true'] at this
    exact this
  have e36 : sa = 436 := esa.trans hp.2.2
  have bN := rzN_ao hb (by decide)
  have eN : ((rzW_if.length : Nat) : Int) = 2 := rfl
  obtain ⟨g1, g2, g3, d, g4, g5, g6⟩ := rkEo_use g h k (Or.inr (Or.inr e36)) h1 (by omega)
  obtain ⟨-, -, a3, a4, a5, a6, a7⟩ := h
  have z := g6.2.1
  have m0 := g6.1
  have hp_p : rkPp S_p := ⟨((hs 427 8 (by decide) (by decide) (hq 6 8 (by decide))).trans a7.1).trans hp.1, ((hs 427 9 (by decide) (by decide) (hq 6 9 (by decide))).trans a7.2.1).trans hp.2.1, ((hs 427 10 (by decide) (by decide) (hq 6 10 (by decide))).trans a7.2.2).trans hp.2.2⟩
  refine ⟨g1.1.trans a4, by omega, by omega, fun i x y => ⟨(g2 i x y).1.trans (a5 i x (by omega)).1, (g2 i x y).2.trans (a5 i x (by omega)).2⟩, fun p x y i u v nn => ?_, hp_p, some d, rzAlt_y hb ⟨d, g4, rfl⟩, ?_⟩
  · have e : p = 431 ∨ p = 432 ∨ p = 433 ∨ (p = 434 ∨ p = 435 ∨ p = 436) := by omega
    refine Eq.trans ?_ (a6 p x y i u v)
    rcases e with rfl | rfl | rfl | e
    · exact rz_fd hs (p := 431) (n := 12) (c := 1024) (k := 0) (hq 1024 0 (by decide)) (by decide) (by decide +kernel) i u v
    · exact rz_fd hs (p := 432) (n := 12) (c := 1025) (k := 0) (hq 1025 0 (by decide)) (by decide) (by decide +kernel) i u v
    · exact rz_fd hs (p := 433) (n := 12) (c := 1026) (k := 0) (hq 1026 0 (by decide)) (by decide) (by decide +kernel) i u v
    · rw [g1.2 p e i u v, if_neg]
      rintro ⟨c1, c2⟩
      exact nn ⟨by omega, by omega⟩
  · rw [g1.2 436 (Or.inr (Or.inr rfl)) _ (by omega) (by omega), if_pos ⟨e36.symm, by omega⟩, a3]
    exact ⟨rkSe_do g6 z0, g5⟩
noncomputable def rkOc (S : Nat → Int → Int) (ki st cu : Int) : Nat → Int → Int := bx_up (bx_up (bx_up (bx_up (bx_up (bx_up (bx_up S 431 (S 427 4) ki) 432 (S 427 4) st) 433 (S 427 4) cu) 434 (S 427 4) (-1)) 435 (S 427 4) (-1)) 436 (S 427 4) (-1)) 427 4 (S 427 4 + 1)
noncomputable def rkCw (S0 S : Nat → Int → Int) (q : rkQ) : Prop := S 427 4 = S0 427 4 + 1 ∧ S0 427 0 ≤ S 427 0 ∧ S 427 0 ≤ S 412 2 ∧ rkFr S0 S (S0 427 0) ∧ rkCf S0 S (S0 427 4) ∧ rkPp S ∧ rkCq S (S0 427 4) q
noncomputable def rkPr (S0 : Nat → Int → Int) : Prop := rkPp S0 ∧ 0 ≤ S0 427 4 ∧ S0 427 4 ≤ 11 ∧ 0 ≤ S0 427 0 ∧ S0 427 0 ≤ 400 ∧ S0 427 0 ≤ S0 412 2
noncomputable def rkHo (H : rkQ → Prop) (S0 S : Nat → Int → Int) : Prop := rkPr S0 → ∃ q : rkQ, H q ∧ rkCw S0 S q
theorem rkCw_oc {S0 S S_p : Nat → Int → Int} {f ki st cu : Int} (hp : rkPr S0) (h : rkTa S0 S f) (hf : S0 412 2 ≤ f) (e : rkPp S → 0 ≤ S 427 4 → S 427 4 ≤ 11 → S_p = rkOc S ki st cu) : rkCw S0 S_p (ki, st, cu, none, none, none) ∧ S_p 412 2 = f ∧ S_p 412 7 = S0 412 7 ∧ S_p 427 0 = S0 427 0 ∧ rkPp S_p := by
  obtain ⟨p1, p2, p3, p4, p5, p6⟩ := hp
  obtain ⟨h1, h2, a3, a4, a5, a6, a7⟩ := h
  have pp : rkPp S := ⟨a7.1.trans p1.1, a7.2.1.trans p1.2.1, a7.2.2.trans p1.2.2⟩
  have e := e pp (by omega) (by omega)
  subst e
  have x : ∀ (p : Nat) (i : Int), ¬ (431 ≤ p ∧ p ≤ 436 ∧ i = S 427 4) → ¬ (p = 427 ∧ i = 4) → rkOc S ki st cu p i = S p i := fun p i n1 n2 => by
    unfold rkOc
    rw [bx_up_ne n2, bx_up_ne (by omega), bx_up_ne (by omega), bx_up_ne (by omega), bx_up_ne (by omega), bx_up_ne (by omega), bx_up_ne (by omega)]
  have y4 : rkOc S ki st cu 427 4 = S 427 4 + 1 := bx_up_at
  have r1 : rkOc S ki st cu 431 (S 427 4) = ki := by
    unfold rkOc
    rw [bx_up_ne (by omega), bx_up_ne (by omega), bx_up_ne (by omega), bx_up_ne (by omega), bx_up_ne (by omega), bx_up_ne (by omega), bx_up_at]
  have r2 : rkOc S ki st cu 432 (S 427 4) = st := by
    unfold rkOc
    rw [bx_up_ne (by omega), bx_up_ne (by omega), bx_up_ne (by omega), bx_up_ne (by omega), bx_up_ne (by omega), bx_up_at]
  have r3 : rkOc S ki st cu 433 (S 427 4) = cu := by
    unfold rkOc
    rw [bx_up_ne (by omega), bx_up_ne (by omega), bx_up_ne (by omega), bx_up_ne (by omega), bx_up_at]
  have r4 : rkOc S ki st cu 434 (S 427 4) = -1 := by
    unfold rkOc
    rw [bx_up_ne (by omega), bx_up_ne (by omega), bx_up_ne (by omega), bx_up_at]
  have r5 : rkOc S ki st cu 435 (S 427 4) = -1 := by
    unfold rkOc
    rw [bx_up_ne (by omega), bx_up_ne (by omega), bx_up_at]
  have r6 : rkOc S ki st cu 436 (S 427 4) = -1 := by
    unfold rkOc
    rw [bx_up_ne (by omega), bx_up_at]
  have z0 : rkOc S ki st cu 427 0 = S 427 0 := x _ _ (by omega) (by omega)
  have z2 : rkOc S ki st cu 412 2 = S 412 2 := x _ _ (by omega) (by omega)
  have z7 : rkOc S ki st cu 412 7 = S 412 7 := x _ _ (by omega) (by omega)
  have pq : rkPp (rkOc S ki st cu) := ⟨(x _ _ (by omega) (by omega)).trans pp.1, (x _ _ (by omega) (by omega)).trans pp.2.1, (x _ _ (by omega) (by omega)).trans pp.2.2⟩
  refine ⟨⟨by omega, by omega, by omega, fun i u v => ⟨(x _ _ (by omega) (by omega)).trans (a5 i u (by omega)).1, (x _ _ (by omega) (by omega)).trans (a5 i u (by omega)).2⟩, fun p u v i b c => (x _ _ (by omega) (by omega)).trans (a6 p u v i b (by omega)), pq, ?_⟩, z2.trans h1, z7.trans h2, z0.trans a3, pq⟩
  rw [← a4]
  exact ⟨r1, r2, r3, r4, r5, r6⟩
theorem rkCw_e {ms : List (Nat × Nat)} {S0 S S_p : Nat → Int → Int} {sa sg : Int} {q : rkQ} (hp : rkPr S0) (h : rkCw S0 S q) (hs : bx_same rxL (bx_mdl ms) S S_p) (hk : [(6, 8), (6, 9), (6, 10), (1024, 0), (1025, 0), (1026, 0)].all (fun q => !(bx_mdl ms q.1 q.2)) = true) (hsa : sa = 434 ∨ sa = 435) (hf : S 427 0 + 1 ≤ S 412 2) (g : rkEo S S_p sa sg) : ∃ d : rkC, rkEx (rzCut (S 411)) (S 412 1) (rzWs S) sg (S 412 2) (S 412 7) d ∧ (sa = 434 → rkCw S0 S_p (q.1, q.2.1, q.2.2.1, some d, q.2.2.2.2.1, q.2.2.2.2.2)) ∧ (sa = 435 → rkCw S0 S_p (q.1, q.2.1, q.2.2.1, q.2.2.2.1, some d, q.2.2.2.2.2)) := by
  have hq : ∀ a b : Nat, (a, b) ∈ [(6, 8), (6, 9), (6, 10), (1024, 0), (1025, 0), (1026, 0)] → bx_mdl ms a b = false := fun a b hm => by
    have := List.all_eq_true.mp hk (a, b) hm
    rw [Bool.not_eq_true'] at this
    exact this
  obtain ⟨p1, p2, p3, p4, p5, p6⟩ := hp
  obtain ⟨c1, c2, c3, c4, c5, c6, c7⟩ := h
  obtain ⟨g1, g2, g3, d, g4, g5, g6⟩ := g (hsa.imp id Or.inl) (by omega) hf
  have z := g6.2.1
  have m0 := g6.1
  have pp : rkPp S_p := ⟨(hs 427 8 (by decide) (by decide) (hq 6 8 (by decide))).trans c6.1, (hs 427 9 (by decide) (by decide) (hq 6 9 (by decide))).trans c6.2.1, (hs 427 10 (by decide) (by decide) (hq 6 10 (by decide))).trans c6.2.2⟩
  have rows : ∀ p : Nat, 431 ≤ p → p ≤ 436 → ∀ i : Int, 0 ≤ i → i < 12 → ¬ ((p : Int) = sa ∧ i = S 427 4 - 1) → S_p p i = S p i := fun p x y i u v nn => by
    have e : p = 431 ∨ p = 432 ∨ p = 433 ∨ (p = 434 ∨ p = 435 ∨ p = 436) := by omega
    rcases e with rfl | rfl | rfl | e
    · exact rz_fd hs (p := 431) (n := 12) (c := 1024) (k := 0) (hq 1024 0 (by decide)) (by decide) (by decide +kernel) i u v
    · exact rz_fd hs (p := 432) (n := 12) (c := 1025) (k := 0) (hq 1025 0 (by decide)) (by decide) (by decide +kernel) i u v
    · exact rz_fd hs (p := 433) (n := 12) (c := 1026) (k := 0) (hq 1026 0 (by decide)) (by decide) (by decide +kernel) i u v
    · rw [g1.2 p e i u v, if_neg nn]
  have cf : rkCf S0 S_p (S0 427 4) := fun p x y i u v => (rows p x y i u (by omega) (by omega)).trans (c5 p x y i u v)
  have fr : rkFr S0 S_p (S0 427 0) := fun i u v => ⟨(g2 i u (by omega)).1.trans (c4 i u v).1, (g2 i u (by omega)).2.trans (c4 i u v).2⟩
  obtain ⟨q1, q2, q3, q4, q5, q6⟩ := c7
  have g1_p := g1.1
  refine ⟨d, g4, fun e => ⟨by omega, by omega, by omega, fr, cf, pp, ?_⟩, fun e => ⟨by omega, by omega, by omega, fr, cf, pp, ?_⟩⟩
  · unfold rkCq
    rw [rows 431 (by omega) (by omega) _ p2 (by omega) (by omega), rows 432 (by omega) (by omega) _ p2 (by omega) (by omega), rows 433 (by omega) (by omega) _ p2 (by omega) (by omega), rows 435 (by omega) (by omega) _ p2 (by omega) (by omega), rows 436 (by omega) (by omega) _ p2 (by omega) (by omega), g1.2 434 (Or.inl rfl) _ p2 (by omega), if_pos ⟨e.symm, by omega⟩]
    exact ⟨q1, q2, q3, ⟨rkSe_do g6 (by omega), g5⟩, rkOs_fr q5 g2 (by omega), rkOs_fr q6 g2 (by omega)⟩
  · unfold rkCq
    rw [rows 431 (by omega) (by omega) _ p2 (by omega) (by omega), rows 432 (by omega) (by omega) _ p2 (by omega) (by omega), rows 433 (by omega) (by omega) _ p2 (by omega) (by omega), rows 434 (by omega) (by omega) _ p2 (by omega) (by omega), rows 436 (by omega) (by omega) _ p2 (by omega) (by omega), g1.2 435 (Or.inr (Or.inl rfl)) _ p2 (by omega), if_pos ⟨e.symm, by omega⟩]
    exact ⟨q1, q2, q3, rkOs_fr q4 g2 (by omega), ⟨rkSe_do g6 (by omega), g5⟩, rkOs_fr q6 g2 (by omega)⟩
theorem rkCw_sm {ms : List (Nat × Nat)} {S0 S S_p : Nat → Int → Int} {q : rkQ} (hp : rkPr S0) (h : rkCw S0 S q) (hs : bx_same rxL (bx_mdl ms) S S_p) (hk : [(6, 0), (6, 4), (6, 8), (6, 9), (6, 10), (1021, 0), (1022, 0), (1024, 0), (1025, 0), (1026, 0), (1027, 0)].all (fun q => !(bx_mdl ms q.1 q.2)) = true) (I0 : bx_Inv rxL S) (e2 : S 412 2 ≤ S_p 412 2) : rkCw S0 S_p q ∧ S_p 427 0 = S 427 0 := by
  obtain ⟨p1, p2, p3, p4, p5, p6⟩ := hp
  obtain ⟨c1, c2, c3, c4, c5, c6, c7⟩ := h
  obtain ⟨a1, a2, a3, a4, a5, a6, a7⟩ := rkPs_sm (S0 := S) rkPs_rf hs hk
  have bz : 0 ≤ S 427 0 ∧ S 427 0 ≤ 400 := I0 427 0 (by decide) (by decide)
  have f : rkFr S S_p (S 427 0) := fun i u v => a3 i u (by omega)
  exact ⟨⟨by omega, by omega, by omega, c4.tr fun i u v => a3 i u (by omega), c5.tr fun p x y i u v => a4 p x y i u (by omega), ⟨a5.trans c6.1, a6.trans c6.2.1, a7.trans c6.2.2⟩, rkCq_fr c7 p2 (show S0 427 4 < 12 by omega) f (by omega) a4⟩, a1⟩
theorem rkHd_n {play : Bool} {T : Int → Int} {n f lf : Int} {q : rkQ} (h : rkHd play T n f lf q) : q.2.2.2.2.2 = none := by
  unfold rkHd at h
  cases play with
  | true =>
    obtain ⟨f1, f2, f3, f4, -, -, -, -, h⟩ := (show rkPH T n rzPn f lf q from h)
    rcases h with ⟨-, h⟩ | ⟨-, d, r, g, -, -, -, h⟩ <;> rw [h]
  | false =>
    have h : rkLH T n rzLn_ f lf q := h
    rcases h with ⟨-, h⟩ | ⟨-, d, -, h⟩ <;> rw [h]
section RKLP
variable (S0 S : Nat → Int → Int) (nb ap cl : Int)
noncomputable def rkLp : Prop := rkPp S0 → ∃ L : List rkQ, S 427 4 = (L.length : Int) ∧ (L.length : Int) = cl ∧ rkPp S ∧ S 427 0 ≤ S 412 2 ∧ rkPd S 0 L ∧ ∀ L_p : List rkQ, rkTx (decide (ap = 1)) (rzCut (S0 411)) nb (12 - cl).toNat (S 412 2) (S 412 7) L_p → rkText (decide (ap = 1)) (rzCut (S0 411)) nb (L ++ L_p)
noncomputable def rkLq : Prop := rkPp S0 → ∃ (L : List rkQ) (q : rkQ) (f lf : Int) (r : rzR), S 427 4 = (L.length : Int) + 1 ∧ (L.length : Int) = cl ∧ rkPp S ∧ S 427 0 ≤ S 412 2 ∧ rkPd S 0 L ∧ rkCq S cl q ∧ q.2.2.2.2.2 = none ∧ rzHd (decide (ap = 1)) (rzCut (S0 411)) nb f lf r ∧ rkHd (decide (ap = 1)) (rzCut (S0 411)) nb f lf q ∧ S 412 2 = r.2.1 ∧ S 412 7 = r.2.2 ∧ ∀ L_p : List rkQ, rkTx (decide (ap = 1)) (rzCut (S0 411)) nb (12 - cl).toNat f lf L_p → rkText (decide (ap = 1)) (rzCut (S0 411)) nb (L ++ L_p)
noncomputable def rkLr : Prop := rkPp S0 → ∃ L : List rkQ, S 427 4 = (L.length : Int) ∧ (L.length : Int) = cl + 1 ∧ rkPp S ∧ S 427 0 ≤ S 412 2 ∧ rkPd S 0 L ∧ ∀ L_p : List rkQ, rzAlt (rzSg (rzCut (S0 411)) nb 59 (S 412 2)) (rkTx (decide (ap = 1)) (rzCut (S0 411)) nb (11 - cl).toNat (rzN (rzCut (S0 411)) nb (S 412 2)) (S 412 7) L_p) (L_p = []) → rkText (decide (ap = 1)) (rzCut (S0 411)) nb (L ++ L_p)
end RKLP
theorem rkLq_of {S0 S S_p : Nat → Int → Int} {nb ap cl : Int} {r : rzR} (h : rkLp S0 S nb ap cl) (h0 : 0 ≤ cl) (h11 : cl ≤ 11) (I0 : bx_Inv rxL S) (hr : rzHd (decide (ap = 1)) (rzCut (S0 411)) nb (S 412 2) (S 412 7) r) (p2 : S_p 412 2 = r.2.1) (p7 : S_p 412 7 = r.2.2) (g : rkHo (fun q => rkHd (decide (ap = 1)) (rzCut (S0 411)) nb (S 412 2) (S 412 7) q) S S_p) : rkLq S0 S_p nb ap cl := fun hp => by
  obtain ⟨L, h1, h2, h3, h4, h5, h6⟩ := h hp
  have bz : 0 ≤ S 427 0 ∧ S 427 0 ≤ 400 := I0 427 0 (by decide) (by decide)
  obtain ⟨q, g1, c1, c2, c3, c4, c5, c6, c7⟩ := g ⟨h3, by omega, by omega, bz.1, bz.2, h4⟩
  refine ⟨L, q, S 412 2, S 412 7, r, by omega, h2, c6, c3, rkPd_fr c4 c2 c5 (Int.le_refl 0) (by omega) h5, ?_, rkHd_n g1, hr, g1, p2, p7, h6⟩
  rw [← h2, ← h1]
  exact c7
theorem rkLr_of {S0 S S_p : Nat → Int → Int} {nb ap cl : Int} {r2 : rzR} (h : rkLq S0 S nb ap cl) (h0 : 0 ≤ cl) (h11 : cl ≤ 11) (I0 : bx_Inv rxL S) (eT : rzCut (S 411) = rzCut (S0 411)) (e1 : S 412 1 = nb) (eW : rzWs S = rkWs (decide (ap = 1))) (hr : rzIf (rzCut (S0 411)) nb (rkWs (decide (ap = 1))) (S 412 2) (S 412 7) r2) (p2 : S_p 412 2 = r2.2.1) (p7 : S_p 412 7 = r2.2.2) (g : rkIo S S_p) : rkLr S0 S_p nb ap cl := fun hp => by
  obtain ⟨L, q, f, lf, r, h1, h2, h3, h4, h5, h6, h7, h8, h9, h10, h11_p, h12⟩ := h hp
  have bz : 0 ≤ S 427 0 ∧ S 427 0 ≤ 400 := I0 427 0 (by decide) (by decide)
  have ec : S 427 4 - 1 = cl := by omega
  have h36 : S 436 cl = -1 := by
    have z := h6.2.2.2.2.2
    rw [h7] at z
    exact z
  obtain ⟨g1, g2, g3, g4, g5, g6, t, g7, g8⟩ := g h3 (by omega) (by omega) bz.1 bz.2 h4 (by rw [ec]; exact h36)
  rw [ec] at g5 g8
  rw [eT, e1, eW] at g7
  have cf : rkCf S S_p cl := fun p x y i u v => g5 p x y i u (by omega) (by omega)
  obtain ⟨q1, q2, q3, q4, q5, q6⟩ := h6
  have cq : rkCq S_p cl (q.1, q.2.1, q.2.2.1, q.2.2.2.1, q.2.2.2.2.1, t) := by
    unfold rkCq
    rw [g5 431 (by omega) (by omega) cl h0 (by omega) (by omega), g5 432 (by omega) (by omega) cl h0 (by omega) (by omega), g5 433 (by omega) (by omega) cl h0 (by omega) (by omega), g5 434 (by omega) (by omega) cl h0 (by omega) (by omega), g5 435 (by omega) (by omega) cl h0 (by omega) (by omega)]
    exact ⟨q1, q2, q3, rkOs_fr q4 g4 g2, rkOs_fr q5 g4 g2, g8⟩
  have hl : ((L ++ [((q.1, q.2.1, q.2.2.1, q.2.2.2.1, q.2.2.2.2.1, t) : rkQ)]).length : Int) = (L.length : Int) + 1 := by simp
  refine ⟨L ++ [(q.1, q.2.1, q.2.2.1, q.2.2.2.1, q.2.2.2.2.1, t)], by omega, by omega, g6, g3, rkPd_ap (rkPd_fr g4 g2 cf (Int.le_refl 0) (by omega) h5) (by rw [h2, Int.zero_add]; exact cq), fun L_p hL => ?_⟩
  rw [List.append_assoc]
  refine h12 _ ?_
  rw [show (12 - cl).toNat = (11 - cl).toNat + 1 by omega]
  rw [h10, h11_p] at hr g7
  rw [p2, p7] at hL
  exact ⟨r, r2, q, t, L_p, h8, h9, hr, g7, rfl, hL⟩
end
section
theorem rkTop_m {c : rkC} : rkM c ≤ rkM (rkTop c) := by
  unfold rkTop
  by_cases hj : rkPo c ((c.1 : Int) - 1) = 29 ∨ rkPo c ((c.1 : Int) - 1) = 30
  · rw [if_pos hj]
    exact Int.le_refl _
  · rw [if_neg hj]
    show rkM c ≤ rkM c + 1
    omega
theorem rkRd_m {l : Int} : ∀ (k : Nat) (c : rkC), rkM c ≤ rkM (rkRd l k c)
  | 0, c => Int.le_refl _
  | k + 1, c => by
    show rkM c ≤ rkM (if 0 < c.1 ∧ l ≤ rkBd (rkPo c ((c.1 : Int) - 1)) then rkRd l k (rkTop c) else c)
    by_cases g : 0 < c.1 ∧ l ≤ rkBd (rkPo c ((c.1 : Int) - 1))
    · rw [if_pos g]
      exact Int.le_trans rkTop_m (rkRd_m k _)
    · rw [if_neg g]
      exact Int.le_refl _
theorem rkRed_m {l : Int} {c : rkC} : rkM c ≤ rkM (rkRed l c) := rkRd_m _ _
section RKPOS
variable {T : Int → Int} {n : Int} {ws : List (List Int)}
theorem rkSt_m {f : Int} {lv : List Int} {pr : Bool} {c : rkC} : rkM c ≤ rkM (rkSt T n ws f lv pr c) := by
  cases lv with
  | nil => exact Int.le_refl _
  | cons s rest =>
    cases pr with
    | false =>
      rw [rkSt_0]
      (repeat' split) <;> first
        | exact Int.le_refl _
        | exact Int.le_add_one (Int.le_refl _)
    | true =>
      rw [rkSt_1]
      (repeat' split) <;> first
        | exact rkRed_m (l := 1)
        | exact rkRed_m (l := 4)
        | exact rkRed_m (l := 5)
        | exact rkRed_m (l := 6)
        | exact Int.le_add_one (rkRed_m (l := 2))
        | exact Int.le_add_one (rkRed_m (l := 1))
theorem rzStep_pr {f lf f_p lf_p : Int} {lv lv_p : List Int} {q : Nat} {c : rkC} (h : rzStep T n ws f lv false lf = (q, f_p, lv_p, true, lf_p)) : rkM c < rkM (rkSt T n ws f lv false c) ∨ q = 2 := by
  cases lv with
  | nil => exact Or.inr (congrArg (fun z : rzA => z.1) h).symm
  | cons s rest =>
    by_cases h1 : rzDg T n f = true ∨ 0 ≤ rzIxn T n f ws 0
    · refine Or.inl ?_
      rw [rkSt_0]
      by_cases h2 : rzDg T n f = true
      · rw [if_pos h2]
        exact Int.lt_succ _
      · rw [if_neg h2, if_pos (h1.resolve_left h2)]
        exact Int.lt_succ _
    · have h : (if rzDg T n f = true ∨ 0 ≤ rzIxn T n f ws 0 then
        (if 1000 < rzNo T n f ∨ 50 ≤ lf then (2, f, s :: rest, false, lf) else (0, rzN T n f, (if s = 1 then 2 else s) :: rest, true, lf + 1))
        else if s = 1 ∧ rzIs T n rzW_not f = true then (0, rzN T n f, s :: rest, false, lf)
        else if s = 1 ∧ rzSg T n 40 f = true then
          (if rest.length < 8 then (0, rzN T n f, 1 :: 1 :: rest, false, lf) else (2, f, s :: rest, false, lf))
        else if rzSg T n 91 f = true then
          (if rest.length < 8 then (0, rzN T n f, 0 :: (if s = 1 then 2 else s) :: rest, false, lf) else (2, f, s :: rest, false, lf))
        else ((2, f, s :: rest, false, lf) : rzA)) = (q, f_p, lv_p, true, lf_p) := h
      have h := congrArg (fun z : rzA => z.2.2.2.1) h
      rw [if_neg h1] at h
      exfalso
      revert h
      (repeat' split) <;> intro h <;> cases h
theorem rzStep_n1 {f lf f_p lf_p : Int} {lv lv_p : List Int} {pr_p : Bool} : rzStep T n ws f lv false lf ≠ (1, f_p, lv_p, pr_p, lf_p) := fun h => by
  cases lv with
  | nil => cases (congrArg (fun z : rzA => z.1) h)
  | cons s rest =>
    have h : (if rzDg T n f = true ∨ 0 ≤ rzIxn T n f ws 0 then
        (if 1000 < rzNo T n f ∨ 50 ≤ lf then (2, f, s :: rest, false, lf) else (0, rzN T n f, (if s = 1 then 2 else s) :: rest, true, lf + 1))
        else if s = 1 ∧ rzIs T n rzW_not f = true then (0, rzN T n f, s :: rest, false, lf)
        else if s = 1 ∧ rzSg T n 40 f = true then
          (if rest.length < 8 then (0, rzN T n f, 1 :: 1 :: rest, false, lf) else (2, f, s :: rest, false, lf))
        else if rzSg T n 91 f = true then
          (if rest.length < 8 then (0, rzN T n f, 0 :: (if s = 1 then 2 else s) :: rest, false, lf) else (2, f, s :: rest, false, lf))
        else ((2, f, s :: rest, false, lf) : rzA)) = (1, f_p, lv_p, pr_p, lf_p) := h
    have h := congrArg (fun z : rzA => z.1) h
    revert h
    (repeat' split) <;> intro h <;> cases h
theorem rkRun_pos {d : rkC} : ∀ (k : Nat) (f : Int) (lv : List Int) (pr : Bool) (lf : Int) (c : rkC), rkRun T n ws k f lv pr lf c = some d → 0 ≤ rkM c → (pr = true → 0 < rkM c) → 0 < rkM d
  | 0, f, lv, pr, lf, c, h, _, _ => by cases h
  | k + 1, f, lv, pr, lf, c, h, h0, h1 => by
    have h : (match rzStep T n ws f lv pr lf with
      | (0, f_p, lv_p, pr_p, lf_p) => rkRun T n ws k f_p lv_p pr_p lf_p (rkSt T n ws f lv pr c)
      | (1, _, _, _, _) => some (rkRed 1 c)
      | _ => none) = some d := h
    have m := rkSt_m (T := T) (n := n) (ws := ws) (f := f) (lv := lv) (pr := pr) (c := c)
    match hs : rzStep T n ws f lv pr lf, h with
    | (0, f_p, lv_p, pr_p, lf_p), h =>
      refine rkRun_pos k f_p lv_p pr_p lf_p _ h (Int.le_trans h0 m) fun e => ?_
      subst e
      cases pr with
      | true => exact Int.lt_of_lt_of_le (h1 rfl) m
      | false =>
        rcases rzStep_pr (c := c) hs with g | g
        · exact Int.lt_of_le_of_lt h0 g
        · cases g
    | (1, _, _, _, _), h =>
      cases pr with
      | true =>
        have e : rkRed 1 c = d := Option.some.inj h
        rw [← e]
        exact Int.lt_of_lt_of_le (h1 rfl) rkRed_m
      | false => exact absurd hs rzStep_n1
    | (q + 2, _, _, _, _), h => cases h
theorem rkEx_pos {test f lf : Int} {d : rkC} (h : rkEx T n ws test f lf d) : 0 < rkM d := by
  obtain ⟨k, hk⟩ := h
  exact rkRun_pos k f [test] false lf rkC0 hk (Int.le_refl 0) fun g => by cases g
end RKPOS
theorem rkFm_sm {ms : List (Nat × Nat)} {S S_p : Nat → Int → Int} (hs : bx_same rxL (bx_mdl ms) S S_p) (hk : [(1068, 0), (1069, 0)].all (fun q => !(bx_mdl ms q.1 q.2)) = true) : ∀ i : Int, 0 ≤ i → i < 400 → S_p 487 i = S 487 i ∧ S_p 488 i = S 488 i := fun i x y => ⟨rz_fd hs (p := 487) (n := 400) (c := 1068) (k := 0) (rzMs hk (by decide)) (by decide) (by decide +kernel) i x y, rz_fd hs (p := 488) (n := 400) (c := 1069) (k := 0) (rzMs hk (by decide)) (by decide) (by decide +kernel) i x y⟩
noncomputable def rkGz (S : Nat → Int → Int) (a e : Int) : Option rkC → Prop
  | none => e = a
  | some d => 0 ≤ a ∧ 0 < rkM d ∧ e = a + rkM d ∧ rkW d ∧ ∀ i : Int, 0 ≤ i → i < rkM d → S 487 (a + i) = rkFo d i ∧ S 488 (a + i) = rkAi a (rkFo d i) (rkFa d i)
theorem rkGz_fr {S S_p : Nat → Int → Int} {a e m : Int} {o : Option rkC} (h : rkGz S a e o) (f : rkFm S S_p m) (he : e ≤ m) : rkGz S_p a e o := by
  cases o with
  | none => exact h
  | some d =>
    obtain ⟨h0, h1, h2, h3, h4⟩ := h
    refine ⟨h0, h1, h2, h3, fun i p q => ?_⟩
    obtain ⟨f1, f2⟩ := f (a + i) (by omega) (by omega)
    rw [f1, f2]
    exact h4 i p q
theorem rkGz_mo {S : Nat → Int → Int} {b : Int} {d : rkC} (h : rkMo S b d) (hp : 0 < rkM d) (hw : rkW d) : rkGz S b (S 480 18) (some d) := ⟨h.1, hp, h.2.2.1, hw, h.2.2.2⟩
noncomputable def rkCm (S : Nat → Int → Int) (k : Int) (q : rkQ) : Prop := S 486 (8 * k) = q.1 ∧ rkGz S (S 486 (8 * k + 3)) (S 486 (8 * k + 4)) q.2.2.2.1 ∧ rkGz S (S 486 (8 * k + 5)) (S 486 (8 * k + 6)) q.2.2.2.2.2
noncomputable def rkWh (S0 : Nat → Int → Int) (wh : Int) : Prop := (wh = 0 ∧ rzIs (rzCut (S0 485)) (S0 480 8) rzW_slips (S0 480 9) = true ∧ rzIs (rzCut (S0 485)) (S0 480 8) rzW_bars (S0 480 9) = false) ∨ (wh = 1 ∧ rzIs (rzCut (S0 485)) (S0 480 8) rzW_hours (S0 480 9) = true ∧ rzIs (rzCut (S0 485)) (S0 480 8) rzW_bars (S0 480 9) = false) ∨ (wh = 2 ∧ rzIs (rzCut (S0 485)) (S0 480 8) rzW_bars (S0 480 9) = true)
noncomputable def rkL3 (S0 S : Nat → Int → Int) : Prop := S 480 9 = rzN (rzCut (S0 485)) (S0 480 8) (S0 480 9) ∧ S 480 21 = S0 480 21 ∧ S 480 18 = S0 480 18 ∧ rkFm S0 S (S0 480 18)
theorem rkL3_ne {S0 S S_p : Nat → Int → Int} (h : rkL3 S0 S) (e9 : S_p 480 9 = S 480 9) (e21 : S_p 480 21 = S 480 21) (e18 : S_p 480 18 = S 480 18) (e : ∀ i : Int, S_p 487 i = S 487 i ∧ S_p 488 i = S 488 i) : rkL3 S0 S_p := ⟨e9.trans h.1, e21.trans h.2.1, e18.trans h.2.2.1, fun i p q => ⟨(e i).1.trans (h.2.2.2 i p q).1, (e i).2.trans (h.2.2.2 i p q).2⟩⟩
noncomputable def rkHq (S0 : Nat → Int → Int) (q : rkQ) (r : rzR) : Prop := rzLH (rzCut (S0 485)) (S0 480 8) rzLn_ (S0 480 9) (S0 480 21) r ∧ r.1 = true ∧ rkLH (rzCut (S0 485)) (S0 480 8) rzLn_ (S0 480 9) (S0 480 21) q
noncomputable def rkL4 (S0 S : Nat → Int → Int) (base : Int) : Prop := ∃ (q : rkQ) (r : rzR), rkHq S0 q r ∧ S 480 9 = r.2.1 ∧ S 480 21 = r.2.2 ∧ S 486 base = q.1 ∧ rkGz S (S0 480 18) (S 480 18) q.2.2.2.1 ∧ rkFm S0 S (S0 480 18)
theorem rkGz_ne {S S_p : Nat → Int → Int} {a e : Int} {o : Option rkC} (h : rkGz S a e o) (f : ∀ i : Int, S_p 487 i = S 487 i ∧ S_p 488 i = S 488 i) : rkGz S_p a e o := rkGz_fr h (m := e) (fun i _ _ => f i) (Int.le_refl _)
theorem rkL4_ne {S0 S S_p : Nat → Int → Int} {base : Int} (h : rkL4 S0 S base) (e9 : S_p 480 9 = S 480 9) (e21 : S_p 480 21 = S 480 21) (e18 : S_p 480 18 = S 480 18) (eb : S_p 486 base = S 486 base) (e : ∀ i : Int, S_p 487 i = S 487 i ∧ S_p 488 i = S 488 i) : rkL4 S0 S_p base := by
  obtain ⟨q, r, h1, h2, h3, h4, h5, h6⟩ := h
  refine ⟨q, r, h1, e9.trans h2, e21.trans h3, eb.trans h4, ?_, fun i x y => ⟨(e i).1.trans (h6 i x y).1, (e i).2.trans (h6 i x y).2⟩⟩
  rw [e18]
  exact rkGz_ne h5 e
theorem rkL4_bars {S0 S : Nat → Int → Int} {base : Int} (h : rkL3 S0 S) (hw : rkWh S0 (S 486 base)) (h2 : S 486 base = 2) : rkL4 S0 S base := by
  obtain ⟨g1, g2, g3, g4⟩ := h
  rcases hw with v | v | v
  · omega
  · omega
  · exact ⟨(2, -1, -1, none, none, none), (true, rzN (rzCut (S0 485)) (S0 480 8) (S0 480 9), S0 480 21), ⟨rzAlt_y v.2 rfl, rfl, rzAlt_y v.2 rfl⟩, g1, g2, h2, g3, g4⟩
theorem rkL4_ex {S0 S S_p : Nat → Int → Int} {base : Int} (hW : rzWr S0 = rzLn_) (a : rzKr S0 S) (h : rkL3 S0 S) (hw : rkWh S0 (S 486 base)) (h2 : S 486 base ≠ 2) (x : rzXo S S_p 0) (y : rkEm S S_p 0) (z : S_p 480 14 = 0) (e : S_p 486 base = S 486 base) : rkL4 S0 S_p base := by
  obtain ⟨g1, g2, g3, g4⟩ := h
  unfold rzXo at x
  unfold rkEm at y
  rw [a.1, a.2.1, a.w, hW, g1, g2] at x y
  obtain ⟨-, -, r, r1, r2, r3, r4⟩ := x.1 z
  obtain ⟨f, d, d1, d2, d3⟩ := y z
  rw [g3] at f d3
  have gz := rkGz_mo d3 (rkEx_pos d1) d2
  rcases hw with ⟨v1, v2, v3⟩ | ⟨v1, v2, v3⟩ | v
  · refine ⟨(0, -1, -1, some d, none, none), r, ⟨rzAlt_n v3 (rzAlt_y (by rw [v2]; rfl) r1), r2, rzAlt_n v3 ⟨d, d1, by rw [if_pos v2]⟩⟩, r3, r4, e.trans v1, gz, g4.tr f⟩
  · have u := rzIs_u v2 (v := rzW_slips)
    have u : rzIs (rzCut (S0 485)) (S0 480 8) rzW_slips (S0 480 9) = false := u.trans (by decide)
    refine ⟨(1, -1, -1, some d, none, none), r, ⟨rzAlt_n v3 (rzAlt_y (by rw [v2, Bool.or_true]) r1), r2, rzAlt_n v3 ⟨d, d1, by rw [u]; rfl⟩⟩, r3, r4, e.trans v1, gz, g4.tr f⟩
  · exact absurd v.1 h2
noncomputable def rkL5 (S0 S : Nat → Int → Int) (base : Int) : Prop := ∃ (q : rkQ) (r : rzR), rkHq S0 q r ∧ rzIs (rzCut (S0 485)) (S0 480 8) rzW_if r.2.1 = true ∧ S 480 9 = rzN (rzCut (S0 485)) (S0 480 8) r.2.1 ∧ S 480 21 = r.2.2 ∧ S 486 base = q.1 ∧ rkGz S (S0 480 18) (S 480 18) q.2.2.2.1 ∧ rkFm S0 S (S0 480 18)
noncomputable def rkL6 (S0 S : Nat → Int → Int) (base : Int) : Prop := ∃ (q : rkQ) (r : rzR) (t : Option rkC), rkHq S0 q r ∧ rkIf (rzCut (S0 485)) (S0 480 8) rzLn_ r.2.1 r.2.2 t ∧ S 486 base = q.1 ∧ rkGz S (S 486 (base + 3)) (S 486 (base + 4)) q.2.2.2.1 ∧ rkGz S (S 486 (base + 5)) (S 480 18) t ∧ rkFm S0 S (S0 480 18)
theorem rkL5_of {S0 S S_p : Nat → Int → Int} {base : Int} (h : rkL4 S0 S base) (a : rzKr S0 S) (hi : rzIs (rzCut (S 485)) (S 480 8) rzW_if (S 480 9) = true) (e9 : S_p 480 9 = rzN (rzCut (S 485)) (S 480 8) (S 480 9)) (e21 : S_p 480 21 = S 480 21) (e18 : S_p 480 18 = S 480 18) (b18 : S 480 18 ≤ 400) (eb : S_p 486 base = S 486 base) (e : ∀ i : Int, 0 ≤ i → i < 400 → S_p 487 i = S 487 i ∧ S_p 488 i = S 488 i) (b0 : S0 480 18 ≤ 400) : rkL5 S0 S_p base := by
  obtain ⟨q, r, h1, h2, h3, h4, h5, h6⟩ := h
  rw [a.1, a.2.1, h2] at hi e9
  have f : rkFm S S_p 400 := fun i x y => e i x y
  refine ⟨q, r, h1, hi, e9, e21.trans h3, eb.trans h4, ?_, h6.tr fun i x y => e i x (by omega)⟩
  rw [e18]
  exact rkGz_fr h5 f b18
theorem rkL6_no {S0 S : Nat → Int → Int} {base m : Int} (h : rkL4 S0 S base) (hi : rzIs (rzCut (S0 485)) (S0 480 8) rzW_if (S 480 9) = false) (e3 : S 486 (base + 3) = S0 480 18) (e4 : S 486 (base + 4) = m) (e5 : S 486 (base + 5) = m) (em : m = S 480 18) : rkL6 S0 S base := by
  obtain ⟨q, r, h1, h2, h3, h4, h5, h6⟩ := h
  rw [h2] at hi
  refine ⟨q, r, none, h1, rzAlt_n hi rfl, h4, ?_, ?_, h6⟩
  · rw [e3, e4, em]
    exact h5
  · show S 480 18 = S 486 (base + 5)
    omega
theorem rkL6_ex {S0 S S_p : Nat → Int → Int} {base m : Int} (hW : rzWr S0 = rzLn_) (a : rzKr S0 S) (h : rkL5 S0 S base) (e3 : S 486 (base + 3) = S0 480 18) (e4 : S 486 (base + 4) = m) (e5 : S 486 (base + 5) = m) (em : m = S 480 18) (hm : S0 480 18 ≤ m) (y : rkEm S S_p 1) (z : S_p 480 14 = 0) (e : ∀ j : Int, j = base ∨ j = base + 3 ∨ j = base + 4 ∨ j = base + 5 → S_p 486 j = S 486 j) : rkL6 S0 S_p base := by
  obtain ⟨q, r, h1, hi, h2, h3, h4, h5, h6⟩ := h
  unfold rkEm at y
  rw [a.1, a.2.1, a.w, hW, h2, h3] at y
  obtain ⟨f, d, d1, d2, d3⟩ := y z
  refine ⟨q, r, some d, h1, rzAlt_y hi ⟨d, d1, rfl⟩, (e base (Or.inl rfl)).trans h4, ?_, ?_, h6.tr fun i x y => f i x (by omega)⟩
  · rw [e (base + 3) (by omega), e (base + 4) (by omega), e3, e4, em]
    exact rkGz_fr h5 f (Int.le_refl _)
  · rw [e (base + 5) (by omega), e5, em]
    exact rkGz_mo d3 (rkEx_pos d1) d2
noncomputable def rkL7 (S0 S : Nat → Int → Int) : Prop := ∃ (q : rkQ) (r : rzR) (t : Option rkC), rkHq S0 q r ∧ rkIf (rzCut (S0 485)) (S0 480 8) rzLn_ r.2.1 r.2.2 t ∧ rkCm S (S0 480 16) (q.1, q.2.1, q.2.2.1, q.2.2.2.1, q.2.2.2.2.1, t) ∧ rkFm S0 S (S0 480 18) ∧ ∀ j : Int, 0 ≤ j → j < 8 * S0 480 16 → S 486 j = S0 486 j
theorem rkL7_of {S0 S : Nat → Int → Int} {base : Int} (h : rkL6 S0 S base) (eb : base = 8 * S0 480 16) (hr : ∀ j : Int, 0 ≤ j → j < base → S 486 j = S0 486 j) : rkL7 S0 (bx_up S 486 (base + 6) (S 480 18)) := by
  obtain ⟨q, r, t, h1, h2, h3, h4, h5, h6⟩ := h
  have e : ∀ i : Int, bx_up S 486 (base + 6) (S 480 18) 487 i = S 487 i ∧ bx_up S 486 (base + 6) (S 480 18) 488 i = S 488 i := fun i => ⟨bx_up_ne (by omega), bx_up_ne (by omega)⟩
  have g : ∀ j : Int, j ≠ base + 6 → bx_up S 486 (base + 6) (S 480 18) 486 j = S 486 j := fun j hj => bx_up_ne (by omega)
  refine ⟨q, r, t, h1, h2, ⟨?_, ?_, ?_⟩, fun i x y => ⟨(e i).1.trans (h6 i x y).1, (e i).2.trans (h6 i x y).2⟩, fun j x y => (g j (by omega)).trans (hr j x (by omega))⟩
  · rw [← eb, g base (by omega)]
    exact h3
  · rw [← eb, g (base + 3) (by omega), g (base + 4) (by omega)]
    exact rkGz_ne h4 e
  · rw [← eb, g (base + 5) (by omega), bx_up_at]
    exact rkGz_ne h5 e
end
section
theorem rzLC_if {T : Int → Int} {n f lf : Int} {r r2 : rzR} (h : rzLC T n f lf r2) (g : rzLH T n rzLn_ f lf r) (gr : r.1 = true) : rzIf T n rzLn_ r.2.1 r.2.2 r2 := by
  rcases rzAlt_c g h with ⟨a, b⟩ | ⟨a, b⟩
  · subst a
    exact b
  · rcases rzAlt_c a b with ⟨c, d⟩ | ⟨c, d⟩
    · obtain ⟨r1, d1, d2⟩ := d
      have e := rzDet_ex r1 r d1 c
      subst e
      rcases d2 with ⟨z, -⟩ | ⟨-, z⟩
      · rw [gr] at z
        cases z
      · exact z
    · subst c
      cases gr
noncomputable def rkPm (S : Nat → Int → Int) : Int → List rkQ → Prop
  | _, [] => True
  | k, q :: L => rkCm S k q ∧ rkPm S (k + 1) L
noncomputable def rkCs (S : Nat → Int → Int) : Prop := ∀ k : Int, 0 ≤ k → k < S 480 16 → rxCq S (S 486 (8 * k + 3)) (S 486 (8 * k + 4)) ∧ rxCq S (S 486 (8 * k + 5)) (S 486 (8 * k + 6))
theorem rkCm_fr {S S_p : Nat → Int → Int} {k : Int} {q : rkQ} (h : rkCm S k q) (r : ∀ j : Int, 0 ≤ j → j < 8 * S 480 16 → S_p 486 j = S 486 j) (f : rkFm S S_p (S 480 18)) (hc : rkCs S) (k0 : 0 ≤ k) (k1 : k < S 480 16) : rkCm S_p k q := by
  obtain ⟨h1, h2, h3⟩ := h
  obtain ⟨c1, c2⟩ := hc k k0 k1
  refine ⟨(r _ (by omega) (by omega)).trans h1, ?_, ?_⟩
  · rw [r (8 * k + 3) (by omega) (by omega), r (8 * k + 4) (by omega) (by omega)]
    exact rkGz_fr h2 f c1.2.1
  · rw [r (8 * k + 5) (by omega) (by omega), r (8 * k + 6) (by omega) (by omega)]
    exact rkGz_fr h3 f c2.2.1
theorem rkPm_fr {S S_p : Nat → Int → Int} (r : ∀ j : Int, 0 ≤ j → j < 8 * S 480 16 → S_p 486 j = S 486 j) (f : rkFm S S_p (S 480 18)) (hc : rkCs S) : ∀ {L : List rkQ} {k : Int}, 0 ≤ k → k + (L.length : Int) ≤ S 480 16 → rkPm S k L → rkPm S_p k L
  | [], _, _, _, _ => trivial
  | q :: L, k, k0, hl, h => by
    simp only [List.length_cons] at hl
    exact ⟨rkCm_fr h.1 r f hc k0 (by omega), rkPm_fr r f hc (by omega) (by omega) h.2⟩
theorem rkPm_ne {S S_p : Nat → Int → Int} (r : ∀ j : Int, S_p 486 j = S 486 j) (f : ∀ i : Int, S_p 487 i = S 487 i ∧ S_p 488 i = S 488 i) : ∀ {L : List rkQ} {k : Int}, rkPm S k L → rkPm S_p k L
  | [], _, _ => trivial
  | q :: L, k, h => by
    refine ⟨⟨(r _).trans h.1.1, ?_, ?_⟩, rkPm_ne r f h.2⟩
    · rw [r, r]
      exact rkGz_ne h.1.2.1 f
    · rw [r, r]
      exact rkGz_ne h.1.2.2 f
theorem rkPm_ap {S : Nat → Int → Int} {q : rkQ} : ∀ {L : List rkQ} {k : Int}, rkPm S k L → rkCm S (k + (L.length : Int)) q → rkPm S k (L ++ [q])
  | [], k, _, h => by
    simp only [List.length_nil] at h
    exact ⟨by rw [show k = k + ((0 : Nat) : Int) by omega]; exact h, trivial⟩
  | x :: L, k, g, h => by
    simp only [List.length_cons] at h
    exact ⟨g.1, rkPm_ap g.2 (by rw [show k + 1 + (L.length : Int) = k + ((L.length + 1 : Nat) : Int) by omega]; exact h)⟩
noncomputable def rkMp (S0 S : Nat → Int → Int) : Prop := ∃ L : List rkQ, S 480 16 = (L.length : Int) ∧ rkPm S 0 L ∧ ∀ L_p : List rkQ, rkTx false (rzCut (S0 485)) (S0 480 8) (12 - S 480 16).toNat (S 480 9) (S 480 21) L_p → rkText false (rzCut (S0 485)) (S0 480 8) (L ++ L_p)
noncomputable def rkMq (S0 S : Nat → Int → Int) : Prop := ∃ L : List rkQ, S 480 16 = (L.length : Int) ∧ rkPm S 0 L ∧ ∀ L_p : List rkQ, rzAlt (rzSg (rzCut (S0 485)) (S0 480 8) 59 (S 480 9)) (rkTx false (rzCut (S0 485)) (S0 480 8) (12 - S 480 16).toNat (rzN (rzCut (S0 485)) (S0 480 8) (S 480 9)) (S 480 21) L_p) (L_p = []) → rkText false (rzCut (S0 485)) (S0 480 8) (L ++ L_p)
noncomputable def rkMz (S0 S : Nat → Int → Int) : Prop := ∃ L : List rkQ, rkText false (rzCut (S0 485)) (S0 480 8) L ∧ S 480 16 = (L.length : Int) ∧ rkPm S 0 L
theorem rkMp_0 {S0 S : Nat → Int → Int} (e16 : S 480 16 = 0) (e9 : S 480 9 = rzF (rzCut (S0 485)) (S0 480 8) 0) (e21 : S 480 21 = 0) : rkMp S0 S := by
  refine ⟨[], e16, trivial, fun L_p h => ?_⟩
  rw [e16, e9, e21] at h
  exact h
theorem rkMq_of {S0 S S_p : Nat → Int → Int} {P : rzR → Prop} (h : rkMp S0 S) (hc : rkCs S) (eT : rzCut (S 485) = rzCut (S0 485)) (en : S 480 8 = S0 480 8) (b16 : 0 ≤ S 480 16) (g : rkL7 S S_p) (x : rzCo S S_p P) (z : S_p 480 14 = 0) (e16 : S_p 480 16 = S 480 16 + 1) (hP : ∀ r : rzR, P r → r.1 = true → S 480 16 < 12 ∧ rzLC (rzCut (S 485)) (S 480 8) (S 480 9) (S 480 21) r) : rkMq S0 S_p := by
  obtain ⟨L, h1, h2, h3⟩ := h
  obtain ⟨q, r, t, ⟨g1, g2, g3⟩, g4, g5, g6, g7⟩ := g
  obtain ⟨-, -, r2, p1, p2, p3, p4⟩ := x.1 z
  obtain ⟨n12, lc⟩ := hP r2 p1 p2
  have hf := rzLC_if lc g1 g2
  rw [eT, en] at g1 g3 g4 hf
  have hl : ((L ++ [((q.1, q.2.1, q.2.2.1, q.2.2.2.1, q.2.2.2.2.1, t) : rkQ)]).length : Int) = (L.length : Int) + 1 := by simp
  refine ⟨L ++ [(q.1, q.2.1, q.2.2.1, q.2.2.2.1, q.2.2.2.2.1, t)], by omega, rkPm_ap (rkPm_fr g7 g6 hc (Int.le_refl 0) (by omega) h2) (by rw [← h1, Int.zero_add]; exact g5), fun L_p hL => ?_⟩
  rw [List.append_assoc]
  refine h3 _ ?_
  rw [show (12 - S 480 16).toNat = (12 - S_p 480 16).toNat + 1 by omega]
  rw [p3, p4] at hL
  exact ⟨r, r2, q, t, L_p, g1, g3, hf, g4, rfl, hL⟩
theorem rkMp_of {S0 S S_p : Nat → Int → Int} (h : rkMq S0 S) (hs : rzSg (rzCut (S0 485)) (S0 480 8) 59 (S 480 9) = true) (e9 : S_p 480 9 = rzN (rzCut (S0 485)) (S0 480 8) (S 480 9)) (e21 : S_p 480 21 = S 480 21) (e16 : S_p 480 16 = S 480 16) (hp : ∀ L : List rkQ, S 480 16 = (L.length : Int) → rkPm S 0 L → rkPm S_p 0 L) : rkMp S0 S_p := by
  obtain ⟨L, h1, h2, h3⟩ := h
  refine ⟨L, e16.trans h1, hp L h1 h2, fun L_p hL => h3 L_p (rzAlt_y hs ?_)⟩
  rw [e16, e9, e21] at hL
  exact hL
theorem rkMz_of {S0 S S_p : Nat → Int → Int} (h : rkMq S0 S) (hs : rzSg (rzCut (S0 485)) (S0 480 8) 59 (S 480 9) = false) (e16 : S_p 480 16 = S 480 16) (hp : ∀ L : List rkQ, S 480 16 = (L.length : Int) → rkPm S 0 L → rkPm S_p 0 L) : rkMz S0 S_p := by
  obtain ⟨L, h1, h2, h3⟩ := h
  have t := h3 [] (rzAlt_n hs rfl)
  rw [List.append_nil] at t
  exact ⟨L, t, e16.trans h1, hp L h1 h2⟩
theorem rkMz_ne {S0 S S_p : Nat → Int → Int} (h : rkMz S0 S) (e16 : S_p 480 16 = S 480 16) (r : ∀ j : Int, S_p 486 j = S 486 j) (f : ∀ i : Int, S_p 487 i = S 487 i ∧ S_p 488 i = S 488 i) : rkMz S0 S_p := by
  obtain ⟨L, h1, h2, h3⟩ := h
  exact ⟨L, h1, e16.trans h2, rkPm_ne r f h3⟩
theorem rkPm_sm {ms : List (Nat × Nat)} {S S_p : Nat → Int → Int} (hs : bx_same rxL (bx_mdl ms) S S_p) (hk : [(1068, 0), (1069, 0)].all (fun q => !(bx_mdl ms q.1 q.2)) = true) (hr : ∀ j : Int, 0 ≤ j → j < 96 → S_p 486 j = S 486 j) (hc : rkCs S) (b16 : S 480 16 ≤ 12) (b18 : S 480 18 ≤ 400) (L : List rkQ) (hL : S 480 16 = (L.length : Int)) (h : rkPm S 0 L) : rkPm S_p 0 L :=
  rkPm_fr (fun j x y => hr j x (by omega)) (fun i x y => rkFm_sm hs hk i x (by omega)) hc (Int.le_refl 0) (by omega) h
noncomputable def rkGt (R : Int → Int) (b a e : Int) : Option rkC → Prop
  | none => e = a
  | some d => 0 ≤ a ∧ 0 < rkM d ∧ e = a + rkM d ∧ e ≤ 400 ∧ rkW d ∧ ∀ i : Int, 0 ≤ i → i < rkM d → R (b + 98 + 2 * (a + i)) = rkFo d i ∧ R (b + 98 + 2 * (a + i) + 1) = rkAi a (rkFo d i) (rkFa d i)
noncomputable def rkCt (R : Int → Int) (b k : Int) (q : rkQ) : Prop := R (b + 2 + 8 * k) = q.1 ∧ rkGt R b (R (b + 2 + 8 * k + 3)) (R (b + 2 + 8 * k + 4)) q.2.2.2.1 ∧ rkGt R b (R (b + 2 + 8 * k + 5)) (R (b + 2 + 8 * k + 6)) q.2.2.2.2.2
noncomputable def rkPt (R : Int → Int) (b : Int) : Int → List rkQ → Prop
  | _, [] => True
  | k, q :: L => rkCt R b k q ∧ rkPt R b (k + 1) L
noncomputable def rkTr (R : Int → Int) (n : Int) (L : List rkQ) : Prop := R (780 + 900 * n + 1) = (L.length : Int) ∧ (L.length : Int) ≤ 12 ∧ rkPt R (780 + 900 * n) 0 L
theorem rkGt_of {S : Nat → Int → Int} {R : Int → Int} {b a e : Int} {o : Option rkC} (h : rkGz S a e o) (he : e ≤ S 480 18) (h18 : S 480 18 ≤ 400) (ho : ∀ j : Int, 0 ≤ j → j < S 480 18 → R (b + 98 + 2 * j) = S 487 j ∧ R (b + 98 + 2 * j + 1) = S 488 j) : rkGt R b a e o := by
  cases o with
  | none => exact h
  | some d =>
    obtain ⟨h0, h1, h2, h3, h4⟩ := h
    refine ⟨h0, h1, h2, by omega, h3, fun i p q => ?_⟩
    obtain ⟨o1, o2⟩ := ho (a + i) (by omega) (by omega)
    rw [o1, o2]
    exact h4 i p q
theorem rkPt_of {S : Nat → Int → Int} {R : Int → Int} {b : Int} (hc : ∀ j : Int, 0 ≤ j → j < 8 * S 480 16 → R (b + 2 + j) = S 486 j) (ho : ∀ j : Int, 0 ≤ j → j < S 480 18 → R (b + 98 + 2 * j) = S 487 j ∧ R (b + 98 + 2 * j + 1) = S 488 j) (hs : rkCs S) (h18 : S 480 18 ≤ 400) : ∀ {L : List rkQ} {k : Int}, 0 ≤ k → k + (L.length : Int) ≤ S 480 16 → rkPm S k L → rkPt R b k L
  | [], _, _, _, _ => trivial
  | q :: L, k, k0, hl, h => by
    simp only [List.length_cons] at hl
    have e : ∀ c : Int, 0 ≤ c → c < 8 → R (b + 2 + 8 * k + c) = S 486 (8 * k + c) := fun c c0 c1 => by
      rw [show b + 2 + 8 * k + c = b + 2 + (8 * k + c) by omega]
      exact hc (8 * k + c) (by omega) (by omega)
    obtain ⟨c1, c2⟩ := hs k k0 (by omega)
    obtain ⟨⟨g1, g2, g3⟩, g4⟩ := h
    refine ⟨⟨(hc (8 * k) (by omega) (by omega)).trans g1, ?_, ?_⟩, rkPt_of hc ho hs h18 (by omega) (by omega) g4⟩
    · rw [e 3 (by omega) (by omega), e 4 (by omega) (by omega)]
      exact rkGt_of g2 c1.2.1 h18 ho
    · rw [e 5 (by omega) (by omega), e 6 (by omega) (by omega)]
      exact rkGt_of g3 c2.2.1 h18 ho
theorem rkGt_cg {R R_p : Int → Int} {b a e : Int} {o : Option rkC} (h : rkGt R b a e o) (hr : ∀ j : Int, b ≤ j → j < b + 900 → R_p j = R j) : rkGt R_p b a e o := by
  cases o with
  | none => exact h
  | some d =>
    obtain ⟨h0, h1, h2, h3, h4, h5⟩ := h
    refine ⟨h0, h1, h2, h3, h4, fun i p q => ?_⟩
    rw [hr _ (by omega) (by omega), hr _ (by omega) (by omega)]
    exact h5 i p q
theorem rkPt_cg {R R_p : Int → Int} {b : Int} (hr : ∀ j : Int, b ≤ j → j < b + 900 → R_p j = R j) : ∀ {L : List rkQ} {k : Int}, 0 ≤ k → k + (L.length : Int) ≤ 12 → rkPt R b k L → rkPt R_p b k L
  | [], _, _, _, _ => trivial
  | q :: L, k, k0, hl, h => by
    simp only [List.length_cons] at hl
    obtain ⟨⟨g1, g2, g3⟩, g4⟩ := h
    refine ⟨⟨(hr _ (by omega) (by omega)).trans g1, ?_, ?_⟩, rkPt_cg hr (by omega) (by omega) g4⟩
    · rw [hr (b + 2 + 8 * k + 3) (by omega) (by omega), hr (b + 2 + 8 * k + 4) (by omega) (by omega)]
      exact rkGt_cg g2 hr
    · rw [hr (b + 2 + 8 * k + 5) (by omega) (by omega), hr (b + 2 + 8 * k + 6) (by omega) (by omega)]
      exact rkGt_cg g3 hr
theorem rkTr_cg {R R_p : Int → Int} {n : Int} {L : List rkQ} (h : rkTr R n L) (hr : ∀ j : Int, 780 + 900 * n ≤ j → j < 780 + 900 * n + 900 → R_p j = R j) : rkTr R_p n L :=
  ⟨(hr _ (by omega) (by omega)).trans h.1, h.2.1, rkPt_cg hr (Int.le_refl 0) (by have := h.2.1; omega) h.2.2⟩
noncomputable def rkLw (S0 S : Nat → Int → Int) : Prop := (S 482 3 = S0 482 3 ∧ ∀ j : Int, 0 ≤ j → j < 6180 → S 482 j = S0 482 j) ∨ (S 482 3 = S0 482 3 + 1 ∧ (∀ j : Int, 0 ≤ j → j < 6180 → j ≠ 3 → (j < 780 + 900 * S0 482 3 ∨ 780 + 900 * S0 482 3 + 900 ≤ j) → S 482 j = S0 482 j) ∧ ∃ L : List rkQ, rkText false (rzCut (S0 485)) (S0 480 8) L ∧ rkTr (S 482) (S0 482 3) L)
noncomputable def rkMt (S0 S : Nat → Int → Int) : Prop := 0 ≤ S0 482 3 ∧ (∀ j : Int, 0 ≤ j → j < 6180 → (j < 780 + 900 * S0 482 3 ∨ 780 + 900 * S0 482 3 + 900 ≤ j) → S 482 j = S0 482 j) ∧ ∃ L : List rkQ, rkText false (rzCut (S0 485)) (S0 480 8) L ∧ rkTr (S 482) (S0 482 3) L
theorem rkMt_of {S0 S : Nat → Int → Int} {base : Int} (h : rkMz S0 S) (hr : rxRx S0 S base) (hc : ∀ j : Int, 0 ≤ j → j < 8 * S 480 16 → S 482 (base + 2 + j) = S 486 j) (ho : ∀ j : Int, 0 ≤ j → j < S 480 18 → S 482 (base + 98 + 2 * j) = S 487 j ∧ S 482 (base + 98 + 2 * j + 1) = S 488 j) (h16 : S 480 16 ≤ 12) (h18 : S 480 18 ≤ 400) : rkMt S0 S := by
  obtain ⟨L, h1, h2, h3⟩ := h
  obtain ⟨r1, r2, r3, r4, r5, r6, r7⟩ := hr
  subst r5
  exact ⟨r6, r1, L, h1, r2.trans h2, by omega, rkPt_of hc ho r3 h18 (Int.le_refl 0) (by omega) h3⟩
theorem rkLw_of {S0 S : Nat → Int → Int} {v : Int} (h : rkMt S0 S) (e : v = S0 482 3 + 1) : rkLw S0 (bx_up S 482 3 v) := by
  obtain ⟨h0, h1, L, h2, h3⟩ := h
  refine Or.inr ⟨bx_up_at.trans e, fun j x y n3 z => (bx_up_ne (by omega)).trans (h1 j x y z), L, h2, rkTr_cg h3 fun j x y => bx_up_ne (by omega)⟩
theorem rkLw_ne {S0 S S_p : Nat → Int → Int} (h : rkLw S0 S) (e : ∀ j : Int, S_p 482 j = S 482 j) : rkLw S0 S_p := by
  have e : S_p 482 = S 482 := funext e
  unfold rkLw
  rw [e]
  exact h
end
section
noncomputable def rkWl (po pa : Int → Int) : Nat → List (Int × Int)
  | 0 => []
  | k + 1 => (po (k : Int), pa (k : Int)) :: rkWl po pa k
noncomputable abbrev rkWc (c : rkC) : List (Int × Int) := rkWl (rkPo c) (rkPa c) c.1
theorem rkWl_cg {po pa po_p pa_p : Int → Int} : ∀ {k : Nat}, (∀ j : Int, j < (k : Int) → po_p j = po j ∧ pa_p j = pa j) → rkWl po_p pa_p k = rkWl po pa k
  | 0, _ => rfl
  | k + 1, h => by
    show (po_p (k : Int), pa_p (k : Int)) :: rkWl po_p pa_p k = (po (k : Int), pa (k : Int)) :: rkWl po pa k
    rw [(h k (by omega)).1, (h k (by omega)).2, rkWl_cg fun j hj => h j (by omega)]
theorem rkWc_push {op a : Int} {c : rkC} : rkWc (rkPush op a c) = (op, a) :: rkWc c := by
  show (rkUp (rkPo c) (c.1 : Int) op (c.1 : Int), rkUp (rkPa c) (c.1 : Int) a (c.1 : Int)) :: rkWl (rkUp (rkPo c) (c.1 : Int) op) (rkUp (rkPa c) (c.1 : Int) a) c.1 = _
  rw [rkUp_at, rkUp_at, rkWl_cg (po := rkPo c) (pa := rkPa c) fun j hj => ⟨rkUp_ne (by omega), rkUp_ne (by omega)⟩]
theorem rkWc_emit {op a : Int} {c : rkC} : rkWc (rkEmit op a c) = rkWc c := rfl
theorem rkWc_cons {c : rkC} {x : Int × Int} {W : List (Int × Int)} (h : rkWc c = x :: W) : 0 < c.1 ∧ rkPo c ((c.1 : Int) - 1) = x.1 ∧ rkPa c ((c.1 : Int) - 1) = x.2 ∧ rkWc (rkPop c) = W ∧ rkWc (rkTop c) = W := by
  obtain ⟨k, po, pa, r⟩ := c
  cases k with
  | zero => cases h
  | succ k =>
    have h : (po (k : Int), pa (k : Int)) :: rkWl po pa k = x :: W := h
    have h1 : (po (k : Int), pa (k : Int)) = x := (List.cons.inj h).1
    have h2 : rkWl po pa k = W := (List.cons.inj h).2
    have e : ((k + 1 : Nat) : Int) - 1 = (k : Int) := by omega
    refine ⟨Nat.succ_pos k, ?_, ?_, h2, ?_⟩
    · show po (((k + 1 : Nat) : Int) - 1) = x.1
      rw [e, ← h1]
    · show pa (((k + 1 : Nat) : Int) - 1) = x.2
      rw [e, ← h1]
    · unfold rkTop
      split
      · exact h2
      · exact h2
theorem rkWc_nil {c : rkC} (h : rkWc c = []) : c.1 = 0 := by
  obtain ⟨k, po, pa, r⟩ := c
  cases k with
  | zero => rfl
  | succ k => cases h
noncomputable def rkLf : List (Int × Int) → List Bool
  | [] => []
  | x :: W => if 20 ≤ x.1 ∧ x.1 ≤ 27 then false :: rkLf W else rkLf W
theorem rkLf_y {x : Int × Int} {W : List (Int × Int)} (h : 20 ≤ x.1 ∧ x.1 ≤ 27) : rkLf (x :: W) = false :: rkLf W := if_pos h
theorem rkLf_n {x : Int × Int} {W : List (Int × Int)} (h : 28 ≤ x.1) : rkLf (x :: W) = rkLf W := if_neg (by omega)
noncomputable def rkLo (τ : Int → List Bool) (fo fa : Int → Int) : Int → List (Int × Int) → Prop
  | _, [] => True
  | m, x :: W => if x.1 = 29 ∨ x.1 = 30 then 0 ≤ x.2 ∧ x.2 < m ∧ fo x.2 = x.1 ∧ fa x.2 = 0 ∧ τ x.2 = true :: rkLf W ∧ rkLo τ fo fa x.2 W else rkLo τ fo fa m W
theorem rkLo_cg {τ τ' : Int → List Bool} {fo fo_p fa fa_p : Int → Int} : ∀ {W : List (Int × Int)} {m m_p : Int}, (∀ j : Int, 0 ≤ j → j < m → τ' j = τ j ∧ fo_p j = fo j ∧ fa_p j = fa j) → m ≤ m_p → rkLo τ fo fa m W → rkLo τ' fo_p fa_p m_p W
  | [], _, _, _, _, _ => trivial
  | x :: W, m, m_p, e, hm, h => by
    unfold rkLo at h ⊢
    by_cases hx : x.1 = 29 ∨ x.1 = 30
    · rw [if_pos hx] at h ⊢
      obtain ⟨h1, h2, h3, h4, h5, h6⟩ := h
      obtain ⟨e1, e2, e3⟩ := e x.2 h1 h2
      exact ⟨h1, by omega, e2.trans h3, e3.trans h4, e1.trans h5, rkLo_cg (fun j a b => e j a (by omega)) (Int.le_refl _) h6⟩
    · rw [if_neg hx] at h ⊢
      exact rkLo_cg e hm h
theorem rkLo_n {τ : Int → List Bool} {fo fa : Int → Int} {x : Int × Int} {W : List (Int × Int)} {m : Int} (hx : ¬ (x.1 = 29 ∨ x.1 = 30)) : rkLo τ fo fa m (x :: W) ↔ rkLo τ fo fa m W := by
  unfold rkLo
  rw [if_neg hx]
  cases W <;> exact Iff.rfl
noncomputable def rkRu (τ : Int → List Bool) (m i op a : Int) : Prop :=
  (0 ≤ op ∧ op ≤ 8 ∧ τ (i + 1) = false :: τ i) ∨ (20 ≤ op ∧ op ≤ 24 ∧ ∃ t : List Bool, τ i = false :: false :: t ∧ τ (i + 1) = false :: t) ∨ (25 ≤ op ∧ op ≤ 27 ∧ ∃ t : List Bool, τ i = false :: false :: t ∧ τ (i + 1) = true :: t) ∨ (op = 28 ∧ ∃ t : List Bool, τ i = true :: t ∧ τ (i + 1) = true :: t) ∨ ((op = 29 ∨ op = 30) ∧ ∃ t : List Bool, τ i = true :: t ∧ τ (i + 1) = t ∧ (a = 0 ∨ (i < a ∧ a ≤ m ∧ τ a = true :: t)))
theorem rkRl_cg {τ τ' : Int → List Bool} {m m_p i op a : Int} (e : ∀ j : Int, 0 ≤ j → j ≤ m → τ' j = τ j) (hm : m ≤ m_p) (i0 : 0 ≤ i) (i1 : i < m) (h : rkRu τ m i op a) : rkRu τ' m_p i op a := by
  have e0 := e i i0 (by omega)
  have e1 := e (i + 1) (by omega) (by omega)
  unfold rkRu at h ⊢
  rw [e0, e1]
  rcases h with h | h | h | h | ⟨h1, t, h2, h3, h4⟩
  · exact Or.inl h
  · exact Or.inr (Or.inl h)
  · exact Or.inr (Or.inr (Or.inl h))
  · exact Or.inr (Or.inr (Or.inr (Or.inl h)))
  · refine Or.inr (Or.inr (Or.inr (Or.inr ⟨h1, t, h2, h3, ?_⟩)))
    rcases h4 with h4 | ⟨h4, h5, h6⟩
    · exact Or.inl h4
    · exact Or.inr ⟨h4, by omega, (e a (by omega) h5).trans h6⟩
noncomputable def rkCd (fo fa : Int → Int) (m : Int) (W : List (Int × Int)) : Prop := ∀ i : Int, 0 ≤ i → i < m → fo i = 29 ∨ fo i = 30 → fa i = 0 → ∃ x ∈ W, (x.1 = 29 ∨ x.1 = 30) ∧ x.2 = i
noncomputable def rkTz (m : Int) (fo fa : Int → Int) (W : List (Int × Int)) (L : List Bool) : Prop := 0 ≤ m ∧ ∃ τ : Int → List Bool, τ 0 = [] ∧ (∀ i : Int, 0 ≤ i → i < m → rkRu τ m i (fo i) (fa i)) ∧ τ m = L ∧ rkLo τ fo fa m W ∧ rkCd fo fa m W
theorem rkTz_em {m op a : Int} {fo fa : Int → Int} {W : List (Int × Int)} {L : List Bool} (L_p : List Bool) (h : rkTz m fo fa W L) : ∃ τ : Int → List Bool, τ 0 = [] ∧ (∀ i : Int, 0 ≤ i → i < m → rkRu τ (m + 1) i (rkUp fo m op i) (rkUp fa m a i)) ∧ τ m = L ∧ τ (m + 1) = L_p ∧ rkLo τ (rkUp fo m op) (rkUp fa m a) m W ∧ rkCd (rkUp fo m op) (rkUp fa m a) m W := by
  obtain ⟨m0, τ, h1, h2, h3, h4, h5⟩ := h
  have e : ∀ j : Int, j ≠ m + 1 → (fun j : Int => if j = m + 1 then L_p else τ j) j = τ j := fun j hj => if_neg hj
  refine ⟨fun j => if j = m + 1 then L_p else τ j, (e 0 (by omega)).trans h1, fun i i0 i1 => ?_, (e m (by omega)).trans h3, if_pos rfl, rkLo_cg (fun j a b => ⟨e j (by omega), rkUp_ne (by omega), rkUp_ne (by omega)⟩) (Int.le_refl m) h4, fun i i0 i1 hf ha => ?_⟩
  · rw [rkUp_ne (by omega), rkUp_ne (by omega)]
    exact rkRl_cg (fun j a b => e j (by omega)) (by omega) i0 i1 (h2 i i0 i1)
  · rw [rkUp_ne (by omega)] at hf ha
    exact h5 i i0 i1 hf ha
theorem rkTz_ne {m op a : Int} {fo fa : Int → Int} {W W_p : List (Int × Int)} {L : List Bool} (L_p : List Bool) (h : rkTz m fo fa W L) (hn : ¬ (op = 29 ∨ op = 30)) (hr : ∀ τ : Int → List Bool, τ m = L → τ (m + 1) = L_p → rkRu τ (m + 1) m op a) (hl : ∀ (τ : Int → List Bool) (fo fa : Int → Int), rkLo τ fo fa m W → rkLo τ fo fa m W_p) (hc : ∀ x ∈ W, x.1 = 29 ∨ x.1 = 30 → x ∈ W_p) : rkTz (m + 1) (rkUp fo m op) (rkUp fa m a) W_p L_p := by
  have m0 := h.1
  obtain ⟨τ, h1, h2, h3, h4, h5, h6⟩ := rkTz_em (op := op) (a := a) L_p h
  refine ⟨by omega, τ, h1, fun i i0 i1 => ?_, h4, rkLo_cg (fun j _ _ => ⟨rfl, rfl, rfl⟩) (by omega) (hl _ _ _ h5), fun i i0 i1 hf ha => ?_⟩
  · by_cases hi : i = m
    · subst hi
      rw [rkUp_at, rkUp_at]
      exact hr τ h3 h4
    · exact h2 i i0 (by omega)
  · by_cases hi : i = m
    · subst hi
      rw [rkUp_at] at hf
      exact absurd hf hn
    · obtain ⟨x, x1, x2, x3⟩ := h6 i i0 (by omega) hf ha
      exact ⟨x, hc x x1 x2, x2, x3⟩
noncomputable def rkTy (c : rkC) (pr b : Bool) : Prop := rkTz (rkM c) (rkFo c) (rkFa c) (rkWc c) (if pr = true then b :: rkLf (rkWc c) else rkLf (rkWc c))
section RKTY
variable {c : rkC} {x : Int × Int} {W : List (Int × Int)} {op a : Int} {b b_p : Bool}
theorem rkTy_num (h : rkTy c false b) (h0 : 0 ≤ op) (h8 : op ≤ 8) : rkTy (rkEmit op a c) true false := by
  refine rkTz_ne (op := op) (a := a) (W_p := rkWc c) (false :: rkLf (rkWc c)) h (by omega) (fun τ e1 e2 => Or.inl ⟨h0, h8, ?_⟩) (fun _ _ _ q => q) (fun x q _ => q)
  rw [e2, e1]
  rfl
theorem rkTop_ne (hw : rkWc c = x :: W) (hn : ¬ (x.1 = 29 ∨ x.1 = 30)) : rkTop c = rkEmit x.1 0 (rkPop c) := by
  obtain ⟨-, h1, -, -, -⟩ := rkWc_cons hw
  unfold rkTop
  rw [h1, if_neg hn]
theorem rkTy_bin (h : rkTy c true false) (hw : rkWc c = x :: W) (h1 : 20 ≤ x.1) (h2 : x.1 ≤ 27) : rkTy (rkTop c) true (decide (25 ≤ x.1)) := by
  have hn : ¬ (x.1 = 29 ∨ x.1 = 30) := by omega
  obtain ⟨-, -, -, hp, -⟩ := rkWc_cons hw
  rw [rkTop_ne hw hn]
  unfold rkTy at h ⊢
  rw [rkWc_emit, hp]
  rw [hw] at h
  refine rkTz_ne (op := x.1) (a := 0) (decide (25 ≤ x.1) :: rkLf W) h hn (fun τ e1 e2 => ?_) (fun τ fo fa q => (rkLo_n hn).mp q) (fun y q r => ?_)
  · have e1 : τ (rkM c) = false :: rkLf (x :: W) := e1
    rw [rkLf_y ⟨h1, h2⟩] at e1
    by_cases h3 : 25 ≤ x.1
    · rw [decide_eq_true h3] at e2
      exact Or.inr (Or.inr (Or.inl ⟨h3, h2, rkLf W, e1, e2⟩))
    · rw [decide_eq_false h3] at e2
      exact Or.inr (Or.inl ⟨h1, by omega, rkLf W, e1, e2⟩)
  · rcases List.mem_cons.mp q with e | e
    · rw [e] at r
      exact absurd r hn
    · exact e
theorem rkTy_not (h : rkTy c true true) (hw : rkWc c = x :: W) (h1 : x.1 = 28) : rkTy (rkTop c) true true := by
  have hn : ¬ (x.1 = 29 ∨ x.1 = 30) := by omega
  obtain ⟨-, -, -, hp, -⟩ := rkWc_cons hw
  rw [rkTop_ne hw hn]
  unfold rkTy at h ⊢
  rw [rkWc_emit, hp]
  rw [hw] at h
  refine rkTz_ne (op := x.1) (a := 0) (true :: rkLf W) h hn (fun τ e1 e2 => ?_) (fun τ fo fa q => (rkLo_n hn).mp q) (fun y q r => ?_)
  · have e1 : τ (rkM c) = true :: rkLf (x :: W) := e1
    rw [rkLf_n (by omega)] at e1
    exact Or.inr (Or.inr (Or.inr (Or.inl ⟨h1, rkLf W, e1, e2⟩)))
  · rcases List.mem_cons.mp q with e | e
    · rw [e] at r
      exact absurd r hn
    · exact e
theorem rkTy_leap (h : rkTy c true true) (hw : rkWc c = x :: W) (h1 : x.1 = 29 ∨ x.1 = 30) : rkTy (rkTop c) true true := by
  obtain ⟨-, p1, p2, -, hp⟩ := rkWc_cons hw
  have ht : rkTop c = (c.1 - 1, c.2.1, c.2.2.1, c.2.2.2.1, c.2.2.2.2.1, rkUp c.2.2.2.2.2 x.2 c.2.2.2.1) := by
    unfold rkTop
    rw [p1, if_pos h1, p2]
  have e0 : rkM (rkTop c) = rkM c := by rw [ht]
  have e1 : rkFo (rkTop c) = rkFo c := by rw [ht]
  have e2 : rkFa (rkTop c) = rkUp (rkFa c) x.2 (rkM c) := by rw [ht]
  unfold rkTy at h ⊢
  rw [hp, e0, e1, e2]
  rw [hw] at h
  obtain ⟨m0, τ, g1, g2, g3, g4, g5⟩ := h
  have g3 : τ (rkM c) = true :: rkLf (x :: W) := g3
  rw [rkLf_n (by omega)] at g3
  unfold rkLo at g4
  rw [if_pos h1] at g4
  obtain ⟨l1, l2, l3, l4, l5, l6⟩ := g4
  refine ⟨m0, τ, g1, fun i i0 i1 => ?_, g3, rkLo_cg (fun j a b => ⟨rfl, rfl, rkUp_ne (by omega)⟩) (by omega) l6, fun i i0 i1 hf ha => ?_⟩
  · by_cases hi : i = x.2
    · subst hi
      rw [rkUp_at]
      have r := g2 x.2 i0 i1
      unfold rkRu at r ⊢
      rcases r with r | r | r | r | ⟨r1, t, r2, r3, r4⟩
      · omega
      · omega
      · omega
      · omega
      · have et : t = rkLf W := (List.cons.inj (r2.symm.trans l5)).2
        exact Or.inr (Or.inr (Or.inr (Or.inr ⟨r1, t, r2, r3, Or.inr ⟨l2, Int.le_refl _, by rw [et]; exact g3⟩⟩)))
    · rw [rkUp_ne hi]
      exact g2 i i0 i1
  · by_cases hi : i = x.2
    · subst hi
      rw [rkUp_at] at ha
      omega
    · rw [rkUp_ne hi] at ha
      obtain ⟨y, y1, y2, y3⟩ := g5 i i0 i1 hf ha
      rcases List.mem_cons.mp y1 with e | e
      · rw [e] at y3
        exact absurd y3.symm hi
      · exact ⟨y, e, y2, y3⟩
theorem rkTz_W {m : Int} {fo fa : Int → Int} {W W_p : List (Int × Int)} {L : List Bool} (h : rkTz m fo fa W L) (hl : ∀ (τ : Int → List Bool), rkLo τ fo fa m W → rkLo τ fo fa m W_p) (hc : ∀ x ∈ W, x.1 = 29 ∨ x.1 = 30 → x ∈ W_p) : rkTz m fo fa W_p L := by
  obtain ⟨m0, τ, g1, g2, g3, g4, g5⟩ := h
  exact ⟨m0, τ, g1, g2, g3, hl τ g4, fun i i0 i1 hf ha => by
    obtain ⟨y, y1, y2, y3⟩ := g5 i i0 i1 hf ha
    exact ⟨y, hc y y1 y2, y2, y3⟩⟩
theorem rkTy_pu0 (h : rkTy c false b) (ho : op = 28 ∨ 31 ≤ op) : rkTy (rkPush op 0 c) false b_p := by
  have hn : ¬ (((op, 0) : Int × Int).1 = 29 ∨ ((op, 0) : Int × Int).1 = 30) := by
    show ¬ (op = 29 ∨ op = 30)
    omega
  unfold rkTy at h ⊢
  rw [rkWc_push, if_neg (by decide), rkLf_n (by show 28 ≤ op; omega)]
  rw [if_neg (by decide)] at h
  exact rkTz_W h (fun τ q => (rkLo_n hn).mpr q) (fun x q _ => List.mem_cons_of_mem _ q)
theorem rkTy_pu2 (h : rkTy c true false) (h1 : 20 ≤ op) (h2 : op ≤ 27) : rkTy (rkPush op 0 c) false b_p := by
  have hn : ¬ (((op, 0) : Int × Int).1 = 29 ∨ ((op, 0) : Int × Int).1 = 30) := by
    show ¬ (op = 29 ∨ op = 30)
    omega
  unfold rkTy at h ⊢
  rw [rkWc_push, if_neg (by decide), rkLf_y (by show 20 ≤ op ∧ op ≤ 27; omega)]
  rw [if_pos rfl] at h
  exact rkTz_W h (fun τ q => (rkLo_n hn).mpr q) (fun x q _ => List.mem_cons_of_mem _ q)
theorem rkTy_pop (h : rkTy c true b) (hw : rkWc c = x :: W) (hx : 31 ≤ x.1) : rkTy (rkPop c) true b := by
  have hn : ¬ (x.1 = 29 ∨ x.1 = 30) := by omega
  obtain ⟨-, -, -, hp, -⟩ := rkWc_cons hw
  unfold rkTy at h ⊢
  rw [hp]
  rw [hw, rkLf_n (by omega)] at h
  exact rkTz_W h (fun τ q => (rkLo_n hn).mp q) (fun y q r => by
    rcases List.mem_cons.mp q with e | e
    · rw [e] at r
      exact absurd r hn
    · exact e)
theorem rkTy_and (h : rkTy c true true) (ho : op = 29 ∨ op = 30) : rkTy (rkPush op (rkM c) (rkEmit op 0 c)) false b_p := by
  unfold rkTy at h ⊢
  rw [rkWc_push, if_neg (by decide), rkLf_n (by show 28 ≤ op; omega), rkWc_emit]
  rw [if_pos rfl] at h
  have m0 := h.1
  obtain ⟨τ, g1, g2, g3, g4, g5, g6⟩ := rkTz_em (op := op) (a := 0) (rkLf (rkWc c)) h
  show rkTz (rkM c + 1) (rkUp (rkFo c) (rkM c) op) (rkUp (rkFa c) (rkM c) 0) ((op, rkM c) :: rkWc c) (rkLf (rkWc c))
  refine ⟨by omega, τ, g1, fun i i0 i1 => ?_, g4, ?_, fun i i0 i1 hf ha => ?_⟩
  · by_cases hi : i = rkM c
    · rw [hi, rkUp_at, rkUp_at]
      exact Or.inr (Or.inr (Or.inr (Or.inr ⟨ho, rkLf (rkWc c), g3, g4, Or.inl rfl⟩)))
    · exact g2 i i0 (by omega)
  · unfold rkLo
    rw [if_pos (show ((op, rkM c) : Int × Int).1 = 29 ∨ ((op, rkM c) : Int × Int).1 = 30 from ho)]
    exact ⟨m0, by show rkM c < rkM c + 1; omega, rkUp_at, rkUp_at, g3, g5⟩
  · by_cases hi : i = rkM c
    · exact ⟨(op, rkM c), List.mem_cons_self, ho, hi.symm⟩
    · obtain ⟨y, y1, y2, y3⟩ := g6 i i0 (by omega) hf ha
      exact ⟨y, List.mem_cons_of_mem _ y1, y2, y3⟩
end RKTY
noncomputable def rkSu (A : List (Int × Int)) : Prop := ∀ x ∈ A, 20 ≤ x.1 ∧ x.1 ≤ 24
noncomputable def rkAn (A : List (Int × Int)) : Prop := ∀ x ∈ A, 28 ≤ x.1 ∧ x.1 ≤ 30
noncomputable def rkLs (l : Int) (B : List (Int × Int)) : Prop := ∀ x ∈ B.head?, rkBd x.1 < l
theorem rkRed_1 {l : Int} {c : rkC} {x : Int × Int} {W : List (Int × Int)} (hw : rkWc c = x :: W) (h : l ≤ rkBd x.1) : rkRed l c = rkRed l (rkTop c) := by
  obtain ⟨h0, h1, -, -, -⟩ := rkWc_cons hw
  exact rkRed_y h0 (by rw [h1]; exact h)
theorem rkRed_0 {l : Int} {c : rkC} (h : rkLs l (rkWc c)) : rkRed l c = c := by
  refine rkRed_n fun q => ?_
  cases hw : rkWc c with
  | nil =>
    have := rkWc_nil hw
    omega
  | cons x W =>
    obtain ⟨-, h1, -, -, -⟩ := rkWc_cons hw
    rw [hw] at h
    have := h x rfl
    rw [h1] at q
    omega
theorem rkBd_su {v : Int} (h : 20 ≤ v ∧ v ≤ 24) : 5 ≤ rkBd v ∧ rkBd v ≤ 6 := by
  have e : v = 20 ∨ v = 21 ∨ v = 22 ∨ v = 23 ∨ v = 24 := by omega
  rcases e with rfl | rfl | rfl | rfl | rfl <;> decide
theorem rkBd_an {v : Int} (h : 28 ≤ v ∧ v ≤ 30) : 1 ≤ rkBd v ∧ rkBd v ≤ 3 := by
  have e : v = 28 ∨ v = 29 ∨ v = 30 := by omega
  rcases e with rfl | rfl | rfl <;> decide
theorem rkBd_cm {v : Int} (h : 25 ≤ v ∧ v ≤ 27) : rkBd v = 4 := by
  have e : v = 25 ∨ v = 26 ∨ v = 27 := by omega
  rcases e with rfl | rfl | rfl <;> decide
theorem rkRed_su {l : Int} {B : List (Int × Int)} (hB : rkLs l B) : ∀ {A : List (Int × Int)} {c : rkC}, rkWc c = A ++ B → rkSu A → rkTy c true false → ∃ A_p : List (Int × Int), rkWc (rkRed l c) = A_p ++ B ∧ rkSu A_p ∧ rkTy (rkRed l c) true false ∧ (l ≤ 5 → A_p = [])
  | [], c, hw, _, ht => ⟨[], by rw [rkRed_0 (by rw [hw]; exact hB)]; exact hw, fun x q => absurd q List.not_mem_nil, by rw [rkRed_0 (by rw [hw]; exact hB)]; exact ht, fun _ => rfl⟩
  | x :: A, c, hw, hs, ht => by
    have hw : rkWc c = x :: (A ++ B) := hw
    have hx := hs x List.mem_cons_self
    by_cases hl : l ≤ rkBd x.1
    · rw [rkRed_1 hw hl]
      have t := rkTy_bin ht hw hx.1 (by omega)
      rw [decide_eq_false (by omega)] at t
      exact rkRed_su hB (rkWc_cons hw).2.2.2.2 (fun y q => hs y (List.mem_cons_of_mem _ q)) t
    · have n : rkLs l (rkWc c) := by
        rw [hw]
        intro y q
        have e : x = y := Option.some.inj q
        rw [← e]
        omega
      rw [rkRed_0 n]
      refine ⟨x :: A, hw, hs, ht, fun h5 => ?_⟩
      have := (rkBd_su hx).1
      omega
theorem rkRed_an {l : Int} {B : List (Int × Int)} (hB : rkLs l B) : ∀ {A : List (Int × Int)} {c : rkC}, rkWc c = A ++ B → rkAn A → rkTy c true true → ∃ A_p : List (Int × Int), rkWc (rkRed l c) = A_p ++ B ∧ rkAn A_p ∧ rkTy (rkRed l c) true true ∧ (l ≤ 1 → A_p = [])
  | [], c, hw, _, ht => ⟨[], by rw [rkRed_0 (by rw [hw]; exact hB)]; exact hw, fun x q => absurd q List.not_mem_nil, by rw [rkRed_0 (by rw [hw]; exact hB)]; exact ht, fun _ => rfl⟩
  | x :: A, c, hw, hs, ht => by
    have hw : rkWc c = x :: (A ++ B) := hw
    have hx := hs x List.mem_cons_self
    by_cases hl : l ≤ rkBd x.1
    · rw [rkRed_1 hw hl]
      have t : rkTy (rkTop c) true true := by
        by_cases h28 : x.1 = 28
        · exact rkTy_not ht hw h28
        · exact rkTy_leap ht hw (by omega)
      exact rkRed_an hB (rkWc_cons hw).2.2.2.2 (fun y q => hs y (List.mem_cons_of_mem _ q)) t
    · have n : rkLs l (rkWc c) := by
        rw [hw]
        intro y q
        have e : x = y := Option.some.inj q
        rw [← e]
        omega
      rw [rkRed_0 n]
      refine ⟨x :: A, hw, hs, ht, fun h5 => ?_⟩
      have := (rkBd_an hx).1
      omega
theorem rkRed_cmp {l : Int} {C B : List (Int × Int)} {y : Int × Int} (hB : rkLs l B) (hl : l ≤ 4) (hy : 25 ≤ y.1 ∧ y.1 ≤ 27) (hC : rkAn C) : ∀ {A : List (Int × Int)} {c : rkC}, rkWc c = A ++ y :: (C ++ B) → rkSu A → rkTy c true false → ∃ A_p : List (Int × Int), rkWc (rkRed l c) = A_p ++ B ∧ rkAn A_p ∧ rkTy (rkRed l c) true true ∧ (l ≤ 1 → A_p = [])
  | [], c, hw, _, ht => by
    have hw : rkWc c = y :: (C ++ B) := hw
    have t := rkTy_bin ht hw (by omega) hy.2
    rw [decide_eq_true hy.1] at t
    rw [rkRed_1 hw (by rw [rkBd_cm hy]; exact hl)]
    exact rkRed_an hB (rkWc_cons hw).2.2.2.2 hC t
  | x :: A, c, hw, hs, ht => by
    have hw : rkWc c = x :: (A ++ y :: (C ++ B)) := hw
    have hx := hs x List.mem_cons_self
    have t := rkTy_bin ht hw hx.1 (by omega)
    rw [decide_eq_false (by omega)] at t
    rw [rkRed_1 hw (by have := (rkBd_su hx).1; omega)]
    exact rkRed_cmp hB hl hy hC (rkWc_cons hw).2.2.2.2 (fun y q => hs y (List.mem_cons_of_mem _ q)) t
noncomputable def rkSh (s : Int) (A : List (Int × Int)) : Prop := (s = 0 ∧ rkSu A) ∨ (s = 2 ∧ ∃ B C : List (Int × Int), A = B ++ C ∧ rkSu B ∧ rkAn C) ∨ (s = 3 ∧ ∃ (B C : List (Int × Int)) (y : Int × Int), A = B ++ y :: C ∧ rkSu B ∧ (25 ≤ y.1 ∧ y.1 ≤ 27) ∧ rkAn C) ∨ ((s = 1 ∨ s = 4) ∧ rkAn A)
noncomputable def rkLv (test : Int) : List Int → List (Int × Int) → Prop
  | [], _ => False
  | [s], W => rkSh s W ∧ (test = 0 ↔ s = 0)
  | s :: s_p :: r, W => ∃ (A B : List (Int × Int)) (x : Int × Int), W = A ++ x :: B ∧ rkSh s A ∧ ((x.1 = 31 ∧ s ≠ 0 ∧ s_p = 1) ∨ (x.1 = 32 ∧ s = 0 ∧ (s_p = 0 ∨ s_p = 2 ∨ s_p = 3))) ∧ rkLv test (s_p :: r) B
noncomputable def rkBt (test s : Int) (rest : List Int) (B : List (Int × Int)) : Prop := (rest = [] ∧ B = [] ∧ (test = 0 ↔ s = 0)) ∨ ∃ (s_p : Int) (r : List Int) (x : Int × Int) (B_p : List (Int × Int)), rest = s_p :: r ∧ B = x :: B_p ∧ ((x.1 = 31 ∧ s ≠ 0 ∧ s_p = 1) ∨ (x.1 = 32 ∧ s = 0 ∧ (s_p = 0 ∨ s_p = 2 ∨ s_p = 3))) ∧ rkLv test (s_p :: r) B_p
theorem rkLv_y {test s : Int} {rest : List Int} {W : List (Int × Int)} (h : rkLv test (s :: rest) W) : ∃ A B : List (Int × Int), W = A ++ B ∧ rkSh s A ∧ rkBt test s rest B := by
  cases rest with
  | nil => exact ⟨W, [], (List.append_nil W).symm, h.1, Or.inl ⟨rfl, rfl, h.2⟩⟩
  | cons s_p r =>
    obtain ⟨A, B, x, e, h1, h2, h3⟩ := h
    exact ⟨A, x :: B, e, h1, Or.inr ⟨s_p, r, x, B, rfl, rfl, h2, h3⟩⟩
theorem rkLv_of {test s : Int} {rest : List Int} {A B : List (Int × Int)} (h : rkSh s A) (hb : rkBt test s rest B) : rkLv test (s :: rest) (A ++ B) := by
  rcases hb with ⟨e1, e2, e3⟩ | ⟨s_p, r, x, B_p, e1, e2, e3, e4⟩
  · subst e1
    subst e2
    rw [List.append_nil]
    exact ⟨h, e3⟩
  · subst e1
    subst e2
    exact ⟨A, B_p, x, rfl, h, e3, e4⟩
theorem rkBt_s {test s s2 : Int} {rest : List Int} {B : List (Int × Int)} (h : rkBt test s rest B) (e : s = 0 ↔ s2 = 0) : rkBt test s2 rest B := by
  rcases h with ⟨e1, e2, e3⟩ | ⟨s_p, r, x, B_p, e1, e2, e3, e4⟩
  · exact Or.inl ⟨e1, e2, e3.trans e⟩
  · refine Or.inr ⟨s_p, r, x, B_p, e1, e2, ?_, e4⟩
    rcases e3 with ⟨a, b, c⟩ | ⟨a, b, c⟩
    · exact Or.inl ⟨a, fun g => b (e.mpr g), c⟩
    · exact Or.inr ⟨a, e.mp b, c⟩
theorem rkBt_ls {test s l : Int} {rest : List Int} {B : List (Int × Int)} (h : rkBt test s rest B) (hl : 1 ≤ l) : rkLs l B := by
  rcases h with ⟨e1, e2, e3⟩ | ⟨s_p, r, x, B_p, e1, e2, e3, e4⟩
  · subst e2
    intro y q
    cases q
  · subst e2
    intro y q
    have e : x = y := Option.some.inj q
    rw [← e]
    unfold rkBd
    rw [if_pos (by omega)]
    omega
theorem rkLs_ap {l : Int} {C B : List (Int × Int)} (hC : ∀ x ∈ C, rkBd x.1 < l) (hB : rkLs l B) : rkLs l (C ++ B) := by
  cases C with
  | nil => exact hB
  | cons x C =>
    intro y q
    have e : x = y := Option.some.inj q
    rw [← e]
    exact hC x List.mem_cons_self
theorem rkSh_su {s : Int} {A B : List (Int × Int)} (h : rkSh s A) (hs : s = 0 ∨ s = 2 ∨ s = 3) (hB : rkLs 5 B) : ∃ A1 D : List (Int × Int), A = A1 ++ D ∧ rkSu A1 ∧ rkLs 5 (D ++ B) ∧ ∀ A2 : List (Int × Int), rkSu A2 → rkSh s (A2 ++ D) := by
  rcases h with ⟨e, h⟩ | ⟨e, P, C, e2, h1, h2⟩ | ⟨e, P, C, y, e2, h1, h2, h3⟩ | ⟨e, h⟩
  · exact ⟨A, [], (List.append_nil A).symm, h, hB, fun A2 g => Or.inl ⟨e, by rw [List.append_nil]; exact g⟩⟩
  · exact ⟨P, C, e2, h1, rkLs_ap (fun x q => by have := (rkBd_an (h2 x q)).2; omega) hB, fun A2 g => Or.inr (Or.inl ⟨e, A2, C, rfl, g, h2⟩)⟩
  · refine ⟨P, y :: C, e2, h1, ?_, fun A2 g => Or.inr (Or.inr (Or.inl ⟨e, A2, C, y, rfl, g, h2, h3⟩))⟩
    intro z q
    have e : y = z := Option.some.inj q
    rw [← e, rkBd_cm h2]
    omega
  · omega
theorem rkLs_mo {l l_p : Int} {B : List (Int × Int)} (h : rkLs l B) (hl : l ≤ l_p) : rkLs l_p B := fun x q => by
  have := h x q
  omega
theorem rkSh_all {l s test : Int} {rest : List Int} {A B : List (Int × Int)} {c : rkC} (hl : 1 ≤ l) (h2 : l ≤ 2) (hw : rkWc c = A ++ B) (h : rkSh s A) (hs : s = 3 ∨ s = 4) (hB : rkBt test s rest B) (ht : rkTy c true (decide (s = 4))) : ∃ A_p : List (Int × Int), rkWc (rkRed l c) = A_p ++ B ∧ rkAn A_p ∧ rkTy (rkRed l c) true true ∧ (l ≤ 1 → A_p = []) := by
  have hb := rkBt_ls hB hl
  rcases h with ⟨e, h⟩ | ⟨e, P, C, e2, h1, h2⟩ | ⟨e, P, C, y, e2, h1, h3, h4⟩ | ⟨e, h⟩
  · omega
  · omega
  · rw [decide_eq_false (by omega)] at ht
    rw [e2, List.append_assoc] at hw
    exact rkRed_cmp hb (by omega) h3 h4 hw h1 ht
  · rw [decide_eq_true (by omega)] at ht
    exact rkRed_an hb hw h ht
section RKLV
variable {T : Int → Int} {n : Int} {ws : List (List Int)} {f f_p lf lf_p s test : Int} {rest lv_p : List Int} {pr_p : Bool} {c : rkC}
noncomputable def rkIv (test : Int) (c : rkC) (lv : List Int) (pr : Bool) : Prop := ∃ (s : Int) (rest : List Int), lv = s :: rest ∧ rkTy c pr (decide (s = 4)) ∧ rkLv test lv (rkWc c) ∧ (pr = true → s ≠ 1) ∧ (pr = false → s ≠ 4)
theorem rkSh_2 {A : List (Int × Int)} (h : rkSh s A) (h4 : s ≠ 4) : rkSh (if s = 1 then 2 else s) A := by
  by_cases h1 : s = 1
  · rw [if_pos h1]
    rcases h with ⟨e, -⟩ | ⟨e, -⟩ | ⟨e, -⟩ | ⟨-, h⟩
    · omega
    · omega
    · omega
    · exact Or.inr (Or.inl ⟨rfl, [], A, rfl, fun x q => absurd q List.not_mem_nil, h⟩)
  · rw [if_neg h1]
    exact h
theorem rkSh_r {A : List (Int × Int)} (h : rkSh s A) : s = 0 ∨ s = 1 ∨ s = 2 ∨ s = 3 ∨ s = 4 := by
  rcases h with ⟨e, -⟩ | ⟨e, -⟩ | ⟨e, -⟩ | ⟨e, -⟩ <;> omega
theorem rkIv_0 (hw : ws.length ≤ 8) (ht : rkTy c false (decide (s = 4))) (hL : rkLv test (s :: rest) (rkWc c)) (h4 : s ≠ 4) (h : rzStep T n ws f (s :: rest) false lf = (0, f_p, lv_p, pr_p, lf_p)) : rkIv test (rkSt T n ws f (s :: rest) false c) lv_p pr_p := by
  obtain ⟨A, B, eW, hA, hB⟩ := rkLv_y hL
  have hr := rkSh_r hA
  have h : (if rzDg T n f = true ∨ 0 ≤ rzIxn T n f ws 0 then
      (if 1000 < rzNo T n f ∨ 50 ≤ lf then (2, f, s :: rest, false, lf) else (0, rzN T n f, (if s = 1 then 2 else s) :: rest, true, lf + 1))
      else if s = 1 ∧ rzIs T n rzW_not f = true then (0, rzN T n f, s :: rest, false, lf)
      else if s = 1 ∧ rzSg T n 40 f = true then
        (if rest.length < 8 then (0, rzN T n f, 1 :: 1 :: rest, false, lf) else (2, f, s :: rest, false, lf))
      else if rzSg T n 91 f = true then
        (if rest.length < 8 then (0, rzN T n f, 0 :: (if s = 1 then 2 else s) :: rest, false, lf) else (2, f, s :: rest, false, lf))
      else ((2, f, s :: rest, false, lf) : rzA)) = (0, f_p, lv_p, pr_p, lf_p) := h
  rw [rkSt_0]
  by_cases h1 : rzDg T n f = true ∨ 0 ≤ rzIxn T n f ws 0
  · rw [if_pos h1] at h
    by_cases h2 : 1000 < rzNo T n f ∨ 50 ≤ lf
    · rw [if_pos h2] at h
      cases (congrArg (fun z : rzA => z.1) h)
    rw [if_neg h2] at h
    have e1 : (if s = 1 then 2 else s) :: rest = lv_p := congrArg (fun z : rzA => z.2.2.1) h
    have e2 : true = pr_p := congrArg (fun z : rzA => z.2.2.2.1) h
    subst e1
    subst e2
    have s4 : (if s = 1 then 2 else s) ≠ 4 := by split <;> omega
    have s1 : (if s = 1 then 2 else s) ≠ 1 := by split <;> omega
    have sz : s = 0 ↔ (if s = 1 then 2 else s) = 0 := by split <;> omega
    have key : ∀ op a : Int, 0 ≤ op → op ≤ 8 → rkIv test (rkEmit op a c) ((if s = 1 then 2 else s) :: rest) true := fun op a o0 o8 => by
      refine ⟨_, rest, rfl, ?_, ?_, fun _ => s1, fun g => by cases g⟩
      · rw [decide_eq_false s4]
        exact rkTy_num ht o0 o8
      · rw [rkWc_emit, eW]
        exact rkLv_of (rkSh_2 hA h4) (rkBt_s hB sz)
    by_cases h3 : rzDg T n f = true
    · rw [if_pos h3]
      exact key 0 _ (by omega) (by omega)
    · have i0 := h1.resolve_left h3
      have i1 := rzIxn_le (T := T) (n := n) (f := f) (l := ws) (k := 0) (Int.le_refl 0)
      rw [if_neg h3, if_pos i0]
      exact key _ _ (by omega) (by omega)
  rw [if_neg h1] at h
  rw [if_neg fun g => h1 (Or.inl g), if_neg fun g => h1 (Or.inr g)]
  by_cases h2 : s = 1 ∧ rzIs T n rzW_not f = true
  · rw [if_pos h2] at h ⊢
    have e1 : s :: rest = lv_p := congrArg (fun z : rzA => z.2.2.1) h
    have e2 : false = pr_p := congrArg (fun z : rzA => z.2.2.2.1) h
    subst e1
    subst e2
    refine ⟨s, rest, rfl, rkTy_pu0 ht (Or.inl rfl), ?_, fun g => (by cases g), fun _ => h4⟩
    rw [rkWc_push, eW]
    refine rkLv_of (A := (28, 0) :: A) ?_ hB
    rcases hA with ⟨e, -⟩ | ⟨e, -⟩ | ⟨e, -⟩ | ⟨e, h⟩
    · omega
    · omega
    · omega
    · exact Or.inr (Or.inr (Or.inr ⟨e, fun x q => by
        rcases List.mem_cons.mp q with g | g
        · rw [g]
          exact ⟨by decide, by decide⟩
        · exact h x g⟩))
  rw [if_neg h2] at h ⊢
  by_cases h3 : s = 1 ∧ rzSg T n 40 f = true
  · rw [if_pos h3] at h ⊢
    by_cases h5 : rest.length < 8
    · rw [if_pos h5] at h
      have e1 : 1 :: 1 :: rest = lv_p := congrArg (fun z : rzA => z.2.2.1) h
      have e2 : false = pr_p := congrArg (fun z : rzA => z.2.2.2.1) h
      subst e1
      subst e2
      refine ⟨1, 1 :: rest, rfl, rkTy_pu0 ht (Or.inr (by omega)), ?_, fun g => (by cases g), fun _ => by omega⟩
      rw [rkWc_push]
      have hs := h3.1
      subst hs
      exact ⟨[], rkWc c, (31, 0), rfl, Or.inr (Or.inr (Or.inr ⟨Or.inl rfl, fun x q => absurd q List.not_mem_nil⟩)), Or.inl ⟨rfl, by omega, rfl⟩, hL⟩
    · rw [if_neg h5] at h
      cases (congrArg (fun z : rzA => z.1) h)
  rw [if_neg h3] at h ⊢
  by_cases h6 : rzSg T n 91 f = true
  · rw [if_pos h6] at h
    by_cases h5 : rest.length < 8
    · rw [if_pos h5] at h
      have e1 : 0 :: (if s = 1 then 2 else s) :: rest = lv_p := congrArg (fun z : rzA => z.2.2.1) h
      have e2 : false = pr_p := congrArg (fun z : rzA => z.2.2.2.1) h
      subst e1
      subst e2
      refine ⟨0, (if s = 1 then 2 else s) :: rest, rfl, rkTy_pu0 ht (Or.inr (by omega)), ?_, fun g => (by cases g), fun _ => by omega⟩
      rw [rkWc_push]
      refine ⟨[], rkWc c, (32, 0), rfl, Or.inl ⟨rfl, fun x q => absurd q List.not_mem_nil⟩, Or.inr ⟨rfl, rfl, by split <;> omega⟩, ?_⟩
      rw [eW]
      exact rkLv_of (rkSh_2 hA h4) (rkBt_s hB (by split <;> omega))
    · rw [if_neg h5] at h
      cases (congrArg (fun z : rzA => z.1) h)
  · rw [if_neg h6] at h
    cases (congrArg (fun z : rzA => z.1) h)
theorem rkIv_1 (ht : rkTy c true (decide (s = 4))) (hL : rkLv test (s :: rest) (rkWc c)) (h1 : s ≠ 1) : (∀ (f_p lf_p : Int) (lv_p : List Int) (pr_p : Bool), rzStep T n ws f (s :: rest) true lf = (0, f_p, lv_p, pr_p, lf_p) → rkIv test (rkSt T n ws f (s :: rest) true c) lv_p pr_p) ∧ (∀ (f_p lf_p : Int) (lv_p : List Int) (pr_p : Bool), rzStep T n ws f (s :: rest) true lf = (1, f_p, lv_p, pr_p, lf_p) → rkTy (rkRed 1 c) true (decide (test ≠ 0)) ∧ rkWc (rkRed 1 c) = []) := by
  obtain ⟨A, B, eW, hA, hB⟩ := rkLv_y hL
  have hr := rkSh_r hA
  have hu : rzStep T n ws f (s :: rest) true lf = (if rest ≠ [] ∧ s = 0 ∧ rzSg T n 93 f = true then (0, rzN T n f, rest, true, lf)
      else if rest ≠ [] ∧ (s = 3 ∨ s = 4) ∧ rzSg T n 41 f = true then (0, rzN T n f, 4 :: rest.tail, true, lf)
      else if (s = 3 ∨ s = 4) ∧ (rzIs T n rzW_and f = true ∨ rzIs T n rzW_or f = true) then (0, rzN T n f, 1 :: rest, false, lf)
      else if s ≠ 4 ∧ f < n ∧ (T f = 43 ∨ T f = 45 ∨ T f = 42 ∨ T f = 47 ∨ T f = 37) then (0, rzN T n f, s :: rest, false, lf)
      else if s = 2 ∧ f < n ∧ (T f = 60 ∨ T f = 62 ∨ T f = 61) then (0, rzN T n f, 3 :: rest, false, lf)
      else if rest = [] ∧ s ≠ 1 ∧ s ≠ 2 then (1, f, s :: rest, true, lf)
      else ((2, f, s :: rest, true, lf) : rzA)) := rfl
  rw [hu, rkSt_1]
  by_cases c1 : rest ≠ [] ∧ s = 0 ∧ rzSg T n 93 f = true
  · rw [if_pos c1, if_pos c1]
    refine ⟨fun f_p lf_p lv_p pr_p h => ?_, fun f_p lf_p lv_p pr_p h => by cases (congrArg (fun z : rzA => z.1) h)⟩
    have e1 : rest = lv_p := congrArg (fun z : rzA => z.2.2.1) h
    have e2 : true = pr_p := congrArg (fun z : rzA => z.2.2.2.1) h
    subst e1
    subst e2
    rcases hB with ⟨b1, -, -⟩ | ⟨s_p, r, x, B_p, b1, b2, b3, b4⟩
    · exact absurd b1 c1.1
    · have hx : x.1 = 32 ∧ (s_p = 0 ∨ s_p = 2 ∨ s_p = 3) := by
        rcases b3 with ⟨g, g2, g3⟩ | ⟨g, g2, g3⟩
        · exact absurd c1.2.1 g2
        · exact ⟨g, g3⟩
      rcases hA with ⟨e, hA⟩ | ⟨e, -⟩ | ⟨e, -⟩ | ⟨e, -⟩
      · rw [decide_eq_false (by omega)] at ht
        have hb : rkLs 1 B := by
          subst b2
          intro y q
          have e : x = y := Option.some.inj q
          rw [← e]
          unfold rkBd
          rw [if_pos (by omega)]
          omega
        obtain ⟨A_p, w1, w2, w3, w4⟩ := rkRed_su (l := 1) hb eW hA ht
        rw [w4 (by omega), List.nil_append, b2] at w1
        refine ⟨s_p, r, b1, ?_, ?_, fun _ => by omega, fun g => by cases g⟩
        · rw [decide_eq_false (by omega)]
          exact rkTy_pop w3 w1 (by omega)
        · rw [(rkWc_cons w1).2.2.2.1, b1]
          exact b4
      · omega
      · omega
      · omega
  rw [if_neg c1, if_neg c1]
  by_cases c2 : rest ≠ [] ∧ (s = 3 ∨ s = 4) ∧ rzSg T n 41 f = true
  · rw [if_pos c2, if_pos c2]
    refine ⟨fun f_p lf_p lv_p pr_p h => ?_, fun f_p lf_p lv_p pr_p h => by cases (congrArg (fun z : rzA => z.1) h)⟩
    have e1 : 4 :: rest.tail = lv_p := congrArg (fun z : rzA => z.2.2.1) h
    have e2 : true = pr_p := congrArg (fun z : rzA => z.2.2.2.1) h
    subst e1
    subst e2
    obtain ⟨A_p, w1, w2, w3, w4⟩ := rkSh_all (l := 1) (by omega) (by omega) eW hA c2.2.1 hB ht
    rcases hB with ⟨b1, -, -⟩ | ⟨s_p, r, x, B_p, b1, b2, b3, b4⟩
    · exact absurd b1 c2.1
    · have hx : x.1 = 31 ∧ s_p = 1 := by
        rcases b3 with ⟨g, g2, g3⟩ | ⟨g, g2, g3⟩
        · exact ⟨g, g3⟩
        · omega
      rw [w4 (by omega), List.nil_append, b2] at w1
      have hs_p := hx.2
      subst hs_p
      subst b1
      refine ⟨4, r, rfl, ?_, ?_, fun _ => by omega, fun g => by cases g⟩
      · rw [decide_eq_true rfl]
        exact rkTy_pop w3 w1 (by omega)
      · rw [(rkWc_cons w1).2.2.2.1]
        obtain ⟨A2, B2, k1, k2, k3⟩ := rkLv_y b4
        rw [k1]
        refine rkLv_of (s := 4) ?_ (rkBt_s k3 (by omega))
        rcases k2 with ⟨e, -⟩ | ⟨e, -⟩ | ⟨e, -⟩ | ⟨-, k2⟩
        · omega
        · omega
        · omega
        · exact Or.inr (Or.inr (Or.inr ⟨Or.inr rfl, k2⟩))
  rw [if_neg c2, if_neg c2]
  by_cases c3 : (s = 3 ∨ s = 4) ∧ (rzIs T n rzW_and f = true ∨ rzIs T n rzW_or f = true)
  · rw [if_pos c3]
    refine ⟨fun f_p lf_p lv_p pr_p h => ?_, fun f_p lf_p lv_p pr_p h => by cases (congrArg (fun z : rzA => z.1) h)⟩
    have e1 : 1 :: rest = lv_p := congrArg (fun z : rzA => z.2.2.1) h
    have e2 : false = pr_p := congrArg (fun z : rzA => z.2.2.2.1) h
    subst e1
    subst e2
    have key : ∀ l op : Int, 1 ≤ l → l ≤ 2 → op = 29 ∨ op = 30 → rkIv test (rkPush op (rkM (rkRed l c)) (rkEmit op 0 (rkRed l c))) (1 :: rest) false := fun l op l1 l2 ho => by
      obtain ⟨A_p, w1, w2, w3, w4⟩ := rkSh_all l1 l2 eW hA c3.1 hB ht
      refine ⟨1, rest, rfl, rkTy_and w3 ho, ?_, fun g => (by cases g), fun _ => by omega⟩
      rw [rkWc_push, rkWc_emit, w1]
      refine rkLv_of (A := (op, rkM (rkRed l c)) :: A_p) (Or.inr (Or.inr (Or.inr ⟨Or.inl rfl, fun x q => ?_⟩))) (rkBt_s hB (by omega))
      rcases List.mem_cons.mp q with g | g
      · rw [g]
        show 28 ≤ op ∧ op ≤ 30
        omega
      · exact w2 x g
    by_cases ha : (s = 3 ∨ s = 4) ∧ rzIs T n rzW_and f = true
    · rw [if_pos ha]
      exact key 2 29 (by omega) (by omega) (Or.inl rfl)
    · rw [if_neg ha, if_pos ⟨c3.1, c3.2.resolve_left fun g => ha ⟨c3.1, g⟩⟩]
      exact key 1 30 (by omega) (by omega) (Or.inr rfl)
  rw [if_neg c3, if_neg (show ¬ ((s = 3 ∨ s = 4) ∧ rzIs T n rzW_and f = true) from fun g => c3 ⟨g.1, Or.inl g.2⟩), if_neg (show ¬ ((s = 3 ∨ s = 4) ∧ rzIs T n rzW_or f = true) from fun g => c3 ⟨g.1, Or.inr g.2⟩)]
  by_cases c4 : s ≠ 4 ∧ f < n ∧ (T f = 43 ∨ T f = 45 ∨ T f = 42 ∨ T f = 47 ∨ T f = 37)
  · rw [if_pos c4]
    refine ⟨fun f_p lf_p lv_p pr_p h => ?_, fun f_p lf_p lv_p pr_p h => by cases (congrArg (fun z : rzA => z.1) h)⟩
    have e1 : s :: rest = lv_p := congrArg (fun z : rzA => z.2.2.1) h
    have e2 : false = pr_p := congrArg (fun z : rzA => z.2.2.2.1) h
    subst e1
    subst e2
    rw [decide_eq_false c4.1] at ht
    obtain ⟨A1, D, a1, a2, a3, a4⟩ := rkSh_su hA (by omega) (rkBt_ls hB (l := 5) (by omega))
    have key : ∀ l op : Int, 5 ≤ l → 20 ≤ op → op ≤ 24 → rkIv test (rkPush op 0 (rkRed l c)) (s :: rest) false := fun l op l5 o0 o4 => by
      rw [a1, List.append_assoc] at eW
      obtain ⟨A_p, w1, w2, w3, w4⟩ := rkRed_su (l := l) (rkLs_mo a3 l5) eW a2 ht
      refine ⟨s, rest, rfl, rkTy_pu2 w3 o0 (by omega), ?_, fun g => (by cases g), fun _ => c4.1⟩
      rw [rkWc_push, w1, ← List.append_assoc]
      refine rkLv_of (A := (op, 0) :: (A_p ++ D)) (a4 ((op, 0) :: A_p) fun x q => ?_) hB
      rcases List.mem_cons.mp q with g | g
      · rw [g]
        exact ⟨o0, o4⟩
      · exact w2 x g
    by_cases k1 : T f = 43
    · rw [if_pos k1]
      exact key 5 20 (by omega) (by omega) (by omega)
    rw [if_neg k1]
    by_cases k2 : T f = 45
    · rw [if_pos k2]
      exact key 5 21 (by omega) (by omega) (by omega)
    rw [if_neg k2]
    by_cases k3 : T f = 42
    · rw [if_pos k3]
      exact key 6 22 (by omega) (by omega) (by omega)
    rw [if_neg k3]
    by_cases k4 : T f = 47
    · rw [if_pos k4]
      exact key 6 23 (by omega) (by omega) (by omega)
    rw [if_neg k4, if_pos (by omega)]
    exact key 6 24 (by omega) (by omega) (by omega)
  rw [if_neg c4]
  by_cases c5 : s = 2 ∧ f < n ∧ (T f = 60 ∨ T f = 62 ∨ T f = 61)
  · rw [if_pos c5]
    refine ⟨fun f_p lf_p lv_p pr_p h => ?_, fun f_p lf_p lv_p pr_p h => by cases (congrArg (fun z : rzA => z.1) h)⟩
    have e1 : 3 :: rest = lv_p := congrArg (fun z : rzA => z.2.2.1) h
    have e2 : false = pr_p := congrArg (fun z : rzA => z.2.2.2.1) h
    subst e1
    subst e2
    rw [decide_eq_false (by omega)] at ht
    rw [if_neg (by omega), if_neg (by omega), if_neg (by omega), if_neg (by omega), if_neg (by omega)]
    rcases hA with ⟨e, -⟩ | ⟨-, P, C, a1, a2, a3⟩ | ⟨e, -⟩ | ⟨e, -⟩
    · omega
    · have key : ∀ op : Int, 25 ≤ op → op ≤ 27 → rkIv test (rkPush op 0 (rkRed 4 c)) (3 :: rest) false := fun op o0 o4 => by
        rw [a1, List.append_assoc] at eW
        obtain ⟨A_p, w1, w2, w3, w4⟩ := rkRed_su (l := 4) (rkLs_ap (fun x q => by have := (rkBd_an (a3 x q)).2; omega) (rkBt_ls hB (by omega))) eW a2 ht
        rw [w4 (by omega), List.nil_append] at w1
        refine ⟨3, rest, rfl, rkTy_pu2 w3 (by omega) o4, ?_, fun g => (by cases g), fun _ => by omega⟩
        rw [rkWc_push, w1]
        exact rkLv_of (A := (op, 0) :: C) (Or.inr (Or.inr (Or.inl ⟨rfl, [], C, (op, 0), rfl, fun x q => absurd q List.not_mem_nil, ⟨o0, o4⟩, a3⟩))) (rkBt_s hB (by omega))
      by_cases k1 : T f = 60
      · rw [if_pos k1]
        exact key 25 (by omega) (by omega)
      rw [if_neg k1]
      by_cases k2 : T f = 62
      · rw [if_pos k2]
        exact key 26 (by omega) (by omega)
      rw [if_neg k2]
      exact key 27 (by omega) (by omega)
    · omega
    · omega
  rw [if_neg c5]
  by_cases c6 : rest = [] ∧ s ≠ 1 ∧ s ≠ 2
  · rw [if_pos c6]
    refine ⟨fun f_p lf_p lv_p pr_p h => (by cases (congrArg (fun z : rzA => z.1) h)), fun f_p lf_p lv_p pr_p h => ?_⟩
    rcases id hB with ⟨-, b2, b3⟩ | ⟨s_p, r, x, B_p, b1, b2, -⟩
    · by_cases hs : s = 0
      · rw [decide_eq_false (by omega)] at ht
        rw [decide_eq_false (by omega)]
        rcases hA with ⟨-, hA⟩ | ⟨e, -⟩ | ⟨e, -⟩ | ⟨e, -⟩
        · obtain ⟨A_p, w1, w2, w3, w4⟩ := rkRed_su (l := 1) (rkBt_ls hB (by omega)) eW hA ht
          rw [w4 (by omega), b2] at w1
          exact ⟨w3, w1⟩
        · omega
        · omega
        · omega
      · rw [decide_eq_true (show test ≠ 0 by omega)]
        obtain ⟨A_p, w1, w2, w3, w4⟩ := rkSh_all (l := 1) (by omega) (by omega) eW hA (by omega) hB ht
        rw [w4 (by omega), b2] at w1
        exact ⟨w3, w1⟩
    · rw [c6.1] at b1
      cases b1
  · rw [if_neg c6]
    exact ⟨fun f_p lf_p lv_p pr_p h => (by cases (congrArg (fun z : rzA => z.1) h)), fun f_p lf_p lv_p pr_p h => by cases (congrArg (fun z : rzA => z.1) h)⟩
end RKLV
noncomputable def rkWt (d : rkC) (b : Bool) : Prop := 0 ≤ rkM d ∧ ∃ τ : Int → List Bool, τ 0 = [] ∧ (∀ i : Int, 0 ≤ i → i < rkM d → rkRu τ (rkM d) i (rkFo d i) (rkFa d i) ∧ ((rkFo d i = 29 ∨ rkFo d i = 30) → rkFa d i ≠ 0)) ∧ τ (rkM d) = [b]
theorem rkWt_of {d : rkC} {b : Bool} (h : rkTy d true b) (hw : rkWc d = []) : rkWt d b := by
  unfold rkTy at h
  rw [hw, if_pos rfl] at h
  obtain ⟨m0, τ, h1, h2, h3, -, h5⟩ := h
  refine ⟨m0, τ, h1, fun i i0 i1 => ⟨h2 i i0 i1, fun ho ha => ?_⟩, h3⟩
  obtain ⟨x, x1, -⟩ := h5 i i0 i1 ho ha
  cases x1
theorem rkRun_t {T : Int → Int} {n test : Int} {ws : List (List Int)} (hw : ws.length ≤ 8) {d : rkC} : ∀ (k : Nat) (f : Int) (lv : List Int) (pr : Bool) (lf : Int) (c : rkC), rkRun T n ws k f lv pr lf c = some d → rkIv test c lv pr → rkWt d (decide (test ≠ 0))
  | 0, f, lv, pr, lf, c, h, _ => by cases h
  | k + 1, f, lv, pr, lf, c, h, hi => by
    have h : (match rzStep T n ws f lv pr lf with
      | (0, f_p, lv_p, pr_p, lf_p) => rkRun T n ws k f_p lv_p pr_p lf_p (rkSt T n ws f lv pr c)
      | (1, _, _, _, _) => some (rkRed 1 c)
      | _ => none) = some d := h
    obtain ⟨s, rest, e, ht, hL, p1, p0⟩ := hi
    subst e
    match hs : rzStep T n ws f (s :: rest) pr lf, h with
    | (0, f_p, lv_p, pr_p, lf_p), h =>
      refine rkRun_t hw k f_p lv_p pr_p lf_p _ h ?_
      cases pr with
      | true => exact (rkIv_1 ht hL (p1 rfl)).1 _ _ _ _ hs
      | false => exact rkIv_0 hw ht hL (p0 rfl) hs
    | (1, _, _, _, _), h =>
      cases pr with
      | true =>
        have e : rkRed 1 c = d := Option.some.inj h
        rw [← e]
        have q := (rkIv_1 ht hL (p1 rfl)).2 _ _ _ _ hs
        exact rkWt_of q.1 q.2
      | false => exact absurd hs rzStep_n1
    | (q + 2, _, _, _, _), h => cases h
theorem rkEx_t {T : Int → Int} {n test f lf : Int} {ws : List (List Int)} {d : rkC} (hw : ws.length ≤ 8) (ht : test = 0 ∨ test = 1) (h : rkEx T n ws test f lf d) : rkWt d (decide (test ≠ 0)) := by
  obtain ⟨k, hk⟩ := h
  refine rkRun_t hw k f [test] false lf rkC0 hk ⟨test, [], rfl, ?_, ⟨?_, Iff.rfl⟩, fun g => (by cases g), fun _ => by omega⟩
  · refine ⟨Int.le_refl 0, fun _ => [], rfl, fun i i0 i1 => ?_, rfl, trivial, fun i i0 i1 => ?_⟩
    · have i1 : i < 0 := i1
      omega
    · have i1 : i < 0 := i1
      omega
  · rcases ht with rfl | rfl
    · exact Or.inl ⟨rfl, fun x q => absurd q List.not_mem_nil⟩
    · exact Or.inr (Or.inr (Or.inr ⟨Or.inl rfl, fun x q => absurd q List.not_mem_nil⟩))
end
