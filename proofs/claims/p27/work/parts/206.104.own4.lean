theorem rzThen_alt {c : Bool} {A B : rzR → Prop} {b : Int → Int → rzR → Prop} {r : rzR} (h : rzThen (fun r => rzAlt c (A r) (B r)) b r) : rzAlt c (rzThen A b r) (rzThen B b r) := by
  obtain ⟨r1, h1, h2⟩ := h
  rcases h1 with ⟨a, b1⟩ | ⟨a, b1⟩
  · exact Or.inl ⟨a, r1, b1, h2⟩
  · exact Or.inr ⟨a, r1, b1, h2⟩
theorem rzThen_f {f lf : Int} {b : Int → Int → rzR → Prop} {r : rzR} (h : rzThen (fun r => r = (false, f, lf)) b r) : r = (false, f, lf) := by
  obtain ⟨r1, h1, h2⟩ := h
  subst h1
  rcases h2 with ⟨a, e⟩ | ⟨a, e⟩
  · exact e
  · cases a
theorem rzThen_t {f lf : Int} {b : Int → Int → rzR → Prop} {r : rzR} (h : rzThen (fun r => r = (true, f, lf)) b r) : b f lf r := by
  obtain ⟨r1, h1, h2⟩ := h
  subst h1
  rcases h2 with ⟨a, e⟩ | ⟨a, e⟩
  · cases a
  · exact e
theorem rzThen_then {a : rzR → Prop} {b c : Int → Int → rzR → Prop} {r : rzR} (h : rzThen (rzThen a b) c r) : rzThen a (fun f lf => rzThen (b f lf) c) r := by
  obtain ⟨r1, ⟨r2, h2, h3⟩, h1⟩ := h
  rcases h3 with ⟨k, e⟩ | ⟨k, e⟩
  · subst e
    rcases h1 with ⟨q, z⟩ | ⟨q, z⟩
    · exact ⟨r1, h2, Or.inl ⟨q, z⟩⟩
    · rw [k] at q
      cases q
  · exact ⟨r2, h2, Or.inr ⟨k, r1, e, h1⟩⟩
theorem rzThen_mono {a : rzR → Prop} {b b_p : Int → Int → rzR → Prop} {r : rzR} (k : ∀ (f lf : Int) (r : rzR), b f lf r → b_p f lf r) (h : rzThen a b r) : rzThen a b_p r := by
  obtain ⟨r1, h1, h2⟩ := h
  rcases h2 with ⟨q, e⟩ | ⟨q, e⟩
  · exact ⟨r1, h1, Or.inl ⟨q, e⟩⟩
  · exact ⟨r1, h1, Or.inr ⟨q, k _ _ _ e⟩⟩
theorem rzAlt_mono {c : Bool} {A B A_p B_p : Prop} (a : A → A_p) (b : B → B_p) (h : rzAlt c A B) : rzAlt c A_p B_p := by
  rcases h with ⟨q, e⟩ | ⟨q, e⟩
  · exact Or.inl ⟨q, a e⟩
  · exact Or.inr ⟨q, b e⟩
noncomputable def rzLH (T : Int → Int) (n : Int) (ws : List (List Int)) (f lf : Int) (r : rzR) : Prop := rzAlt (rzIs T n rzW_bars f) (r = (true, rzN T n f, lf)) (rzAlt (rzIs T n rzW_slips f || rzIs T n rzW_hours f) (rzEx T n ws 0 (rzN T n f) lf r) (r = (false, f, lf)))
noncomputable def rzPG (T : Int → Int) (n : Int) (ws : List (List Int)) (f lf : Int) (r : rzR) : Prop := rzAlt (rzIs T n rzW_go f) (rzEx T n ws 0 (rzN T n f) lf r) (r = (true, f, lf))
noncomputable def rzPH4 (T : Int → Int) (n : Int) (ws : List (List Int)) (f lf : Int) (r : rzR) : Prop := rzAlt (rzIs T n rzW_hush f) (r = (true, rzN T n f, lf)) (rzAlt (rzIs T n rzW_say f) (rzThen (rzEx T n ws 0 (rzN T n f) lf) (rzPG T n ws) r) (r = (false, f, lf)))
noncomputable def rzPH3 (T : Int → Int) (n : Int) (ws : List (List Int)) (f lf : Int) (r : rzR) : Prop := rzAlt (rzPlc T n f) (rzPH4 T n ws (rzN T n f) lf r) (r = (false, f, lf))
noncomputable def rzPH2 (T : Int → Int) (n : Int) (ws : List (List Int)) (f lf : Int) (r : rzR) : Prop := rzAlt (rzIs T n rzW_at f) (rzPH3 T n ws (rzN T n f) lf r) (r = (false, f, lf))
noncomputable def rzPH1 (T : Int → Int) (n : Int) (ws : List (List Int)) (f lf : Int) (r : rzR) : Prop := rzAlt (rzPlc T n f) (rzPH2 T n ws (rzN T n f) lf r) (r = (false, f, lf))
noncomputable def rzPH (T : Int → Int) (n : Int) (ws : List (List Int)) (f lf : Int) (r : rzR) : Prop := rzAlt (rzIs T n rzW_in f) (rzPH1 T n ws (rzN T n f) lf r) (r = (false, f, lf))
theorem rzLH_then {T : Int → Int} {n f lf : Int} {r : rzR} (h : rzThen (rzLH T n rzLn_ f lf) (rzIf T n rzLn_) r) : rzLC T n f lf r :=
  rzAlt_mono rzThen_t (fun g => rzAlt_mono (fun q => q) rzThen_f (rzThen_alt g)) (rzThen_alt h)
theorem rzPH_then {T : Int → Int} {n f lf : Int} {r : rzR} (h : rzThen (rzPH T n rzPn f lf) (rzIf T n rzPn) r) : rzPC T n f lf r := by
  refine rzAlt_mono (fun g => rzAlt_mono (fun g => rzAlt_mono (fun g => rzAlt_mono (fun g => ?_) rzThen_f (rzThen_alt g)) rzThen_f (rzThen_alt g)) rzThen_f (rzThen_alt g)) rzThen_f (rzThen_alt h)
  refine rzAlt_mono rzThen_t (fun g => rzAlt_mono (fun g => ?_) rzThen_f (rzThen_alt g)) (rzThen_alt g)
  exact rzThen_mono (fun f lf r k => rzAlt_mono (fun q => q) rzThen_t (rzThen_alt k)) (rzThen_then g)
theorem rzNo_nn {T : Int → Int} {n f : Int} (h : rzDg T n f = true) : 0 ≤ rzNo T n f := by
  have g : f < n ∧ rzG (T f) = true := of_decide_eq_true h
  have g2 := rzG_b g.2
  unfold rzNo
  rw [if_pos h]
  have d := rzNm_dv (T := T) (f := f) (rzT T n f - f).toNat fun i hi => rzG_b (rzT_gs g.1 (rzL_f (by omega)) g.2 (by omega) (by omega))
  by_cases c : rzDv T f (rzT T n f - f).toNat ≤ 1000
  · rw [d.2.1 c]
    exact d.1
  · rw [d.2.2 (by omega)]
    decide
noncomputable def rzPv (T : Int → Int) (n f : Int) : Int := if rzIs T n rzW_any f = true then 6 else if rzNo T n f ≤ 5 then rzNo T n f else -1
theorem rzPlc_v {T : Int → Int} {n f : Int} : rzPlc T n f = decide (0 ≤ rzPv T n f) := by
  unfold rzPlc rzPv
  cases ha : rzIs T n rzW_any f with
  | true =>
    rw [if_pos rfl]
    rfl
  | false =>
    rw [if_neg (by decide), Bool.false_or]
    cases hd : rzDg T n f with
    | true =>
      have h := rzNo_nn hd
      rw [Bool.true_and]
      by_cases c : rzNo T n f ≤ 5
      · rw [if_pos c, decide_eq_true c, decide_eq_true h]
      · rw [if_neg c, decide_eq_false c]
        rfl
    | false =>
      have h : rzNo T n f = -1 := if_neg (by rw [hd]; decide)
      rw [Bool.false_and, h, if_pos (by decide)]
      rfl
noncomputable def rzOc (G : rzR → Prop) (S0 S : Nat → Int → Int) (w : Option Int) : Prop := ∃ r : rzR, G r ∧ ((w = some 1 ∧ r.1 = true ∧ rzKp S0 S ∧ rzDt S ∧ S 412 2 = r.2.1 ∧ S 412 7 = r.2.2) ∨ (w = some 0 ∧ r.1 = false ∧ S 412 4 = r.2.1))
noncomputable def rzAt (G : rzR → Prop) (S0 S : Nat → Int → Int) (C : Int → Int → rzR → Prop) : Prop := rzKp S0 S ∧ rzDt S ∧ ∀ r : rzR, C (S 412 2) (S 412 7) r → G r
theorem rzAt_im {G : rzR → Prop} {S0 S : Nat → Int → Int} {C C_p : Int → Int → rzR → Prop} (h : rzAt G S0 S C) (k : ∀ r : rzR, C_p (S 412 2) (S 412 7) r → C (S 412 2) (S 412 7) r) : rzAt G S0 S C_p := ⟨h.1, h.2.1, fun r q => h.2.2 r (k r q)⟩
theorem rzAt_ad {ms : List (Nat × Nat)} {G : rzR → Prop} {S0 S S_p : Nat → Int → Int} {C C_p : Int → Int → rzR → Prop} (h : rzAt G S0 S C) (hs : bx_same rxL (bx_mdl ms) S S_p) (h0 : bx_mdl ms 1032 0 = false) (h1 : bx_mdl ms 7 1 = false) (h5 : bx_mdl ms 7 5 = false) (h4 : bx_mdl ms 7 4 = false) (h7 : bx_mdl ms 7 7 = false) (e2 : S_p 412 2 = rzF (rzCut (S 411)) (S 412 1) (S 412 3)) (e3 : S_p 412 3 = rzT (rzCut (S 411)) (S 412 1) (S_p 412 2)) (k : ∀ r : rzR, C_p (rzN (rzCut (S0 411)) (S0 412 1) (S 412 2)) (S 412 7) r → C (S 412 2) (S 412 7) r) : rzAt G S0 S_p C_p := by
  have kp := rzKp_of hs h0 h1 h5 h4
  have d := rzDt_ad h.2.1 kp e2 e3
  have f7 : S_p 412 7 = S 412 7 := hs 412 7 (by decide) (by decide) h7
  refine ⟨h.1.tr kp, d.1, fun r q => h.2.2 r (k r ?_)⟩
  rw [d.2, f7, h.1.1, h.1.2.1] at q
  exact q
theorem rzAt_sm {ms : List (Nat × Nat)} {G : rzR → Prop} {S0 S S_p : Nat → Int → Int} {C : Int → Int → rzR → Prop} (h : rzAt G S0 S C) (hs : bx_same rxL (bx_mdl ms) S S_p) (h0 : bx_mdl ms 1032 0 = false) (h1 : bx_mdl ms 7 1 = false) (h5 : bx_mdl ms 7 5 = false) (h4 : bx_mdl ms 7 4 = false) (h2 : bx_mdl ms 7 2 = false) (h3 : bx_mdl ms 7 3 = false) (h7 : bx_mdl ms 7 7 = false) : rzAt G S0 S_p C := by
  have kp := rzKp_of hs h0 h1 h5 h4
  have f7 : S_p 412 7 = S 412 7 := hs 412 7 (by decide) (by decide) h7
  have f2 : S_p 412 2 = S 412 2 := hs 412 2 (by decide) (by decide) h2
  refine ⟨h.1.tr kp, rzDt_kp h.2.1 kp f2 (hs 412 3 (by decide) (by decide) h3), fun r q => h.2.2 r ?_⟩
  rw [f2, f7] at q
  exact q
theorem rzAt_tk {G : rzR → Prop} {S0 S S_p : Nat → Int → Int} {C C_p : Int → Int → rzR → Prop} (h : rzAt G S0 S C) (kp : rzKp S S_p) (d : rzDt S_p) (f7 : S_p 412 7 = S 412 7) (e2 : S_p 412 2 = rzN (rzCut (S 411)) (S 412 1) (S 412 2)) (k : ∀ r : rzR, C_p (rzN (rzCut (S0 411)) (S0 412 1) (S 412 2)) (S 412 7) r → C (S 412 2) (S 412 7) r) : rzAt G S0 S_p C_p := by
  refine ⟨h.1.tr kp, d, fun r q => h.2.2 r (k r ?_)⟩
  rw [e2, f7, h.1.1, h.1.2.1] at q
  exact q
theorem rzAt_no {G : rzR → Prop} {S0 S S_p : Nat → Int → Int} {C : Int → Int → rzR → Prop} (h : rzAt G S0 S C) (k : C (S 412 2) (S 412 7) (false, S 412 2, S 412 7)) (e : S_p 412 4 = S 412 2) : rzOc G S0 S_p (some 0) := ⟨_, h.2.2 _ k, Or.inr ⟨rfl, rfl, e⟩⟩
theorem rzAt_yes {G : rzR → Prop} {S0 S : Nat → Int → Int} {C : Int → Int → rzR → Prop} (h : rzAt G S0 S C) (k : C (S 412 2) (S 412 7) (true, S 412 2, S 412 7)) : rzOc G S0 S (some 1) := ⟨_, h.2.2 _ k, Or.inl ⟨rfl, rfl, h.1, h.2.1, rfl, rfl⟩⟩
theorem rzAt_tail {G a : rzR → Prop} {S0 S S_p : Nat → Int → Int} {w : Option Int} {C : Int → Int → rzR → Prop} (h : rzAt G S0 S C) (k : ∀ r : rzR, a r → C (S 412 2) (S 412 7) r) (q : rzOc a S S_p w) : rzOc G S0 S_p w := by
  obtain ⟨r, q1, q2⟩ := q
  refine ⟨r, h.2.2 r (k r q1), ?_⟩
  rcases q2 with ⟨a1, a2, a3, a4⟩ | q3
  · exact Or.inl ⟨a1, a2, h.1.tr a3, a4⟩
  · exact Or.inr q3
theorem rzAt_call {G a : rzR → Prop} {S0 S S_p : Nat → Int → Int} {x : Int} {b C : Int → Int → rzR → Prop} (h : rzAt G S0 S C) (k : ∀ r : rzR, rzThen a b r → C (S 412 2) (S 412 7) r) (q : rzOc a S S_p (some x)) : (x = 1 ∧ rzAt G S0 S_p b) ∨ (x = 0 ∧ rzOc G S0 S_p (some 0)) := by
  obtain ⟨r, q1, q2⟩ := q
  rcases q2 with ⟨a1, a2, a3, a4, a5, a6⟩ | ⟨a1, a2, a3⟩
  · refine Or.inl ⟨Option.some.inj a1, h.1.tr a3, a4, fun r2 hr => h.2.2 r2 (k r2 ⟨r, q1, Or.inr ⟨a2, ?_⟩⟩)⟩
    rw [a5, a6] at hr
    exact hr
  · exact Or.inr ⟨Option.some.inj a1, r, h.2.2 r (k r ⟨r, q1, Or.inl ⟨a2, rfl⟩⟩), Or.inr ⟨rfl, a2, a3⟩⟩
theorem rzAlt_y {c : Bool} {A B : Prop} (h : c = true) (a : A) : rzAlt c A B := Or.inl ⟨h, a⟩
theorem rzAlt_n {c : Bool} {A B : Prop} (h : c = false) (b : B) : rzAlt c A B := Or.inr ⟨h, b⟩
noncomputable def rxCRIF : bx_Ct := ([(3, (1, 412, 0))], some (0, (0, 0, 1)), [(6, 0), (7, 2), (7, 3), (7, 4), (7, 7), (7, 8), (7, 10), (1021, 0), (1022, 0), (1027, 0), (1034, 0), (1035, 0), (1036, 0)], 8, [(412, 0, 3, (1, 411, 0)), (412, 6, 3, (1, 427, 0))])
noncomputable def rxIRIF_0 (S0 : Nat → Int → Int) (ws : List Int) (S : Nat → Int → Int) : Prop := S = S0 ∧ ws = [412]
noncomputable def rxmRIF_0 (S0 : Nat → Int → Int) (ws : List Int) (S : Nat → Int → Int) : Nat := 100
noncomputable def rxIRIF_1 (S0 : Nat → Int → Int) (ws : List Int) (S : Nat → Int → Int) : Prop := rzAt (rzIf (rzCut (S0 411)) (S0 412 1) (rzWs S0) (S0 412 2) (S0 412 7)) S0 S (rzIf (rzCut (S0 411)) (S0 412 1) (rzWs S0))
noncomputable def rxmRIF_1 (S0 : Nat → Int → Int) (ws : List Int) (S : Nat → Int → Int) : Nat := 90
noncomputable def rxIRIF_2 (S0 : Nat → Int → Int) (ws : List Int) (S : Nat → Int → Int) (r : Int) : Prop := rzAt (rzIf (rzCut (S0 411)) (S0 412 1) (rzWs S0) (S0 412 2) (S0 412 7)) S0 S (rzIf (rzCut (S0 411)) (S0 412 1) (rzWs S0)) ∧ r = (if rzIs (rzCut (S 411)) (S 412 1) rzW_if (S 412 2) = true then 1 else 0)
noncomputable def rxmRIF_2 (S0 : Nat → Int → Int) (ws : List Int) (S : Nat → Int → Int) (r : Int) : Nat := 80
noncomputable def rxIRIF_3 (S0 : Nat → Int → Int) (ws : List Int) (S : Nat → Int → Int) : Prop := rzAt (rzIf (rzCut (S0 411)) (S0 412 1) (rzWs S0) (S0 412 2) (S0 412 7)) S0 S (rzIf (rzCut (S0 411)) (S0 412 1) (rzWs S0)) ∧ rzIs (rzCut (S0 411)) (S0 412 1) rzW_if (S 412 2) = true
noncomputable def rxmRIF_3 (S0 : Nat → Int → Int) (ws : List Int) (S : Nat → Int → Int) : Nat := 70
noncomputable def rxIRIF_4 (S0 : Nat → Int → Int) (ws : List Int) (S : Nat → Int → Int) : Prop := rzAt (rzIf (rzCut (S0 411)) (S0 412 1) (rzWs S0) (S0 412 2) (S0 412 7)) S0 S (rzEx (rzCut (S0 411)) (S0 412 1) (rzWs S0) 1)
noncomputable def rxmRIF_4 (S0 : Nat → Int → Int) (ws : List Int) (S : Nat → Int → Int) : Nat := 60
noncomputable def rxIRIF_5 (S0 : Nat → Int → Int) (ws : List Int) (S : Nat → Int → Int) (sa : Int) : Prop := rzAt (rzIf (rzCut (S0 411)) (S0 412 1) (rzWs S0) (S0 412 2) (S0 412 7)) S0 S (rzEx (rzCut (S0 411)) (S0 412 1) (rzWs S0) 1)
noncomputable def rxmRIF_5 (S0 : Nat → Int → Int) (ws : List Int) (S : Nat → Int → Int) (sa : Int) : Nat := 50
noncomputable def rxIRIF_6 (S0 : Nat → Int → Int) (ws : List Int) (S : Nat → Int → Int) (sa res : Int) : Prop := rzOc (rzIf (rzCut (S0 411)) (S0 412 1) (rzWs S0) (S0 412 2) (S0 412 7)) S0 S (some res)
noncomputable def rxmRIF_6 (S0 : Nat → Int → Int) (ws : List Int) (S : Nat → Int → Int) (sa res : Int) : Nat := 40
noncomputable def rxPRIF (S0 : Nat → Int → Int) (ws : List Int) : Prop := rzDt S0
noncomputable def rxPSRIF (S0 : Nat → Int → Int) (ws : List Int) (S : Nat → Int → Int) (w : Option Int) : Prop := rzOc (rzIf (rzCut (S0 411)) (S0 412 1) (rzWs S0) (S0 412 2) (S0 412 7)) S0 S w
theorem rxkRIF_1 {S0 : Nat → Int → Int} {ws : List Int} {S : Nat → Int → Int} (hP : rxPRIF S0 ws) (hin : bx_same rxL (bx_mdl rxCRIF.2.2.1) S0 S) (I0 : bx_Inv rxL S) (hinv : rxIRIF_1 S0 ws S)  : rxPIWX S [412, 532] ∧ ∀ (S_p : Nat → Int → Int) (r : Int), 0 ≤ r → r ≤ 1 → rxPSIWX S [412, 532] S_p (some r) → bx_Inv rxL S_p → bx_same rxL (bx_mdl rxC59.2.2.1) S S_p → rxIRIF_2 S0 ws S_p r ∧ rxmRIF_2 S0 ws S_p r < rxmRIF_1 S0 ws S := by
  obtain ⟨hA1, hA2, hA3⟩ := hinv
  have hD := hA2
  refine ⟨⟨rzDt.s3 hD, 532, rfl, by omega, by omega⟩, fun S_p r _ _ hq _ _ => ⟨?_, by unfold rxmRIF_1 rxmRIF_2; omega⟩⟩
  obtain ⟨rfl, k, hk, hr⟩ := hq
  have hk : (532 : Int) = k := Option.some.inj (congrArg (fun l : List Int => l[1]?) hk)
  subst hk
  have hr := Option.some.inj hr
  rw [hD.1] at hr
  exact ⟨⟨hA1, hA2, hA3⟩, hr⟩
theorem rxkRIF_3 {S0 : Nat → Int → Int} {ws : List Int} {S : Nat → Int → Int} (hP : rxPRIF S0 ws) (hin : bx_same rxL (bx_mdl rxCRIF.2.2.1) S0 S) (I0 : bx_Inv rxL S) (hinv : rxIRIF_3 S0 ws S)  : rxPAD S [412] ∧ ∀ (S_p : Nat → Int → Int), rxPSAD S [412] S_p none → bx_Inv rxL S_p → bx_same rxL (bx_mdl rxC84.2.2.1) S S_p → rxIRIF_4 S0 ws S_p ∧ rxmRIF_4 S0 ws S_p < rxmRIF_3 S0 ws S := by
  obtain ⟨hA, hb⟩ := hinv
  refine ⟨trivial, fun S_p hq _ hsm => ⟨rzAt_ad hA hsm (by decide +kernel) (by decide +kernel) (by decide +kernel) (by decide +kernel) (by decide +kernel) hq.2.1 hq.2.2 (fun r q => rzAlt_y hb q), by unfold rxmRIF_3 rxmRIF_4; omega⟩⟩
theorem rxkRIF_5 {S0 : Nat → Int → Int} {ws : List Int} {S : Nat → Int → Int} {sa : Int} (hP : rxPRIF S0 ws) (hin : bx_same rxL (bx_mdl rxCRIF.2.2.1) S0 S) (I0 : bx_Inv rxL S) (hinv : rxIRIF_5 S0 ws S sa) (l8 : 0 ≤ sa) (u8 : sa ≤ 1522) : rxPRED S [412, sa, 1] ∧ ∀ (S_p : Nat → Int → Int) (res : Int), 0 ≤ res → res ≤ 1 → rxPSRED S [412, sa, 1] S_p (some res) → bx_Inv rxL S_p → bx_same rxL (bx_mdl rxCRED.2.2.1) S S_p → rxIRIF_6 S0 ws S_p sa res ∧ rxmRIF_6 S0 ws S_p sa res < rxmRIF_5 S0 ws S sa := by
  obtain ⟨hA1, hA2, hA3⟩ := hinv
  have hA : rzAt (rzIf (rzCut (S0 411)) (S0 412 1) (rzWs S0) (S0 412 2) (S0 412 7)) S0 S (rzEx (rzCut (S0 411)) (S0 412 1) (rzWs S0) 1) := ⟨hA1, hA2, hA3⟩
  refine ⟨hA.2.1, fun S_p res _ _ hq _ _ => ⟨?_, by unfold rxmRIF_5 rxmRIF_6; omega⟩⟩
  obtain ⟨sa, sg, hk, hq⟩ := hq
  have hk : (1 : Int) = sg := Option.some.inj (congrArg (fun l : List Int => l[2]?) hk)
  subst hk
  have hw : rzWs S = rzWs S0 := rzKp.ws hA.1
  rw [hA.1.1, hA.1.2.1, hw] at hq
  have q : rzOc (rzEx (rzCut (S0 411)) (S0 412 1) (rzWs S0) 1 (S 412 2) (S 412 7)) S S_p (some res) := by
    rcases hq with ⟨q1, r, q2, q3, q4, q5, q6, q7⟩ | ⟨q1, r, q2, q3, q4⟩
    · exact ⟨r, q2, Or.inl ⟨q1, q3, q4, q5, q6, q7⟩⟩
    · exact ⟨r, q2, Or.inr ⟨q1, q3, q4⟩⟩
  exact rzAt_tail hA (fun r q => q) q
theorem rxcRIF_0_0 {S0 : Nat → Int → Int} {ws : List Int} {S : Nat → Int → Int} (hP : rxPRIF S0 ws) (hin : bx_same rxL (bx_mdl rxCRIF.2.2.1) S0 S) (I0 : bx_Inv rxL S) (hinv : rxIRIF_0 S0 ws S)  : (True) ∧ (True) ∧ rxIRIF_1 S0 ws S ∧ rxmRIF_1 S0 ws S < rxmRIF_0 S0 ws S := by
  obtain ⟨rfl, hw⟩ := hinv
  exact ⟨trivial, trivial, ⟨rzKp_rf, hP, fun r q => q⟩, by unfold rxmRIF_0 rxmRIF_1; omega⟩
theorem rxcRIF_2_0 {S0 : Nat → Int → Int} {ws : List Int} {S : Nat → Int → Int} {r : Int} (hP : rxPRIF S0 ws) (hin : bx_same rxL (bx_mdl rxCRIF.2.2.1) S0 S) (I0 : bx_Inv rxL S) (hinv : rxIRIF_2 S0 ws S r) (l8 : 1 ≤ r) (u8 : r ≤ 1) (f0 : r ≠ 0) : (True) ∧ (True) ∧ rxIRIF_3 S0 ws S ∧ rxmRIF_3 S0 ws S < rxmRIF_2 S0 ws S r := by
  obtain ⟨hA, hr⟩ := hinv
  have bx : rzIs (rzCut (S 411)) (S 412 1) rzW_if (S 412 2) = true := by
    cases hb : rzIs (rzCut (S 411)) (S 412 1) rzW_if (S 412 2) with
    | true => rfl
    | false =>
      rw [hb, if_neg (by decide)] at hr
      omega
  rw [hA.1.1, hA.1.2.1] at bx
  exact ⟨trivial, trivial, ⟨hA, bx⟩, by unfold rxmRIF_2 rxmRIF_3; omega⟩
theorem rxdRIF_2_0 {S0 : Nat → Int → Int} {ws : List Int} {S : Nat → Int → Int} {r : Int} (hP : rxPRIF S0 ws) (hin : bx_same rxL (bx_mdl rxCRIF.2.2.1) S0 S) (hin2 : bx_same rxL (bx_mdl rxCRIF.2.2.1) S S) (I0 : bx_Inv rxL S) (I1 : bx_Inv rxL S) (hinv : rxIRIF_2 S0 ws S r) (l8 : 0 ≤ r) (u8 : r ≤ 0) : (True) ∧ rxPSRIF S0 ws S (some 1) := by
  obtain ⟨hA, hr⟩ := hinv
  have bx : rzIs (rzCut (S 411)) (S 412 1) rzW_if (S 412 2) = false := by
    cases hb : rzIs (rzCut (S 411)) (S 412 1) rzW_if (S 412 2) with
    | false => rfl
    | true =>
      rw [hb, if_pos rfl] at hr
      omega
  rw [hA.1.1, hA.1.2.1] at bx
  exact ⟨trivial, rzAt_yes hA (rzAlt_n bx rfl)⟩
theorem rxcRIF_4_0 {S0 : Nat → Int → Int} {ws : List Int} {S : Nat → Int → Int} {x8 : Int} (hP : rxPRIF S0 ws) (hin : bx_same rxL (bx_mdl rxCRIF.2.2.1) S0 S) (I0 : bx_Inv rxL S) (hinv : rxIRIF_4 S0 ws S) (l8 : 0 ≤ x8) (u8 : x8 ≤ 1522) (e0 : S 427 10 = x8) : (True) ∧ (True) ∧ rxIRIF_5 S0 ws S x8 ∧ rxmRIF_5 S0 ws S x8 < rxmRIF_4 S0 ws S := by
  exact ⟨trivial, trivial, hinv, by unfold rxmRIF_4 rxmRIF_5; omega⟩
theorem rxdRIF_6_0 {S0 : Nat → Int → Int} {ws : List Int} {S : Nat → Int → Int} {sa res : Int} (hP : rxPRIF S0 ws) (hin : bx_same rxL (bx_mdl rxCRIF.2.2.1) S0 S) (hin2 : bx_same rxL (bx_mdl rxCRIF.2.2.1) S S) (I0 : bx_Inv rxL S) (I1 : bx_Inv rxL S) (hinv : rxIRIF_6 S0 ws S sa res) (l8 : 0 ≤ sa) (u8 : sa ≤ 1522) (l9 : 0 ≤ res) (u9 : res ≤ 1) : (True) ∧ rxPSRIF S0 ws S (some res) := by
  exact ⟨trivial, hinv⟩
noncomputable def rxCOCD : bx_Ct := ([(3, (2, 7, 0)), (0, (0, 0, 4)), (0, (0, (-1), 6)), (0, (0, (-1), 6))], none, [(6, 4), (1024, 0), (1025, 0), (1026, 0), (1027, 0)], 1, [])
noncomputable def rxIOCD_0 (S0 : Nat → Int → Int) (ws : List Int) (S : Nat → Int → Int) (pg ki st cu : Int) : Prop := S = S0 ∧ ws = [pg, ki, st, cu]
noncomputable def rxmOCD_0 (S0 : Nat → Int → Int) (ws : List Int) (S : Nat → Int → Int) (pg ki st cu : Int) : Nat := 10
noncomputable def rxPOCD (S0 : Nat → Int → Int) (ws : List Int) : Prop := True
noncomputable def rxPSOCD (S0 : Nat → Int → Int) (ws : List Int) (S : Nat → Int → Int) (w : Option Int) : Prop := w = none ∧ True
theorem rxdOCD_0_0 {S0 : Nat → Int → Int} {ws : List Int} {S : Nat → Int → Int} {pg ki st cu x12 : Int} (hP : rxPOCD S0 ws) (hin : bx_same rxL (bx_mdl rxCOCD.2.2.1) S0 S) (hin2 : bx_same rxL (bx_mdl rxCOCD.2.2.1) S S) (I0 : bx_Inv rxL S) (I1 : bx_Inv rxL S) (hinv : rxIOCD_0 S0 ws S pg ki st cu) (l8 : 0 ≤ pg) (u8 : pg ≤ 1522) (l9 : 0 ≤ ki) (u9 : ki ≤ 4) (l10 : (-1) ≤ st) (u10 : st ≤ 6) (l11 : (-1) ≤ cu) (u11 : cu ≤ 6) (l12 : 12 ≤ x12) (u12 : x12 ≤ 12) (e0 : S (pg).toNat 4 = x12) : (True) ∧ rxPSOCD S0 ws S none := by
  exact ⟨trivial, rfl, trivial⟩
theorem rxdOCD_0_1 {S0 : Nat → Int → Int} {ws : List Int} {S : Nat → Int → Int} {pg ki st cu x12 x13 x14 x15 : Int} (hP : rxPOCD S0 ws) (hin : bx_same rxL (bx_mdl rxCOCD.2.2.1) S0 S) (hin2 : bx_same rxL (bx_mdl rxCOCD.2.2.1) S (bx_up (bx_up (bx_up (bx_up (bx_up (bx_up (bx_up S (pg + 4).toNat x12 ki) (pg + 5).toNat x12 st) (pg + 6).toNat x12 cu) (x13).toNat x12 ((-1))) (x14).toNat x12 ((-1))) (x15).toNat x12 ((-1))) (pg).toNat 4 (x12 + 1))) (I0 : bx_Inv rxL S) (I1 : bx_Inv rxL (bx_up (bx_up (bx_up (bx_up (bx_up (bx_up (bx_up S (pg + 4).toNat x12 ki) (pg + 5).toNat x12 st) (pg + 6).toNat x12 cu) (x13).toNat x12 ((-1))) (x14).toNat x12 ((-1))) (x15).toNat x12 ((-1))) (pg).toNat 4 (x12 + 1))) (hinv : rxIOCD_0 S0 ws S pg ki st cu) (l8 : 0 ≤ pg) (u8 : pg ≤ 1522) (l9 : 0 ≤ ki) (u9 : ki ≤ 4) (l10 : (-1) ≤ st) (u10 : st ≤ 6) (l11 : (-1) ≤ cu) (u11 : cu ≤ 6) (l12 : 0 ≤ x12) (u12 : x12 ≤ 11) (l13 : 0 ≤ x13) (u13 : x13 ≤ 1522) (l14 : 0 ≤ x14) (u14 : x14 ≤ 1522) (l15 : 0 ≤ x15) (u15 : x15 ≤ 1522) (e13 : S (pg).toNat 4 = x12) (e12 : S (pg).toNat 5 = pg + 4) (e10 : (bx_up S (pg + 4).toNat x12 ki) (pg).toNat 6 = pg + 5) (e8 : (bx_up (bx_up S (pg + 4).toNat x12 ki) (pg + 5).toNat x12 st) (pg).toNat 7 = pg + 6) (e6 : (bx_up (bx_up (bx_up S (pg + 4).toNat x12 ki) (pg + 5).toNat x12 st) (pg + 6).toNat x12 cu) (pg).toNat 8 = x13) (e4 : (bx_up (bx_up (bx_up (bx_up S (pg + 4).toNat x12 ki) (pg + 5).toNat x12 st) (pg + 6).toNat x12 cu) (x13).toNat x12 ((-1))) (pg).toNat 9 = x14) (e2 : (bx_up (bx_up (bx_up (bx_up (bx_up S (pg + 4).toNat x12 ki) (pg + 5).toNat x12 st) (pg + 6).toNat x12 cu) (x13).toNat x12 ((-1))) (x14).toNat x12 ((-1))) (pg).toNat 10 = x15) : (True) ∧ rxPSOCD S0 ws (bx_up (bx_up (bx_up (bx_up (bx_up (bx_up (bx_up S (pg + 4).toNat x12 ki) (pg + 5).toNat x12 st) (pg + 6).toNat x12 cu) (x13).toNat x12 ((-1))) (x14).toNat x12 ((-1))) (x15).toNat x12 ((-1))) (pg).toNat 4 (x12 + 1)) none := by
  exact ⟨trivial, rfl, trivial⟩
noncomputable def rxCRLC : bx_Ct := ([(3, (1, 412, 0))], some (0, (0, 0, 1)), [(6, 0), (6, 4), (7, 2), (7, 3), (7, 4), (7, 7), (7, 8), (7, 10), (1021, 0), (1022, 0), (1024, 0), (1025, 0), (1026, 0), (1027, 0), (1034, 0), (1035, 0), (1036, 0)], 8, [(412, 0, 3, (1, 411, 0)), (412, 6, 3, (1, 427, 0))])
noncomputable def rxIRLC_0 (S0 : Nat → Int → Int) (ws : List Int) (S : Nat → Int → Int) : Prop := S = S0 ∧ ws = [412]
noncomputable def rxmRLC_0 (S0 : Nat → Int → Int) (ws : List Int) (S : Nat → Int → Int) : Nat := 1000
noncomputable def rxIRLC_1 (S0 : Nat → Int → Int) (ws : List Int) (S : Nat → Int → Int) : Prop := rzAt (rzLH (rzCut (S0 411)) (S0 412 1) (rzWs S0) (S0 412 2) (S0 412 7)) S0 S (rzLH (rzCut (S0 411)) (S0 412 1) (rzWs S0))
noncomputable def rxmRLC_1 (S0 : Nat → Int → Int) (ws : List Int) (S : Nat → Int → Int) : Nat := 900
noncomputable def rxIRLC_2 (S0 : Nat → Int → Int) (ws : List Int) (S : Nat → Int → Int) (r : Int) : Prop := rzAt (rzLH (rzCut (S0 411)) (S0 412 1) (rzWs S0) (S0 412 2) (S0 412 7)) S0 S (rzLH (rzCut (S0 411)) (S0 412 1) (rzWs S0)) ∧ r = (if rzIs (rzCut (S 411)) (S 412 1) rzW_bars (S 412 2) = true then 1 else 0)
noncomputable def rxmRLC_2 (S0 : Nat → Int → Int) (ws : List Int) (S : Nat → Int → Int) (r : Int) : Nat := 890
noncomputable def rxIRLC_3 (S0 : Nat → Int → Int) (ws : List Int) (S : Nat → Int → Int) (ba : Int) : Prop := rzAt (rzLH (rzCut (S0 411)) (S0 412 1) (rzWs S0) (S0 412 2) (S0 412 7)) S0 S (rzLH (rzCut (S0 411)) (S0 412 1) (rzWs S0)) ∧ ba = (if rzIs (rzCut (S0 411)) (S0 412 1) rzW_bars (S 412 2) = true then 1 else 0)
noncomputable def rxmRLC_3 (S0 : Nat → Int → Int) (ws : List Int) (S : Nat → Int → Int) (ba : Int) : Nat := 880
noncomputable def rxIRLC_4 (S0 : Nat → Int → Int) (ws : List Int) (S : Nat → Int → Int) (ba r : Int) : Prop := rzAt (rzLH (rzCut (S0 411)) (S0 412 1) (rzWs S0) (S0 412 2) (S0 412 7)) S0 S (rzLH (rzCut (S0 411)) (S0 412 1) (rzWs S0)) ∧ ba = (if rzIs (rzCut (S0 411)) (S0 412 1) rzW_bars (S 412 2) = true then 1 else 0) ∧ r = (if rzIs (rzCut (S 411)) (S 412 1) rzW_slips (S 412 2) = true then 1 else 0)
noncomputable def rxmRLC_4 (S0 : Nat → Int → Int) (ws : List Int) (S : Nat → Int → Int) (ba r : Int) : Nat := 870
noncomputable def rxIRLC_5 (S0 : Nat → Int → Int) (ws : List Int) (S : Nat → Int → Int) (ba sl : Int) : Prop := rzAt (rzLH (rzCut (S0 411)) (S0 412 1) (rzWs S0) (S0 412 2) (S0 412 7)) S0 S (rzLH (rzCut (S0 411)) (S0 412 1) (rzWs S0)) ∧ ba = 0 ∧ sl = 0 ∧ ba = (if rzIs (rzCut (S0 411)) (S0 412 1) rzW_bars (S 412 2) = true then 1 else 0) ∧ sl = (if rzIs (rzCut (S0 411)) (S0 412 1) rzW_slips (S 412 2) = true then 1 else 0)
noncomputable def rxmRLC_5 (S0 : Nat → Int → Int) (ws : List Int) (S : Nat → Int → Int) (ba sl : Int) : Nat := 860
noncomputable def rxIRLC_6 (S0 : Nat → Int → Int) (ws : List Int) (S : Nat → Int → Int) (ba sl r : Int) : Prop := rzAt (rzLH (rzCut (S0 411)) (S0 412 1) (rzWs S0) (S0 412 2) (S0 412 7)) S0 S (rzLH (rzCut (S0 411)) (S0 412 1) (rzWs S0)) ∧ ba = 0 ∧ sl = 0 ∧ ba = (if rzIs (rzCut (S0 411)) (S0 412 1) rzW_bars (S 412 2) = true then 1 else 0) ∧ sl = (if rzIs (rzCut (S0 411)) (S0 412 1) rzW_slips (S 412 2) = true then 1 else 0) ∧ r = (if rzIs (rzCut (S 411)) (S 412 1) rzW_hours (S 412 2) = true then 1 else 0)
noncomputable def rxmRLC_6 (S0 : Nat → Int → Int) (ws : List Int) (S : Nat → Int → Int) (ba sl r : Int) : Nat := 850
noncomputable def rxIRLC_7 (S0 : Nat → Int → Int) (ws : List Int) (S : Nat → Int → Int) (ba sl : Int) : Prop := rzAt (rzLH (rzCut (S0 411)) (S0 412 1) (rzWs S0) (S0 412 2) (S0 412 7)) S0 S (rzLH (rzCut (S0 411)) (S0 412 1) (rzWs S0)) ∧ ((ba = 1 ∧ rzIs (rzCut (S0 411)) (S0 412 1) rzW_bars (S 412 2) = true) ∨ (ba = 0 ∧ rzIs (rzCut (S0 411)) (S0 412 1) rzW_bars (S 412 2) = false ∧ (rzIs (rzCut (S0 411)) (S0 412 1) rzW_slips (S 412 2) || rzIs (rzCut (S0 411)) (S0 412 1) rzW_hours (S 412 2)) = true))
noncomputable def rxmRLC_7 (S0 : Nat → Int → Int) (ws : List Int) (S : Nat → Int → Int) (ba sl : Int) : Nat := 840
noncomputable def rxIRLC_8 (S0 : Nat → Int → Int) (ws : List Int) (S : Nat → Int → Int) (ba sl : Int) : Prop := rzAt (rzLH (rzCut (S0 411)) (S0 412 1) (rzWs S0) (S0 412 2) (S0 412 7)) S0 S ((fun f lf r => rzAlt (decide (ba = 1)) (r = (true, f, lf)) (rzEx (rzCut (S0 411)) (S0 412 1) (rzWs S0) 0 f lf r)))
noncomputable def rxmRLC_8 (S0 : Nat → Int → Int) (ws : List Int) (S : Nat → Int → Int) (ba sl : Int) : Nat := 830
noncomputable def rxIRLC_9 (S0 : Nat → Int → Int) (ws : List Int) (S : Nat → Int → Int) (ba sl ki : Int) : Prop := rzAt (rzLH (rzCut (S0 411)) (S0 412 1) (rzWs S0) (S0 412 2) (S0 412 7)) S0 S ((fun f lf r => rzAlt (decide (ba = 1)) (r = (true, f, lf)) (rzEx (rzCut (S0 411)) (S0 412 1) (rzWs S0) 0 f lf r)))
noncomputable def rxmRLC_9 (S0 : Nat → Int → Int) (ws : List Int) (S : Nat → Int → Int) (ba sl ki : Int) : Nat := 820
noncomputable def rxIRLC_10 (S0 : Nat → Int → Int) (ws : List Int) (S : Nat → Int → Int) (ba sl ki : Int) : Prop := rzAt (rzLH (rzCut (S0 411)) (S0 412 1) (rzWs S0) (S0 412 2) (S0 412 7)) S0 S ((fun f lf r => rzAlt (decide (ba = 1)) (r = (true, f, lf)) (rzEx (rzCut (S0 411)) (S0 412 1) (rzWs S0) 0 f lf r)))
noncomputable def rxmRLC_10 (S0 : Nat → Int → Int) (ws : List Int) (S : Nat → Int → Int) (ba sl ki : Int) : Nat := 810
noncomputable def rxIRLC_11 (S0 : Nat → Int → Int) (ws : List Int) (S : Nat → Int → Int) (ba sl sa : Int) : Prop := rzAt (rzLH (rzCut (S0 411)) (S0 412 1) (rzWs S0) (S0 412 2) (S0 412 7)) S0 S (rzEx (rzCut (S0 411)) (S0 412 1) (rzWs S0) 0)
noncomputable def rxmRLC_11 (S0 : Nat → Int → Int) (ws : List Int) (S : Nat → Int → Int) (ba sl sa : Int) : Nat := 700
noncomputable def rxIRLC_12 (S0 : Nat → Int → Int) (ws : List Int) (S : Nat → Int → Int) (ba sl sa res : Int) : Prop := rzOc (rzLH (rzCut (S0 411)) (S0 412 1) (rzWs S0) (S0 412 2) (S0 412 7)) S0 S (some res)
noncomputable def rxmRLC_12 (S0 : Nat → Int → Int) (ws : List Int) (S : Nat → Int → Int) (ba sl sa res : Int) : Nat := 690
noncomputable def rxPRLC (S0 : Nat → Int → Int) (ws : List Int) : Prop := rzDt S0
noncomputable def rxPSRLC (S0 : Nat → Int → Int) (ws : List Int) (S : Nat → Int → Int) (w : Option Int) : Prop := rzOc (rzLH (rzCut (S0 411)) (S0 412 1) (rzWs S0) (S0 412 2) (S0 412 7)) S0 S w
theorem rxkRLC_1 {S0 : Nat → Int → Int} {ws : List Int} {S : Nat → Int → Int} (hP : rxPRLC S0 ws) (hin : bx_same rxL (bx_mdl rxCRLC.2.2.1) S0 S) (I0 : bx_Inv rxL S) (hinv : rxIRLC_1 S0 ws S)  : rxPIWX S [412, 525] ∧ ∀ (S_p : Nat → Int → Int) (r : Int), 0 ≤ r → r ≤ 1 → rxPSIWX S [412, 525] S_p (some r) → bx_Inv rxL S_p → bx_same rxL (bx_mdl rxC59.2.2.1) S S_p → rxIRLC_2 S0 ws S_p r ∧ rxmRLC_2 S0 ws S_p r < rxmRLC_1 S0 ws S := by
  obtain ⟨hA1, hA2, hA3⟩ := hinv
  have hD := hA2
  refine ⟨⟨rzDt.s3 hD, 525, rfl, by omega, by omega⟩, fun S_p r _ _ hq _ _ => ⟨?_, by unfold rxmRLC_1 rxmRLC_2; omega⟩⟩
  obtain ⟨rfl, k, hk, hr⟩ := hq
  have hk : (525 : Int) = k := Option.some.inj (congrArg (fun l : List Int => l[1]?) hk)
  subst hk
  have hr := Option.some.inj hr
  rw [hD.1] at hr
  exact ⟨⟨hA1, hA2, hA3⟩, hr⟩
theorem rxkRLC_3 {S0 : Nat → Int → Int} {ws : List Int} {S : Nat → Int → Int} {ba : Int} (hP : rxPRLC S0 ws) (hin : bx_same rxL (bx_mdl rxCRLC.2.2.1) S0 S) (I0 : bx_Inv rxL S) (hinv : rxIRLC_3 S0 ws S ba) (l8 : 0 ≤ ba) (u8 : ba ≤ 1) : rxPIWX S [412, 542] ∧ ∀ (S_p : Nat → Int → Int) (r : Int), 0 ≤ r → r ≤ 1 → rxPSIWX S [412, 542] S_p (some r) → bx_Inv rxL S_p → bx_same rxL (bx_mdl rxC59.2.2.1) S S_p → rxIRLC_4 S0 ws S_p ba r ∧ rxmRLC_4 S0 ws S_p ba r < rxmRLC_3 S0 ws S ba := by
  obtain ⟨hA, h1⟩ := hinv
  have hD := hA.2.1
  refine ⟨⟨rzDt.s3 hD, 542, rfl, by omega, by omega⟩, fun S_p r _ _ hq _ _ => ⟨?_, by unfold rxmRLC_3 rxmRLC_4; omega⟩⟩
  obtain ⟨rfl, k, hk, hr⟩ := hq
  have hk : (542 : Int) = k := Option.some.inj (congrArg (fun l : List Int => l[1]?) hk)
  subst hk
  have hr := Option.some.inj hr
  rw [hD.1] at hr
  exact ⟨hA, h1, hr⟩
theorem rxkRLC_5 {S0 : Nat → Int → Int} {ws : List Int} {S : Nat → Int → Int} {ba sl : Int} (hP : rxPRLC S0 ws) (hin : bx_same rxL (bx_mdl rxCRLC.2.2.1) S0 S) (I0 : bx_Inv rxL S) (hinv : rxIRLC_5 S0 ws S ba sl) (l8 : 0 ≤ ba) (u8 : ba ≤ 1) (l9 : 0 ≤ sl) (u9 : sl ≤ 1) : rxPIWX S [412, 530] ∧ ∀ (S_p : Nat → Int → Int) (r : Int), 0 ≤ r → r ≤ 1 → rxPSIWX S [412, 530] S_p (some r) → bx_Inv rxL S_p → bx_same rxL (bx_mdl rxC59.2.2.1) S S_p → rxIRLC_6 S0 ws S_p ba sl r ∧ rxmRLC_6 S0 ws S_p ba sl r < rxmRLC_5 S0 ws S ba sl := by
  obtain ⟨hA, z1, z2, h1, h2⟩ := hinv
  have hD := hA.2.1
  refine ⟨⟨rzDt.s3 hD, 530, rfl, by omega, by omega⟩, fun S_p r _ _ hq _ _ => ⟨?_, by unfold rxmRLC_5 rxmRLC_6; omega⟩⟩
  obtain ⟨rfl, k, hk, hr⟩ := hq
  have hk : (530 : Int) = k := Option.some.inj (congrArg (fun l : List Int => l[1]?) hk)
  subst hk
  have hr := Option.some.inj hr
  rw [hD.1] at hr
  exact ⟨hA, z1, z2, h1, h2, hr⟩
theorem rxkRLC_7 {S0 : Nat → Int → Int} {ws : List Int} {S : Nat → Int → Int} {ba sl : Int} (hP : rxPRLC S0 ws) (hin : bx_same rxL (bx_mdl rxCRLC.2.2.1) S0 S) (I0 : bx_Inv rxL S) (hinv : rxIRLC_7 S0 ws S ba sl) (l8 : 0 ≤ ba) (u8 : ba ≤ 1) (l9 : 0 ≤ sl) (u9 : sl ≤ 1) : rxPAD S [412] ∧ ∀ (S_p : Nat → Int → Int), rxPSAD S [412] S_p none → bx_Inv rxL S_p → bx_same rxL (bx_mdl rxC84.2.2.1) S S_p → rxIRLC_8 S0 ws S_p ba sl ∧ rxmRLC_8 S0 ws S_p ba sl < rxmRLC_7 S0 ws S ba sl := by
  obtain ⟨hA, hc⟩ := hinv
  refine ⟨trivial, fun S_p hq _ hsm => ⟨rzAt_ad hA hsm (by decide +kernel) (by decide +kernel) (by decide +kernel) (by decide +kernel) (by decide +kernel) hq.2.1 hq.2.2 (fun r q => ?_), by unfold rxmRLC_7 rxmRLC_8; omega⟩⟩
  rcases hc with ⟨b1, b2⟩ | ⟨b1, b2, b3⟩
  · rcases q with ⟨c1, c2⟩ | ⟨c1, c2⟩
    · exact rzAlt_y b2 c2
    · exact absurd b1 (of_decide_eq_false c1)
  · rcases q with ⟨c1, c2⟩ | ⟨c1, c2⟩
    · have c3 := of_decide_eq_true c1
      omega
    · exact rzAlt_n b2 (rzAlt_y b3 c2)
theorem rxkRLC_9 {S0 : Nat → Int → Int} {ws : List Int} {S : Nat → Int → Int} {ba sl ki : Int} (hP : rxPRLC S0 ws) (hin : bx_same rxL (bx_mdl rxCRLC.2.2.1) S0 S) (I0 : bx_Inv rxL S) (hinv : rxIRLC_9 S0 ws S ba sl ki) (l8 : 0 ≤ ba) (u8 : ba ≤ 1) (l9 : 0 ≤ sl) (u9 : sl ≤ 1) (l10 : 0 ≤ ki) (u10 : ki ≤ 4) : rxPOCD S [427, ki, (-1), (-1)] ∧ ∀ (S_p : Nat → Int → Int), rxPSOCD S [427, ki, (-1), (-1)] S_p none → bx_Inv rxL S_p → bx_same rxL (bx_mdl rxCOCD.2.2.1) S S_p → rxIRLC_10 S0 ws S_p ba sl ki ∧ rxmRLC_10 S0 ws S_p ba sl ki < rxmRLC_9 S0 ws S ba sl ki := by
  obtain ⟨hA1, hA2, hA3⟩ := hinv
  have hA : rzAt (rzLH (rzCut (S0 411)) (S0 412 1) (rzWs S0) (S0 412 2) (S0 412 7)) S0 S ((fun f lf r => rzAlt (decide (ba = 1)) (r = (true, f, lf)) (rzEx (rzCut (S0 411)) (S0 412 1) (rzWs S0) 0 f lf r))) := ⟨hA1, hA2, hA3⟩
  refine ⟨trivial, fun S_p hq _ hsm => ⟨rzAt_sm hA hsm (by decide +kernel) (by decide +kernel) (by decide +kernel) (by decide +kernel) (by decide +kernel) (by decide +kernel) (by decide +kernel), by unfold rxmRLC_9 rxmRLC_10; omega⟩⟩
theorem rxkRLC_11 {S0 : Nat → Int → Int} {ws : List Int} {S : Nat → Int → Int} {ba sl sa : Int} (hP : rxPRLC S0 ws) (hin : bx_same rxL (bx_mdl rxCRLC.2.2.1) S0 S) (I0 : bx_Inv rxL S) (hinv : rxIRLC_11 S0 ws S ba sl sa) (l8 : 0 ≤ ba) (u8 : ba ≤ 1) (l9 : 0 ≤ sl) (u9 : sl ≤ 1) (l10 : 0 ≤ sa) (u10 : sa ≤ 1522) : rxPRED S [412, sa, 0] ∧ ∀ (S_p : Nat → Int → Int) (res : Int), 0 ≤ res → res ≤ 1 → rxPSRED S [412, sa, 0] S_p (some res) → bx_Inv rxL S_p → bx_same rxL (bx_mdl rxCRED.2.2.1) S S_p → rxIRLC_12 S0 ws S_p ba sl sa res ∧ rxmRLC_12 S0 ws S_p ba sl sa res < rxmRLC_11 S0 ws S ba sl sa := by
  obtain ⟨hA1, hA2, hA3⟩ := hinv
  have hA : rzAt (rzLH (rzCut (S0 411)) (S0 412 1) (rzWs S0) (S0 412 2) (S0 412 7)) S0 S (rzEx (rzCut (S0 411)) (S0 412 1) (rzWs S0) 0) := ⟨hA1, hA2, hA3⟩
  refine ⟨hA.2.1, fun S_p res _ _ hq _ _ => ⟨?_, by unfold rxmRLC_11 rxmRLC_12; omega⟩⟩
  obtain ⟨sa, sg, hk, hq⟩ := hq
  have hk : (0 : Int) = sg := Option.some.inj (congrArg (fun l : List Int => l[2]?) hk)
  subst hk
  have hw : rzWs S = rzWs S0 := rzKp.ws hA.1
  rw [hA.1.1, hA.1.2.1, hw] at hq
  have q : rzOc (rzEx (rzCut (S0 411)) (S0 412 1) (rzWs S0) 0 (S 412 2) (S 412 7)) S S_p (some res) := by
    rcases hq with ⟨q1, r, q2, q3, q4, q5, q6, q7⟩ | ⟨q1, r, q2, q3, q4⟩
    · exact ⟨r, q2, Or.inl ⟨q1, q3, q4, q5, q6, q7⟩⟩
    · exact ⟨r, q2, Or.inr ⟨q1, q3, q4⟩⟩
  exact rzAt_tail hA (fun r q => q) q
theorem rxcRLC_0_0 {S0 : Nat → Int → Int} {ws : List Int} {S : Nat → Int → Int} (hP : rxPRLC S0 ws) (hin : bx_same rxL (bx_mdl rxCRLC.2.2.1) S0 S) (I0 : bx_Inv rxL S) (hinv : rxIRLC_0 S0 ws S)  : (True) ∧ (True) ∧ rxIRLC_1 S0 ws S ∧ rxmRLC_1 S0 ws S < rxmRLC_0 S0 ws S := by
  obtain ⟨rfl, hw⟩ := hinv
  exact ⟨trivial, trivial, ⟨rzKp_rf, hP, fun r q => q⟩, by unfold rxmRLC_0 rxmRLC_1; omega⟩
theorem rxcRLC_2_0 {S0 : Nat → Int → Int} {ws : List Int} {S : Nat → Int → Int} {r : Int} (hP : rxPRLC S0 ws) (hin : bx_same rxL (bx_mdl rxCRLC.2.2.1) S0 S) (I0 : bx_Inv rxL S) (hinv : rxIRLC_2 S0 ws S r) (l8 : 0 ≤ r) (u8 : r ≤ 1) : (True) ∧ (True) ∧ rxIRLC_3 S0 ws S r ∧ rxmRLC_3 S0 ws S r < rxmRLC_2 S0 ws S r := by
  obtain ⟨hA, hr⟩ := hinv
  rw [hA.1.1, hA.1.2.1] at hr
  exact ⟨trivial, trivial, ⟨hA, hr⟩, by unfold rxmRLC_2 rxmRLC_3; omega⟩
theorem rxcRLC_4_0 {S0 : Nat → Int → Int} {ws : List Int} {S : Nat → Int → Int} {ba r : Int} (hP : rxPRLC S0 ws) (hin : bx_same rxL (bx_mdl rxCRLC.2.2.1) S0 S) (I0 : bx_Inv rxL S) (hinv : rxIRLC_4 S0 ws S ba r) (l8 : 0 ≤ ba) (u8 : ba ≤ 0) (l9 : 0 ≤ r) (u9 : r ≤ 0) : (True) ∧ (True) ∧ rxIRLC_5 S0 ws S ba r ∧ rxmRLC_5 S0 ws S ba r < rxmRLC_4 S0 ws S ba r := by
  obtain ⟨hA, h1, hr⟩ := hinv
  rw [hA.1.1, hA.1.2.1] at hr
  exact ⟨trivial, trivial, ⟨hA, by omega, by omega, h1, hr⟩, by unfold rxmRLC_4 rxmRLC_5; omega⟩
theorem rxcRLC_4_1 {S0 : Nat → Int → Int} {ws : List Int} {S : Nat → Int → Int} {ba r : Int} (hP : rxPRLC S0 ws) (hin : bx_same rxL (bx_mdl rxCRLC.2.2.1) S0 S) (I0 : bx_Inv rxL S) (hinv : rxIRLC_4 S0 ws S ba r) (l8 : 0 ≤ ba) (u8 : ba ≤ 0) (l9 : 1 ≤ r) (u9 : r ≤ 1) (f0 : r ≠ 0) : (True) ∧ (True) ∧ rxIRLC_7 S0 ws S ba r ∧ rxmRLC_7 S0 ws S ba r < rxmRLC_4 S0 ws S ba r := by
  obtain ⟨hA, h1, hr⟩ := hinv
  rw [hA.1.1, hA.1.2.1] at hr
  have b1 : rzIs (rzCut (S0 411)) (S0 412 1) rzW_bars (S 412 2) = false := by
    cases hb : rzIs (rzCut (S0 411)) (S0 412 1) rzW_bars (S 412 2) with
    | false => rfl
    | true =>
      rw [hb, if_pos rfl] at h1
      omega
  have b2 : rzIs (rzCut (S0 411)) (S0 412 1) rzW_slips (S 412 2) = true := by
    cases hb : rzIs (rzCut (S0 411)) (S0 412 1) rzW_slips (S 412 2) with
    | true => rfl
    | false =>
      rw [hb, if_neg (by decide)] at hr
      omega
  exact ⟨trivial, trivial, ⟨hA, Or.inr ⟨by omega, b1, by rw [b2]; rfl⟩⟩, by unfold rxmRLC_4 rxmRLC_7; omega⟩
theorem rxcRLC_4_2 {S0 : Nat → Int → Int} {ws : List Int} {S : Nat → Int → Int} {ba r : Int} (hP : rxPRLC S0 ws) (hin : bx_same rxL (bx_mdl rxCRLC.2.2.1) S0 S) (I0 : bx_Inv rxL S) (hinv : rxIRLC_4 S0 ws S ba r) (l8 : 1 ≤ ba) (u8 : ba ≤ 1) (l9 : 0 ≤ r) (u9 : r ≤ 1) (f0 : ba ≠ 0) : (True) ∧ (True) ∧ rxIRLC_7 S0 ws S ba r ∧ rxmRLC_7 S0 ws S ba r < rxmRLC_4 S0 ws S ba r := by
  obtain ⟨hA, h1, hr⟩ := hinv
  rw [hA.1.1, hA.1.2.1] at hr
  have b1 : rzIs (rzCut (S0 411)) (S0 412 1) rzW_bars (S 412 2) = true := by
    cases hb : rzIs (rzCut (S0 411)) (S0 412 1) rzW_bars (S 412 2) with
    | true => rfl
    | false =>
      rw [hb, if_neg (by decide)] at h1
      omega
  exact ⟨trivial, trivial, ⟨hA, Or.inl ⟨by omega, b1⟩⟩, by unfold rxmRLC_4 rxmRLC_7; omega⟩
theorem rxcRLC_6_0 {S0 : Nat → Int → Int} {ws : List Int} {S : Nat → Int → Int} {ba sl r : Int} (hP : rxPRLC S0 ws) (hin : bx_same rxL (bx_mdl rxCRLC.2.2.1) S0 S) (I0 : bx_Inv rxL S) (hinv : rxIRLC_6 S0 ws S ba sl r) (l8 : 0 ≤ ba) (u8 : ba ≤ 1) (l9 : 0 ≤ sl) (u9 : sl ≤ 1) (l10 : 1 ≤ r) (u10 : r ≤ 1) (f0 : r ≠ 0) : (True) ∧ (True) ∧ rxIRLC_7 S0 ws S ba sl ∧ rxmRLC_7 S0 ws S ba sl < rxmRLC_6 S0 ws S ba sl r := by
  obtain ⟨hA, z1, z2, h1, h2, hr⟩ := hinv
  rw [hA.1.1, hA.1.2.1] at hr
  have b1 : rzIs (rzCut (S0 411)) (S0 412 1) rzW_bars (S 412 2) = false := by
    cases hb : rzIs (rzCut (S0 411)) (S0 412 1) rzW_bars (S 412 2) with
    | false => rfl
    | true =>
      rw [hb, if_pos rfl] at h1
      omega
  have b2 : rzIs (rzCut (S0 411)) (S0 412 1) rzW_slips (S 412 2) = false := by
    cases hb : rzIs (rzCut (S0 411)) (S0 412 1) rzW_slips (S 412 2) with
    | false => rfl
    | true =>
      rw [hb, if_pos rfl] at h2
      omega
  have b3 : rzIs (rzCut (S0 411)) (S0 412 1) rzW_hours (S 412 2) = true := by
    cases hb : rzIs (rzCut (S0 411)) (S0 412 1) rzW_hours (S 412 2) with
    | true => rfl
    | false =>
      rw [hb, if_neg (by decide)] at hr
      omega
  exact ⟨trivial, trivial, ⟨hA, Or.inr ⟨z1, b1, by rw [b2, b3]; rfl⟩⟩, by unfold rxmRLC_6 rxmRLC_7; omega⟩
theorem rxdRLC_6_0 {S0 : Nat → Int → Int} {ws : List Int} {S : Nat → Int → Int} {ba sl r x11 : Int} (hP : rxPRLC S0 ws) (hin : bx_same rxL (bx_mdl rxCRLC.2.2.1) S0 S) (hin2 : bx_same rxL (bx_mdl rxCRLC.2.2.1) S (bx_up S 412 4 x11)) (I0 : bx_Inv rxL S) (I1 : bx_Inv rxL (bx_up S 412 4 x11)) (hinv : rxIRLC_6 S0 ws S ba sl r) (l8 : 0 ≤ ba) (u8 : ba ≤ 1) (l9 : 0 ≤ sl) (u9 : sl ≤ 1) (l10 : 0 ≤ r) (u10 : r ≤ 0) (l11 : 0 ≤ x11) (u11 : x11 ≤ 400) (e1 : S 412 2 = x11) : (True) ∧ rxPSRLC S0 ws (bx_up S 412 4 x11) (some 0) := by
  obtain ⟨hA, z1, z2, h1, h2, hr⟩ := hinv
  rw [hA.1.1, hA.1.2.1] at hr
  have b1 : rzIs (rzCut (S0 411)) (S0 412 1) rzW_bars (S 412 2) = false := by
    cases hb : rzIs (rzCut (S0 411)) (S0 412 1) rzW_bars (S 412 2) with
    | false => rfl
    | true =>
      rw [hb, if_pos rfl] at h1
      omega
  have b2 : rzIs (rzCut (S0 411)) (S0 412 1) rzW_slips (S 412 2) = false := by
    cases hb : rzIs (rzCut (S0 411)) (S0 412 1) rzW_slips (S 412 2) with
    | false => rfl
    | true =>
      rw [hb, if_pos rfl] at h2
      omega
  have b3 : rzIs (rzCut (S0 411)) (S0 412 1) rzW_hours (S 412 2) = false := by
    cases hb : rzIs (rzCut (S0 411)) (S0 412 1) rzW_hours (S 412 2) with
    | false => rfl
    | true =>
      rw [hb, if_pos rfl] at hr
      omega
  exact ⟨trivial, rzAt_no hA (rzAlt_n b1 (rzAlt_n (by rw [b2, b3]; rfl) rfl)) (bx_up_at.trans e1.symm)⟩
theorem rxcRLC_8_0 {S0 : Nat → Int → Int} {ws : List Int} {S : Nat → Int → Int} {ba sl : Int} (hP : rxPRLC S0 ws) (hin : bx_same rxL (bx_mdl rxCRLC.2.2.1) S0 S) (I0 : bx_Inv rxL S) (hinv : rxIRLC_8 S0 ws S ba sl) (l8 : 1 ≤ ba) (u8 : ba ≤ 1) (l9 : 0 ≤ sl) (u9 : sl ≤ 1) (f0 : ba ≠ 0) : (True) ∧ (True) ∧ rxIRLC_9 S0 ws S ba sl 2 ∧ rxmRLC_9 S0 ws S ba sl 2 < rxmRLC_8 S0 ws S ba sl := by
  exact ⟨trivial, trivial, hinv, by unfold rxmRLC_8 rxmRLC_9; omega⟩
theorem rxcRLC_8_1 {S0 : Nat → Int → Int} {ws : List Int} {S : Nat → Int → Int} {ba sl : Int} (hP : rxPRLC S0 ws) (hin : bx_same rxL (bx_mdl rxCRLC.2.2.1) S0 S) (I0 : bx_Inv rxL S) (hinv : rxIRLC_8 S0 ws S ba sl) (l8 : 0 ≤ ba) (u8 : ba ≤ 0) (l9 : 1 ≤ sl) (u9 : sl ≤ 1) (f0 : sl ≠ 0) : (True) ∧ (True) ∧ rxIRLC_9 S0 ws S ba sl 0 ∧ rxmRLC_9 S0 ws S ba sl 0 < rxmRLC_8 S0 ws S ba sl := by
  exact ⟨trivial, trivial, hinv, by unfold rxmRLC_8 rxmRLC_9; omega⟩
theorem rxcRLC_8_2 {S0 : Nat → Int → Int} {ws : List Int} {S : Nat → Int → Int} {ba sl : Int} (hP : rxPRLC S0 ws) (hin : bx_same rxL (bx_mdl rxCRLC.2.2.1) S0 S) (I0 : bx_Inv rxL S) (hinv : rxIRLC_8 S0 ws S ba sl) (l8 : 0 ≤ ba) (u8 : ba ≤ 0) (l9 : 0 ≤ sl) (u9 : sl ≤ 0) : (True) ∧ (True) ∧ rxIRLC_9 S0 ws S ba sl 1 ∧ rxmRLC_9 S0 ws S ba sl 1 < rxmRLC_8 S0 ws S ba sl := by
  exact ⟨trivial, trivial, hinv, by unfold rxmRLC_8 rxmRLC_9; omega⟩
theorem rxcRLC_10_0 {S0 : Nat → Int → Int} {ws : List Int} {S : Nat → Int → Int} {ba sl ki x11 : Int} (hP : rxPRLC S0 ws) (hin : bx_same rxL (bx_mdl rxCRLC.2.2.1) S0 S) (I0 : bx_Inv rxL S) (hinv : rxIRLC_10 S0 ws S ba sl ki) (l8 : 0 ≤ ba) (u8 : ba ≤ 0) (l9 : 0 ≤ sl) (u9 : sl ≤ 1) (l10 : 0 ≤ ki) (u10 : ki ≤ 4) (l11 : 0 ≤ x11) (u11 : x11 ≤ 1522) (e0 : S 427 8 = x11) : (True) ∧ (True) ∧ rxIRLC_11 S0 ws S ba sl x11 ∧ rxmRLC_11 S0 ws S ba sl x11 < rxmRLC_10 S0 ws S ba sl ki := by
  have hA : rzAt (rzLH (rzCut (S0 411)) (S0 412 1) (rzWs S0) (S0 412 2) (S0 412 7)) S0 S ((fun f lf r => rzAlt (decide (ba = 1)) (r = (true, f, lf)) (rzEx (rzCut (S0 411)) (S0 412 1) (rzWs S0) 0 f lf r))) := hinv
  exact ⟨trivial, trivial, rzAt_im hA fun r q => rzAlt_n (decide_eq_false (by omega)) q, by unfold rxmRLC_10 rxmRLC_11; omega⟩
theorem rxdRLC_10_0 {S0 : Nat → Int → Int} {ws : List Int} {S : Nat → Int → Int} {ba sl ki : Int} (hP : rxPRLC S0 ws) (hin : bx_same rxL (bx_mdl rxCRLC.2.2.1) S0 S) (hin2 : bx_same rxL (bx_mdl rxCRLC.2.2.1) S S) (I0 : bx_Inv rxL S) (I1 : bx_Inv rxL S) (hinv : rxIRLC_10 S0 ws S ba sl ki) (l8 : 1 ≤ ba) (u8 : ba ≤ 1) (l9 : 0 ≤ sl) (u9 : sl ≤ 1) (l10 : 0 ≤ ki) (u10 : ki ≤ 4) (f0 : ba ≠ 0) : (True) ∧ rxPSRLC S0 ws S (some 1) := by
  have hA : rzAt (rzLH (rzCut (S0 411)) (S0 412 1) (rzWs S0) (S0 412 2) (S0 412 7)) S0 S ((fun f lf r => rzAlt (decide (ba = 1)) (r = (true, f, lf)) (rzEx (rzCut (S0 411)) (S0 412 1) (rzWs S0) 0 f lf r))) := hinv
  exact ⟨trivial, rzAt_yes hA (rzAlt_y (decide_eq_true (by omega)) rfl)⟩
theorem rxdRLC_12_0 {S0 : Nat → Int → Int} {ws : List Int} {S : Nat → Int → Int} {ba sl sa res : Int} (hP : rxPRLC S0 ws) (hin : bx_same rxL (bx_mdl rxCRLC.2.2.1) S0 S) (hin2 : bx_same rxL (bx_mdl rxCRLC.2.2.1) S S) (I0 : bx_Inv rxL S) (I1 : bx_Inv rxL S) (hinv : rxIRLC_12 S0 ws S ba sl sa res) (l8 : 0 ≤ ba) (u8 : ba ≤ 1) (l9 : 0 ≤ sl) (u9 : sl ≤ 1) (l10 : 0 ≤ sa) (u10 : sa ≤ 1522) (l11 : 1 ≤ res) (u11 : res ≤ 1) (f0 : res ≠ 0) : (True) ∧ rxPSRLC S0 ws S (some 1) := by
  have hx : rzOc (rzLH (rzCut (S0 411)) (S0 412 1) (rzWs S0) (S0 412 2) (S0 412 7)) S0 S (some res) := hinv
  rw [show res = 1 by omega] at hx
  exact ⟨trivial, hx⟩
theorem rxdRLC_12_1 {S0 : Nat → Int → Int} {ws : List Int} {S : Nat → Int → Int} {ba sl sa res : Int} (hP : rxPRLC S0 ws) (hin : bx_same rxL (bx_mdl rxCRLC.2.2.1) S0 S) (hin2 : bx_same rxL (bx_mdl rxCRLC.2.2.1) S S) (I0 : bx_Inv rxL S) (I1 : bx_Inv rxL S) (hinv : rxIRLC_12 S0 ws S ba sl sa res) (l8 : 0 ≤ ba) (u8 : ba ≤ 1) (l9 : 0 ≤ sl) (u9 : sl ≤ 1) (l10 : 0 ≤ sa) (u10 : sa ≤ 1522) (l11 : 0 ≤ res) (u11 : res ≤ 0) : (True) ∧ rxPSRLC S0 ws S (some 0) := by
  have hx : rzOc (rzLH (rzCut (S0 411)) (S0 412 1) (rzWs S0) (S0 412 2) (S0 412 7)) S0 S (some res) := hinv
  rw [show res = 0 by omega] at hx
  exact ⟨trivial, hx⟩
noncomputable def rxCRPC : bx_Ct := ([(3, (1, 412, 0))], some (0, (0, 0, 1)), [(6, 0), (6, 4), (7, 2), (7, 3), (7, 4), (7, 7), (7, 8), (7, 10), (1021, 0), (1022, 0), (1024, 0), (1025, 0), (1026, 0), (1027, 0), (1034, 0), (1035, 0), (1036, 0)], 8, [(412, 0, 3, (1, 411, 0)), (412, 6, 3, (1, 427, 0))])
noncomputable def rxIRPC_0 (S0 : Nat → Int → Int) (ws : List Int) (S : Nat → Int → Int) : Prop := S = S0 ∧ ws = [412]
noncomputable def rxmRPC_0 (S0 : Nat → Int → Int) (ws : List Int) (S : Nat → Int → Int) : Nat := 1000
noncomputable def rxIRPC_1 (S0 : Nat → Int → Int) (ws : List Int) (S : Nat → Int → Int) : Prop := rzAt (rzPH (rzCut (S0 411)) (S0 412 1) (rzWs S0) (S0 412 2) (S0 412 7)) S0 S (rzPH (rzCut (S0 411)) (S0 412 1) (rzWs S0))
noncomputable def rxmRPC_1 (S0 : Nat → Int → Int) (ws : List Int) (S : Nat → Int → Int) : Nat := 900
noncomputable def rxIRPC_2 (S0 : Nat → Int → Int) (ws : List Int) (S : Nat → Int → Int) (r : Int) : Prop := ((r = 1 ∧ rzAt (rzPH (rzCut (S0 411)) (S0 412 1) (rzWs S0) (S0 412 2) (S0 412 7)) S0 S (rzPH1 (rzCut (S0 411)) (S0 412 1) (rzWs S0))) ∨ (r = 0 ∧ rzOc (rzPH (rzCut (S0 411)) (S0 412 1) (rzWs S0) (S0 412 2) (S0 412 7)) S0 S (some 0)))
noncomputable def rxmRPC_2 (S0 : Nat → Int → Int) (ws : List Int) (S : Nat → Int → Int) (r : Int) : Nat := 890
noncomputable def rxIRPC_3 (S0 : Nat → Int → Int) (ws : List Int) (S : Nat → Int → Int) : Prop := rzAt (rzPH (rzCut (S0 411)) (S0 412 1) (rzWs S0) (S0 412 2) (S0 412 7)) S0 S (rzPH1 (rzCut (S0 411)) (S0 412 1) (rzWs S0))
noncomputable def rxmRPC_3 (S0 : Nat → Int → Int) (ws : List Int) (S : Nat → Int → Int) : Nat := 880
noncomputable def rxIRPC_4 (S0 : Nat → Int → Int) (ws : List Int) (S : Nat → Int → Int) (pl : Int) : Prop := rzAt (rzPH (rzCut (S0 411)) (S0 412 1) (rzWs S0) (S0 412 2) (S0 412 7)) S0 S (rzPH1 (rzCut (S0 411)) (S0 412 1) (rzWs S0)) ∧ pl = rzPv (rzCut (S0 411)) (S0 412 1) (S 412 2)
noncomputable def rxmRPC_4 (S0 : Nat → Int → Int) (ws : List Int) (S : Nat → Int → Int) (pl : Int) : Nat := 870
noncomputable def rxIRPC_5 (S0 : Nat → Int → Int) (ws : List Int) (S : Nat → Int → Int) (st : Int) : Prop := rzAt (rzPH (rzCut (S0 411)) (S0 412 1) (rzWs S0) (S0 412 2) (S0 412 7)) S0 S (rzPH1 (rzCut (S0 411)) (S0 412 1) (rzWs S0)) ∧ rzPlc (rzCut (S0 411)) (S0 412 1) (S 412 2) = true
noncomputable def rxmRPC_5 (S0 : Nat → Int → Int) (ws : List Int) (S : Nat → Int → Int) (st : Int) : Nat := 860
noncomputable def rxIRPC_6 (S0 : Nat → Int → Int) (ws : List Int) (S : Nat → Int → Int) (st : Int) : Prop := rzAt (rzPH (rzCut (S0 411)) (S0 412 1) (rzWs S0) (S0 412 2) (S0 412 7)) S0 S (rzPH2 (rzCut (S0 411)) (S0 412 1) (rzWs S0))
noncomputable def rxmRPC_6 (S0 : Nat → Int → Int) (ws : List Int) (S : Nat → Int → Int) (st : Int) : Nat := 850
noncomputable def rxIRPC_7 (S0 : Nat → Int → Int) (ws : List Int) (S : Nat → Int → Int) (st : Int) : Prop := rzAt (rzPH (rzCut (S0 411)) (S0 412 1) (rzWs S0) (S0 412 2) (S0 412 7)) S0 S (rzPH2 (rzCut (S0 411)) (S0 412 1) (rzWs S0))
noncomputable def rxmRPC_7 (S0 : Nat → Int → Int) (ws : List Int) (S : Nat → Int → Int) (st : Int) : Nat := 840
noncomputable def rxIRPC_8 (S0 : Nat → Int → Int) (ws : List Int) (S : Nat → Int → Int) (st r : Int) : Prop := ((r = 1 ∧ rzAt (rzPH (rzCut (S0 411)) (S0 412 1) (rzWs S0) (S0 412 2) (S0 412 7)) S0 S (rzPH3 (rzCut (S0 411)) (S0 412 1) (rzWs S0))) ∨ (r = 0 ∧ rzOc (rzPH (rzCut (S0 411)) (S0 412 1) (rzWs S0) (S0 412 2) (S0 412 7)) S0 S (some 0)))
noncomputable def rxmRPC_8 (S0 : Nat → Int → Int) (ws : List Int) (S : Nat → Int → Int) (st r : Int) : Nat := 830
noncomputable def rxIRPC_9 (S0 : Nat → Int → Int) (ws : List Int) (S : Nat → Int → Int) (st : Int) : Prop := rzAt (rzPH (rzCut (S0 411)) (S0 412 1) (rzWs S0) (S0 412 2) (S0 412 7)) S0 S (rzPH3 (rzCut (S0 411)) (S0 412 1) (rzWs S0))
noncomputable def rxmRPC_9 (S0 : Nat → Int → Int) (ws : List Int) (S : Nat → Int → Int) (st : Int) : Nat := 820
noncomputable def rxIRPC_10 (S0 : Nat → Int → Int) (ws : List Int) (S : Nat → Int → Int) (st pl : Int) : Prop := rzAt (rzPH (rzCut (S0 411)) (S0 412 1) (rzWs S0) (S0 412 2) (S0 412 7)) S0 S (rzPH3 (rzCut (S0 411)) (S0 412 1) (rzWs S0)) ∧ pl = rzPv (rzCut (S0 411)) (S0 412 1) (S 412 2)
noncomputable def rxmRPC_10 (S0 : Nat → Int → Int) (ws : List Int) (S : Nat → Int → Int) (st pl : Int) : Nat := 810
noncomputable def rxIRPC_11 (S0 : Nat → Int → Int) (ws : List Int) (S : Nat → Int → Int) (st cu : Int) : Prop := rzAt (rzPH (rzCut (S0 411)) (S0 412 1) (rzWs S0) (S0 412 2) (S0 412 7)) S0 S (rzPH3 (rzCut (S0 411)) (S0 412 1) (rzWs S0)) ∧ rzPlc (rzCut (S0 411)) (S0 412 1) (S 412 2) = true
noncomputable def rxmRPC_11 (S0 : Nat → Int → Int) (ws : List Int) (S : Nat → Int → Int) (st cu : Int) : Nat := 800
noncomputable def rxIRPC_12 (S0 : Nat → Int → Int) (ws : List Int) (S : Nat → Int → Int) (st cu : Int) : Prop := rzAt (rzPH (rzCut (S0 411)) (S0 412 1) (rzWs S0) (S0 412 2) (S0 412 7)) S0 S (rzPH4 (rzCut (S0 411)) (S0 412 1) (rzWs S0))
noncomputable def rxmRPC_12 (S0 : Nat → Int → Int) (ws : List Int) (S : Nat → Int → Int) (st cu : Int) : Nat := 790
noncomputable def rxIRPC_13 (S0 : Nat → Int → Int) (ws : List Int) (S : Nat → Int → Int) (st cu : Int) : Prop := rzAt (rzPH (rzCut (S0 411)) (S0 412 1) (rzWs S0) (S0 412 2) (S0 412 7)) S0 S (rzPH4 (rzCut (S0 411)) (S0 412 1) (rzWs S0))
noncomputable def rxmRPC_13 (S0 : Nat → Int → Int) (ws : List Int) (S : Nat → Int → Int) (st cu : Int) : Nat := 780
noncomputable def rxIRPC_14 (S0 : Nat → Int → Int) (ws : List Int) (S : Nat → Int → Int) (st cu r : Int) : Prop := rzAt (rzPH (rzCut (S0 411)) (S0 412 1) (rzWs S0) (S0 412 2) (S0 412 7)) S0 S (rzPH4 (rzCut (S0 411)) (S0 412 1) (rzWs S0)) ∧ r = (if rzIs (rzCut (S 411)) (S 412 1) rzW_hush (S 412 2) = true then 1 else 0)
noncomputable def rxmRPC_14 (S0 : Nat → Int → Int) (ws : List Int) (S : Nat → Int → Int) (st cu r : Int) : Nat := 770
noncomputable def rxIRPC_15 (S0 : Nat → Int → Int) (ws : List Int) (S : Nat → Int → Int) (st cu hu : Int) : Prop := rzAt (rzPH (rzCut (S0 411)) (S0 412 1) (rzWs S0) (S0 412 2) (S0 412 7)) S0 S (rzPH4 (rzCut (S0 411)) (S0 412 1) (rzWs S0)) ∧ hu = 0 ∧ rzIs (rzCut (S0 411)) (S0 412 1) rzW_hush (S 412 2) = false
noncomputable def rxmRPC_15 (S0 : Nat → Int → Int) (ws : List Int) (S : Nat → Int → Int) (st cu hu : Int) : Nat := 760
noncomputable def rxIRPC_16 (S0 : Nat → Int → Int) (ws : List Int) (S : Nat → Int → Int) (st cu hu r : Int) : Prop := rzAt (rzPH (rzCut (S0 411)) (S0 412 1) (rzWs S0) (S0 412 2) (S0 412 7)) S0 S (rzPH4 (rzCut (S0 411)) (S0 412 1) (rzWs S0)) ∧ hu = 0 ∧ rzIs (rzCut (S0 411)) (S0 412 1) rzW_hush (S 412 2) = false ∧ r = (if rzIs (rzCut (S 411)) (S 412 1) rzW_say (S 412 2) = true then 1 else 0)
noncomputable def rxmRPC_16 (S0 : Nat → Int → Int) (ws : List Int) (S : Nat → Int → Int) (st cu hu r : Int) : Nat := 750
noncomputable def rxIRPC_17 (S0 : Nat → Int → Int) (ws : List Int) (S : Nat → Int → Int) (st cu hu : Int) : Prop := rzAt (rzPH (rzCut (S0 411)) (S0 412 1) (rzWs S0) (S0 412 2) (S0 412 7)) S0 S (rzPH4 (rzCut (S0 411)) (S0 412 1) (rzWs S0)) ∧ ((hu = 1 ∧ rzIs (rzCut (S0 411)) (S0 412 1) rzW_hush (S 412 2) = true) ∨ (hu = 0 ∧ rzIs (rzCut (S0 411)) (S0 412 1) rzW_hush (S 412 2) = false ∧ rzIs (rzCut (S0 411)) (S0 412 1) rzW_say (S 412 2) = true))
noncomputable def rxmRPC_17 (S0 : Nat → Int → Int) (ws : List Int) (S : Nat → Int → Int) (st cu hu : Int) : Nat := 740
noncomputable def rxIRPC_18 (S0 : Nat → Int → Int) (ws : List Int) (S : Nat → Int → Int) (st cu hu : Int) : Prop := rzAt (rzPH (rzCut (S0 411)) (S0 412 1) (rzWs S0) (S0 412 2) (S0 412 7)) S0 S (fun f lf r => rzAlt (decide (hu = 1)) (r = (true, f, lf)) (rzThen (rzEx (rzCut (S0 411)) (S0 412 1) (rzWs S0) 0 f lf) (rzPG (rzCut (S0 411)) (S0 412 1) (rzWs S0)) r))
noncomputable def rxmRPC_18 (S0 : Nat → Int → Int) (ws : List Int) (S : Nat → Int → Int) (st cu hu : Int) : Nat := 730
noncomputable def rxIRPC_19 (S0 : Nat → Int → Int) (ws : List Int) (S : Nat → Int → Int) (st cu hu ki : Int) : Prop := rzAt (rzPH (rzCut (S0 411)) (S0 412 1) (rzWs S0) (S0 412 2) (S0 412 7)) S0 S (fun f lf r => rzAlt (decide (hu = 1)) (r = (true, f, lf)) (rzThen (rzEx (rzCut (S0 411)) (S0 412 1) (rzWs S0) 0 f lf) (rzPG (rzCut (S0 411)) (S0 412 1) (rzWs S0)) r))
noncomputable def rxmRPC_19 (S0 : Nat → Int → Int) (ws : List Int) (S : Nat → Int → Int) (st cu hu ki : Int) : Nat := 720
noncomputable def rxIRPC_20 (S0 : Nat → Int → Int) (ws : List Int) (S : Nat → Int → Int) (st cu hu ki : Int) : Prop := rzAt (rzPH (rzCut (S0 411)) (S0 412 1) (rzWs S0) (S0 412 2) (S0 412 7)) S0 S (fun f lf r => rzAlt (decide (hu = 1)) (r = (true, f, lf)) (rzThen (rzEx (rzCut (S0 411)) (S0 412 1) (rzWs S0) 0 f lf) (rzPG (rzCut (S0 411)) (S0 412 1) (rzWs S0)) r))
noncomputable def rxmRPC_20 (S0 : Nat → Int → Int) (ws : List Int) (S : Nat → Int → Int) (st cu hu ki : Int) : Nat := 710
noncomputable def rxIRPC_21 (S0 : Nat → Int → Int) (ws : List Int) (S : Nat → Int → Int) (st cu hu sa : Int) : Prop := rzAt (rzPH (rzCut (S0 411)) (S0 412 1) (rzWs S0) (S0 412 2) (S0 412 7)) S0 S (fun f lf => rzThen (rzEx (rzCut (S0 411)) (S0 412 1) (rzWs S0) 0 f lf) (rzPG (rzCut (S0 411)) (S0 412 1) (rzWs S0)))
noncomputable def rxmRPC_21 (S0 : Nat → Int → Int) (ws : List Int) (S : Nat → Int → Int) (st cu hu sa : Int) : Nat := 700
noncomputable def rxIRPC_22 (S0 : Nat → Int → Int) (ws : List Int) (S : Nat → Int → Int) (st cu hu sa res : Int) : Prop := ((res = 1 ∧ rzAt (rzPH (rzCut (S0 411)) (S0 412 1) (rzWs S0) (S0 412 2) (S0 412 7)) S0 S (rzPG (rzCut (S0 411)) (S0 412 1) (rzWs S0))) ∨ (res = 0 ∧ rzOc (rzPH (rzCut (S0 411)) (S0 412 1) (rzWs S0) (S0 412 2) (S0 412 7)) S0 S (some 0)))
noncomputable def rxmRPC_22 (S0 : Nat → Int → Int) (ws : List Int) (S : Nat → Int → Int) (st cu hu sa res : Int) : Nat := 690
noncomputable def rxIRPC_23 (S0 : Nat → Int → Int) (ws : List Int) (S : Nat → Int → Int) (st cu hu : Int) : Prop := rzAt (rzPH (rzCut (S0 411)) (S0 412 1) (rzWs S0) (S0 412 2) (S0 412 7)) S0 S (rzPG (rzCut (S0 411)) (S0 412 1) (rzWs S0))
noncomputable def rxmRPC_23 (S0 : Nat → Int → Int) (ws : List Int) (S : Nat → Int → Int) (st cu hu : Int) : Nat := 680
noncomputable def rxIRPC_24 (S0 : Nat → Int → Int) (ws : List Int) (S : Nat → Int → Int) (st cu hu r : Int) : Prop := rzAt (rzPH (rzCut (S0 411)) (S0 412 1) (rzWs S0) (S0 412 2) (S0 412 7)) S0 S (rzPG (rzCut (S0 411)) (S0 412 1) (rzWs S0)) ∧ r = (if rzIs (rzCut (S 411)) (S 412 1) rzW_go (S 412 2) = true then 1 else 0)
noncomputable def rxmRPC_24 (S0 : Nat → Int → Int) (ws : List Int) (S : Nat → Int → Int) (st cu hu r : Int) : Nat := 670
noncomputable def rxIRPC_25 (S0 : Nat → Int → Int) (ws : List Int) (S : Nat → Int → Int) (st cu hu : Int) : Prop := rzAt (rzPH (rzCut (S0 411)) (S0 412 1) (rzWs S0) (S0 412 2) (S0 412 7)) S0 S (rzPG (rzCut (S0 411)) (S0 412 1) (rzWs S0)) ∧ rzIs (rzCut (S0 411)) (S0 412 1) rzW_go (S 412 2) = true
noncomputable def rxmRPC_25 (S0 : Nat → Int → Int) (ws : List Int) (S : Nat → Int → Int) (st cu hu : Int) : Nat := 660
noncomputable def rxIRPC_26 (S0 : Nat → Int → Int) (ws : List Int) (S : Nat → Int → Int) (st cu hu : Int) : Prop := rzAt (rzPH (rzCut (S0 411)) (S0 412 1) (rzWs S0) (S0 412 2) (S0 412 7)) S0 S (rzEx (rzCut (S0 411)) (S0 412 1) (rzWs S0) 0)
noncomputable def rxmRPC_26 (S0 : Nat → Int → Int) (ws : List Int) (S : Nat → Int → Int) (st cu hu : Int) : Nat := 650
noncomputable def rxIRPC_27 (S0 : Nat → Int → Int) (ws : List Int) (S : Nat → Int → Int) (st cu hu sa : Int) : Prop := rzAt (rzPH (rzCut (S0 411)) (S0 412 1) (rzWs S0) (S0 412 2) (S0 412 7)) S0 S (rzEx (rzCut (S0 411)) (S0 412 1) (rzWs S0) 0)
noncomputable def rxmRPC_27 (S0 : Nat → Int → Int) (ws : List Int) (S : Nat → Int → Int) (st cu hu sa : Int) : Nat := 640
noncomputable def rxIRPC_28 (S0 : Nat → Int → Int) (ws : List Int) (S : Nat → Int → Int) (st cu hu sa res : Int) : Prop := rzOc (rzPH (rzCut (S0 411)) (S0 412 1) (rzWs S0) (S0 412 2) (S0 412 7)) S0 S (some res)
noncomputable def rxmRPC_28 (S0 : Nat → Int → Int) (ws : List Int) (S : Nat → Int → Int) (st cu hu sa res : Int) : Nat := 630
noncomputable def rxPRPC (S0 : Nat → Int → Int) (ws : List Int) : Prop := rzDt S0
noncomputable def rxPSRPC (S0 : Nat → Int → Int) (ws : List Int) (S : Nat → Int → Int) (w : Option Int) : Prop := rzOc (rzPH (rzCut (S0 411)) (S0 412 1) (rzWs S0) (S0 412 2) (S0 412 7)) S0 S w
theorem rxkRPC_1 {S0 : Nat → Int → Int} {ws : List Int} {S : Nat → Int → Int} (hP : rxPRPC S0 ws) (hin : bx_same rxL (bx_mdl rxCRPC.2.2.1) S0 S) (I0 : bx_Inv rxL S) (hinv : rxIRPC_1 S0 ws S)  : rxPTKW S [412, 533] ∧ ∀ (S_p : Nat → Int → Int) (r : Int), 0 ≤ r → r ≤ 1 → rxPSTKW S [412, 533] S_p (some r) → bx_Inv rxL S_p → bx_same rxL (bx_mdl rxC90.2.2.1) S S_p → rxIRPC_2 S0 ws S_p r ∧ rxmRPC_2 S0 ws S_p r < rxmRPC_1 S0 ws S := by
  have hA : rzAt (rzPH (rzCut (S0 411)) (S0 412 1) (rzWs S0) (S0 412 2) (S0 412 7)) S0 S (rzPH (rzCut (S0 411)) (S0 412 1) (rzWs S0)) := hinv
  refine ⟨⟨hA.2.1, 533, rfl, by omega, by omega⟩, fun S_p r _ _ hq _ hsm => ⟨?_, by unfold rxmRPC_1 rxmRPC_2; omega⟩⟩
  obtain ⟨k, hk, hq⟩ := hq
  have hk : (533 : Int) = k := Option.some.inj (congrArg (fun l : List Int => l[1]?) hk)
  subst hk
  rw [hA.1.1, hA.1.2.1] at hq
  rcases hq with ⟨b, e, d, e2, kp⟩ | ⟨b, e, e4⟩
  · refine Or.inl ⟨Option.some.inj e, rzAt_tk hA kp d (hsm 412 7 (by decide) (by decide) (by decide +kernel)) ?_ (fun r q => rzAlt_y b q)⟩
    rw [hA.1.1, hA.1.2.1]
    exact e2
  · exact Or.inr ⟨Option.some.inj e, rzAt_no hA (rzAlt_n b rfl) e4⟩
theorem rxkRPC_3 {S0 : Nat → Int → Int} {ws : List Int} {S : Nat → Int → Int} (hP : rxPRPC S0 ws) (hin : bx_same rxL (bx_mdl rxCRPC.2.2.1) S0 S) (I0 : bx_Inv rxL S) (hinv : rxIRPC_3 S0 ws S)  : rxPPLH S [412] ∧ ∀ (S_p : Nat → Int → Int) (pl : Int), (-2147483648) ≤ pl → pl ≤ 6 → rxPSPLH S [412] S_p (some pl) → bx_Inv rxL S_p → bx_same rxL (bx_mdl rxC91.2.2.1) S S_p → rxIRPC_4 S0 ws S_p pl ∧ rxmRPC_4 S0 ws S_p pl < rxmRPC_3 S0 ws S := by
  have hA : rzAt (rzPH (rzCut (S0 411)) (S0 412 1) (rzWs S0) (S0 412 2) (S0 412 7)) S0 S (rzPH1 (rzCut (S0 411)) (S0 412 1) (rzWs S0)) := hinv
  refine ⟨hA.2.1, fun S_p pl _ _ hq _ _ => ⟨?_, by unfold rxmRPC_3 rxmRPC_4; omega⟩⟩
  obtain ⟨rfl, hr⟩ := hq
  have hr := Option.some.inj hr
  rw [hA.1.1, hA.1.2.1] at hr
  exact ⟨hA, hr⟩
theorem rxkRPC_5 {S0 : Nat → Int → Int} {ws : List Int} {S : Nat → Int → Int} {st : Int} (hP : rxPRPC S0 ws) (hin : bx_same rxL (bx_mdl rxCRPC.2.2.1) S0 S) (I0 : bx_Inv rxL S) (hinv : rxIRPC_5 S0 ws S st) (l8 : 0 ≤ st) (u8 : st ≤ 6) : rxPAD S [412] ∧ ∀ (S_p : Nat → Int → Int), rxPSAD S [412] S_p none → bx_Inv rxL S_p → bx_same rxL (bx_mdl rxC84.2.2.1) S S_p → rxIRPC_6 S0 ws S_p st ∧ rxmRPC_6 S0 ws S_p st < rxmRPC_5 S0 ws S st := by
  obtain ⟨hA, hb⟩ := hinv
  refine ⟨trivial, fun S_p hq _ hsm => ⟨rzAt_ad hA hsm (by decide +kernel) (by decide +kernel) (by decide +kernel) (by decide +kernel) (by decide +kernel) hq.2.1 hq.2.2 (fun r q => rzAlt_y hb q), by unfold rxmRPC_5 rxmRPC_6; omega⟩⟩
theorem rxkRPC_7 {S0 : Nat → Int → Int} {ws : List Int} {S : Nat → Int → Int} {st : Int} (hP : rxPRPC S0 ws) (hin : bx_same rxL (bx_mdl rxCRPC.2.2.1) S0 S) (I0 : bx_Inv rxL S) (hinv : rxIRPC_7 S0 ws S st) (l8 : 0 ≤ st) (u8 : st ≤ 6) : rxPTKW S [412, 524] ∧ ∀ (S_p : Nat → Int → Int) (r : Int), 0 ≤ r → r ≤ 1 → rxPSTKW S [412, 524] S_p (some r) → bx_Inv rxL S_p → bx_same rxL (bx_mdl rxC90.2.2.1) S S_p → rxIRPC_8 S0 ws S_p st r ∧ rxmRPC_8 S0 ws S_p st r < rxmRPC_7 S0 ws S st := by
  have hA : rzAt (rzPH (rzCut (S0 411)) (S0 412 1) (rzWs S0) (S0 412 2) (S0 412 7)) S0 S (rzPH2 (rzCut (S0 411)) (S0 412 1) (rzWs S0)) := hinv
  refine ⟨⟨hA.2.1, 524, rfl, by omega, by omega⟩, fun S_p r _ _ hq _ hsm => ⟨?_, by unfold rxmRPC_7 rxmRPC_8; omega⟩⟩
  obtain ⟨k, hk, hq⟩ := hq
  have hk : (524 : Int) = k := Option.some.inj (congrArg (fun l : List Int => l[1]?) hk)
  subst hk
  rw [hA.1.1, hA.1.2.1] at hq
  rcases hq with ⟨b, e, d, e2, kp⟩ | ⟨b, e, e4⟩
  · refine Or.inl ⟨Option.some.inj e, rzAt_tk hA kp d (hsm 412 7 (by decide) (by decide) (by decide +kernel)) ?_ (fun r q => rzAlt_y b q)⟩
    rw [hA.1.1, hA.1.2.1]
    exact e2
  · exact Or.inr ⟨Option.some.inj e, rzAt_no hA (rzAlt_n b rfl) e4⟩
theorem rxkRPC_9 {S0 : Nat → Int → Int} {ws : List Int} {S : Nat → Int → Int} {st : Int} (hP : rxPRPC S0 ws) (hin : bx_same rxL (bx_mdl rxCRPC.2.2.1) S0 S) (I0 : bx_Inv rxL S) (hinv : rxIRPC_9 S0 ws S st) (l8 : 0 ≤ st) (u8 : st ≤ 6) : rxPPLH S [412] ∧ ∀ (S_p : Nat → Int → Int) (pl : Int), (-2147483648) ≤ pl → pl ≤ 6 → rxPSPLH S [412] S_p (some pl) → bx_Inv rxL S_p → bx_same rxL (bx_mdl rxC91.2.2.1) S S_p → rxIRPC_10 S0 ws S_p st pl ∧ rxmRPC_10 S0 ws S_p st pl < rxmRPC_9 S0 ws S st := by
  have hA : rzAt (rzPH (rzCut (S0 411)) (S0 412 1) (rzWs S0) (S0 412 2) (S0 412 7)) S0 S (rzPH3 (rzCut (S0 411)) (S0 412 1) (rzWs S0)) := hinv
  refine ⟨hA.2.1, fun S_p pl _ _ hq _ _ => ⟨?_, by unfold rxmRPC_9 rxmRPC_10; omega⟩⟩
  obtain ⟨rfl, hr⟩ := hq
  have hr := Option.some.inj hr
  rw [hA.1.1, hA.1.2.1] at hr
  exact ⟨hA, hr⟩
theorem rxkRPC_11 {S0 : Nat → Int → Int} {ws : List Int} {S : Nat → Int → Int} {st cu : Int} (hP : rxPRPC S0 ws) (hin : bx_same rxL (bx_mdl rxCRPC.2.2.1) S0 S) (I0 : bx_Inv rxL S) (hinv : rxIRPC_11 S0 ws S st cu) (l8 : 0 ≤ st) (u8 : st ≤ 6) (l9 : 0 ≤ cu) (u9 : cu ≤ 6) : rxPAD S [412] ∧ ∀ (S_p : Nat → Int → Int), rxPSAD S [412] S_p none → bx_Inv rxL S_p → bx_same rxL (bx_mdl rxC84.2.2.1) S S_p → rxIRPC_12 S0 ws S_p st cu ∧ rxmRPC_12 S0 ws S_p st cu < rxmRPC_11 S0 ws S st cu := by
  obtain ⟨hA, hb⟩ := hinv
  refine ⟨trivial, fun S_p hq _ hsm => ⟨rzAt_ad hA hsm (by decide +kernel) (by decide +kernel) (by decide +kernel) (by decide +kernel) (by decide +kernel) hq.2.1 hq.2.2 (fun r q => rzAlt_y hb q), by unfold rxmRPC_11 rxmRPC_12; omega⟩⟩
theorem rxkRPC_13 {S0 : Nat → Int → Int} {ws : List Int} {S : Nat → Int → Int} {st cu : Int} (hP : rxPRPC S0 ws) (hin : bx_same rxL (bx_mdl rxCRPC.2.2.1) S0 S) (I0 : bx_Inv rxL S) (hinv : rxIRPC_13 S0 ws S st cu) (l8 : 0 ≤ st) (u8 : st ≤ 6) (l9 : 0 ≤ cu) (u9 : cu ≤ 6) : rxPIWX S [412, 531] ∧ ∀ (S_p : Nat → Int → Int) (r : Int), 0 ≤ r → r ≤ 1 → rxPSIWX S [412, 531] S_p (some r) → bx_Inv rxL S_p → bx_same rxL (bx_mdl rxC59.2.2.1) S S_p → rxIRPC_14 S0 ws S_p st cu r ∧ rxmRPC_14 S0 ws S_p st cu r < rxmRPC_13 S0 ws S st cu := by
  have hA : rzAt (rzPH (rzCut (S0 411)) (S0 412 1) (rzWs S0) (S0 412 2) (S0 412 7)) S0 S (rzPH4 (rzCut (S0 411)) (S0 412 1) (rzWs S0)) := hinv
  have hD := hA.2.1
  refine ⟨⟨rzDt.s3 hD, 531, rfl, by omega, by omega⟩, fun S_p r _ _ hq _ _ => ⟨?_, by unfold rxmRPC_13 rxmRPC_14; omega⟩⟩
  obtain ⟨rfl, k, hk, hr⟩ := hq
  have hk : (531 : Int) = k := Option.some.inj (congrArg (fun l : List Int => l[1]?) hk)
  subst hk
  have hr := Option.some.inj hr
  rw [hD.1] at hr
  exact ⟨hA, hr⟩
theorem rxkRPC_15 {S0 : Nat → Int → Int} {ws : List Int} {S : Nat → Int → Int} {st cu hu : Int} (hP : rxPRPC S0 ws) (hin : bx_same rxL (bx_mdl rxCRPC.2.2.1) S0 S) (I0 : bx_Inv rxL S) (hinv : rxIRPC_15 S0 ws S st cu hu) (l8 : 0 ≤ st) (u8 : st ≤ 6) (l9 : 0 ≤ cu) (u9 : cu ≤ 6) (l10 : 0 ≤ hu) (u10 : hu ≤ 1) : rxPIWX S [412, 541] ∧ ∀ (S_p : Nat → Int → Int) (r : Int), 0 ≤ r → r ≤ 1 → rxPSIWX S [412, 541] S_p (some r) → bx_Inv rxL S_p → bx_same rxL (bx_mdl rxC59.2.2.1) S S_p → rxIRPC_16 S0 ws S_p st cu hu r ∧ rxmRPC_16 S0 ws S_p st cu hu r < rxmRPC_15 S0 ws S st cu hu := by
  obtain ⟨hA, h0, h1⟩ := hinv
  have hD := hA.2.1
  refine ⟨⟨rzDt.s3 hD, 541, rfl, by omega, by omega⟩, fun S_p r _ _ hq _ _ => ⟨?_, by unfold rxmRPC_15 rxmRPC_16; omega⟩⟩
  obtain ⟨rfl, k, hk, hr⟩ := hq
  have hk : (541 : Int) = k := Option.some.inj (congrArg (fun l : List Int => l[1]?) hk)
  subst hk
  have hr := Option.some.inj hr
  rw [hD.1] at hr
  exact ⟨hA, h0, h1, hr⟩
theorem rxkRPC_17 {S0 : Nat → Int → Int} {ws : List Int} {S : Nat → Int → Int} {st cu hu : Int} (hP : rxPRPC S0 ws) (hin : bx_same rxL (bx_mdl rxCRPC.2.2.1) S0 S) (I0 : bx_Inv rxL S) (hinv : rxIRPC_17 S0 ws S st cu hu) (l8 : 0 ≤ st) (u8 : st ≤ 6) (l9 : 0 ≤ cu) (u9 : cu ≤ 6) (l10 : 0 ≤ hu) (u10 : hu ≤ 1) : rxPAD S [412] ∧ ∀ (S_p : Nat → Int → Int), rxPSAD S [412] S_p none → bx_Inv rxL S_p → bx_same rxL (bx_mdl rxC84.2.2.1) S S_p → rxIRPC_18 S0 ws S_p st cu hu ∧ rxmRPC_18 S0 ws S_p st cu hu < rxmRPC_17 S0 ws S st cu hu := by
  obtain ⟨hA, hc⟩ := hinv
  refine ⟨trivial, fun S_p hq _ hsm => ⟨rzAt_ad hA hsm (by decide +kernel) (by decide +kernel) (by decide +kernel) (by decide +kernel) (by decide +kernel) hq.2.1 hq.2.2 (fun r q => ?_), by unfold rxmRPC_17 rxmRPC_18; omega⟩⟩
  rcases hc with ⟨b1, b2⟩ | ⟨b1, b2, b3⟩
  · rcases q with ⟨c1, c2⟩ | ⟨c1, c2⟩
    · exact rzAlt_y b2 c2
    · exact absurd b1 (of_decide_eq_false c1)
  · rcases q with ⟨c1, c2⟩ | ⟨c1, c2⟩
    · have c3 := of_decide_eq_true c1
      omega
    · exact rzAlt_n b2 (rzAlt_y b3 c2)
theorem rxkRPC_19 {S0 : Nat → Int → Int} {ws : List Int} {S : Nat → Int → Int} {st cu hu ki : Int} (hP : rxPRPC S0 ws) (hin : bx_same rxL (bx_mdl rxCRPC.2.2.1) S0 S) (I0 : bx_Inv rxL S) (hinv : rxIRPC_19 S0 ws S st cu hu ki) (l8 : 0 ≤ st) (u8 : st ≤ 6) (l9 : 0 ≤ cu) (u9 : cu ≤ 6) (l10 : 0 ≤ hu) (u10 : hu ≤ 1) (l11 : 0 ≤ ki) (u11 : ki ≤ 4) : rxPOCD S [427, ki, st, cu] ∧ ∀ (S_p : Nat → Int → Int), rxPSOCD S [427, ki, st, cu] S_p none → bx_Inv rxL S_p → bx_same rxL (bx_mdl rxCOCD.2.2.1) S S_p → rxIRPC_20 S0 ws S_p st cu hu ki ∧ rxmRPC_20 S0 ws S_p st cu hu ki < rxmRPC_19 S0 ws S st cu hu ki := by
  have hA : rzAt (rzPH (rzCut (S0 411)) (S0 412 1) (rzWs S0) (S0 412 2) (S0 412 7)) S0 S (fun f lf r => rzAlt (decide (hu = 1)) (r = (true, f, lf)) (rzThen (rzEx (rzCut (S0 411)) (S0 412 1) (rzWs S0) 0 f lf) (rzPG (rzCut (S0 411)) (S0 412 1) (rzWs S0)) r)) := hinv
  refine ⟨trivial, fun S_p hq _ hsm => ⟨rzAt_sm hA hsm (by decide +kernel) (by decide +kernel) (by decide +kernel) (by decide +kernel) (by decide +kernel) (by decide +kernel) (by decide +kernel), by unfold rxmRPC_19 rxmRPC_20; omega⟩⟩
theorem rxkRPC_21 {S0 : Nat → Int → Int} {ws : List Int} {S : Nat → Int → Int} {st cu hu sa : Int} (hP : rxPRPC S0 ws) (hin : bx_same rxL (bx_mdl rxCRPC.2.2.1) S0 S) (I0 : bx_Inv rxL S) (hinv : rxIRPC_21 S0 ws S st cu hu sa) (l8 : 0 ≤ st) (u8 : st ≤ 6) (l9 : 0 ≤ cu) (u9 : cu ≤ 6) (l10 : 0 ≤ hu) (u10 : hu ≤ 1) (l11 : 0 ≤ sa) (u11 : sa ≤ 1522) : rxPRED S [412, sa, 0] ∧ ∀ (S_p : Nat → Int → Int) (res : Int), 0 ≤ res → res ≤ 1 → rxPSRED S [412, sa, 0] S_p (some res) → bx_Inv rxL S_p → bx_same rxL (bx_mdl rxCRED.2.2.1) S S_p → rxIRPC_22 S0 ws S_p st cu hu sa res ∧ rxmRPC_22 S0 ws S_p st cu hu sa res < rxmRPC_21 S0 ws S st cu hu sa := by
  have hA : rzAt (rzPH (rzCut (S0 411)) (S0 412 1) (rzWs S0) (S0 412 2) (S0 412 7)) S0 S (fun f lf => rzThen (rzEx (rzCut (S0 411)) (S0 412 1) (rzWs S0) 0 f lf) (rzPG (rzCut (S0 411)) (S0 412 1) (rzWs S0))) := hinv
  refine ⟨hA.2.1, fun S_p res _ _ hq _ _ => ⟨?_, by unfold rxmRPC_21 rxmRPC_22; omega⟩⟩
  obtain ⟨sa, sg, hk, hq⟩ := hq
  have hk : (0 : Int) = sg := Option.some.inj (congrArg (fun l : List Int => l[2]?) hk)
  subst hk
  have hw : rzWs S = rzWs S0 := rzKp.ws hA.1
  rw [hA.1.1, hA.1.2.1, hw] at hq
  have q : rzOc (rzEx (rzCut (S0 411)) (S0 412 1) (rzWs S0) 0 (S 412 2) (S 412 7)) S S_p (some res) := by
    rcases hq with ⟨q1, r, q2, q3, q4, q5, q6, q7⟩ | ⟨q1, r, q2, q3, q4⟩
    · exact ⟨r, q2, Or.inl ⟨q1, q3, q4, q5, q6, q7⟩⟩
    · exact ⟨r, q2, Or.inr ⟨q1, q3, q4⟩⟩
  exact rzAt_call hA (fun r q => q) q
theorem rxkRPC_23 {S0 : Nat → Int → Int} {ws : List Int} {S : Nat → Int → Int} {st cu hu : Int} (hP : rxPRPC S0 ws) (hin : bx_same rxL (bx_mdl rxCRPC.2.2.1) S0 S) (I0 : bx_Inv rxL S) (hinv : rxIRPC_23 S0 ws S st cu hu) (l8 : 0 ≤ st) (u8 : st ≤ 6) (l9 : 0 ≤ cu) (u9 : cu ≤ 6) (l10 : 0 ≤ hu) (u10 : hu ≤ 1) : rxPIWX S [412, 529] ∧ ∀ (S_p : Nat → Int → Int) (r : Int), 0 ≤ r → r ≤ 1 → rxPSIWX S [412, 529] S_p (some r) → bx_Inv rxL S_p → bx_same rxL (bx_mdl rxC59.2.2.1) S S_p → rxIRPC_24 S0 ws S_p st cu hu r ∧ rxmRPC_24 S0 ws S_p st cu hu r < rxmRPC_23 S0 ws S st cu hu := by
  have hA : rzAt (rzPH (rzCut (S0 411)) (S0 412 1) (rzWs S0) (S0 412 2) (S0 412 7)) S0 S (rzPG (rzCut (S0 411)) (S0 412 1) (rzWs S0)) := hinv
  have hD := hA.2.1
  refine ⟨⟨rzDt.s3 hD, 529, rfl, by omega, by omega⟩, fun S_p r _ _ hq _ _ => ⟨?_, by unfold rxmRPC_23 rxmRPC_24; omega⟩⟩
  obtain ⟨rfl, k, hk, hr⟩ := hq
  have hk : (529 : Int) = k := Option.some.inj (congrArg (fun l : List Int => l[1]?) hk)
  subst hk
  have hr := Option.some.inj hr
  rw [hD.1] at hr
  exact ⟨hA, hr⟩
theorem rxkRPC_25 {S0 : Nat → Int → Int} {ws : List Int} {S : Nat → Int → Int} {st cu hu : Int} (hP : rxPRPC S0 ws) (hin : bx_same rxL (bx_mdl rxCRPC.2.2.1) S0 S) (I0 : bx_Inv rxL S) (hinv : rxIRPC_25 S0 ws S st cu hu) (l8 : 0 ≤ st) (u8 : st ≤ 6) (l9 : 0 ≤ cu) (u9 : cu ≤ 6) (l10 : 0 ≤ hu) (u10 : hu ≤ 1) : rxPAD S [412] ∧ ∀ (S_p : Nat → Int → Int), rxPSAD S [412] S_p none → bx_Inv rxL S_p → bx_same rxL (bx_mdl rxC84.2.2.1) S S_p → rxIRPC_26 S0 ws S_p st cu hu ∧ rxmRPC_26 S0 ws S_p st cu hu < rxmRPC_25 S0 ws S st cu hu := by
  obtain ⟨hA, hb⟩ := hinv
  refine ⟨trivial, fun S_p hq _ hsm => ⟨rzAt_ad hA hsm (by decide +kernel) (by decide +kernel) (by decide +kernel) (by decide +kernel) (by decide +kernel) hq.2.1 hq.2.2 (fun r q => rzAlt_y hb q), by unfold rxmRPC_25 rxmRPC_26; omega⟩⟩
theorem rxkRPC_27 {S0 : Nat → Int → Int} {ws : List Int} {S : Nat → Int → Int} {st cu hu sa : Int} (hP : rxPRPC S0 ws) (hin : bx_same rxL (bx_mdl rxCRPC.2.2.1) S0 S) (I0 : bx_Inv rxL S) (hinv : rxIRPC_27 S0 ws S st cu hu sa) (l8 : 0 ≤ st) (u8 : st ≤ 6) (l9 : 0 ≤ cu) (u9 : cu ≤ 6) (l10 : 0 ≤ hu) (u10 : hu ≤ 1) (l11 : 0 ≤ sa) (u11 : sa ≤ 1522) : rxPRED S [412, sa, 0] ∧ ∀ (S_p : Nat → Int → Int) (res : Int), 0 ≤ res → res ≤ 1 → rxPSRED S [412, sa, 0] S_p (some res) → bx_Inv rxL S_p → bx_same rxL (bx_mdl rxCRED.2.2.1) S S_p → rxIRPC_28 S0 ws S_p st cu hu sa res ∧ rxmRPC_28 S0 ws S_p st cu hu sa res < rxmRPC_27 S0 ws S st cu hu sa := by
  have hA : rzAt (rzPH (rzCut (S0 411)) (S0 412 1) (rzWs S0) (S0 412 2) (S0 412 7)) S0 S (rzEx (rzCut (S0 411)) (S0 412 1) (rzWs S0) 0) := hinv
  refine ⟨hA.2.1, fun S_p res _ _ hq _ _ => ⟨?_, by unfold rxmRPC_27 rxmRPC_28; omega⟩⟩
  obtain ⟨sa, sg, hk, hq⟩ := hq
  have hk : (0 : Int) = sg := Option.some.inj (congrArg (fun l : List Int => l[2]?) hk)
  subst hk
  have hw : rzWs S = rzWs S0 := rzKp.ws hA.1
  rw [hA.1.1, hA.1.2.1, hw] at hq
  have q : rzOc (rzEx (rzCut (S0 411)) (S0 412 1) (rzWs S0) 0 (S 412 2) (S 412 7)) S S_p (some res) := by
    rcases hq with ⟨q1, r, q2, q3, q4, q5, q6, q7⟩ | ⟨q1, r, q2, q3, q4⟩
    · exact ⟨r, q2, Or.inl ⟨q1, q3, q4, q5, q6, q7⟩⟩
    · exact ⟨r, q2, Or.inr ⟨q1, q3, q4⟩⟩
  exact rzAt_tail hA (fun r q => q) q
theorem rxcRPC_0_0 {S0 : Nat → Int → Int} {ws : List Int} {S : Nat → Int → Int} (hP : rxPRPC S0 ws) (hin : bx_same rxL (bx_mdl rxCRPC.2.2.1) S0 S) (I0 : bx_Inv rxL S) (hinv : rxIRPC_0 S0 ws S)  : (True) ∧ (True) ∧ rxIRPC_1 S0 ws S ∧ rxmRPC_1 S0 ws S < rxmRPC_0 S0 ws S := by
  obtain ⟨rfl, hw⟩ := hinv
  exact ⟨trivial, trivial, ⟨rzKp_rf, hP, fun r q => q⟩, by unfold rxmRPC_0 rxmRPC_1; omega⟩
theorem rxcRPC_2_0 {S0 : Nat → Int → Int} {ws : List Int} {S : Nat → Int → Int} {r : Int} (hP : rxPRPC S0 ws) (hin : bx_same rxL (bx_mdl rxCRPC.2.2.1) S0 S) (I0 : bx_Inv rxL S) (hinv : rxIRPC_2 S0 ws S r) (l8 : 1 ≤ r) (u8 : r ≤ 1) (f0 : r ≠ 0) : (True) ∧ (True) ∧ rxIRPC_3 S0 ws S ∧ rxmRPC_3 S0 ws S < rxmRPC_2 S0 ws S r := by
  rcases hinv with ⟨z, hA⟩ | ⟨z, hA⟩
  · exact ⟨trivial, trivial, hA, by unfold rxmRPC_2 rxmRPC_3; omega⟩
  · exfalso
    omega
theorem rxdRPC_2_0 {S0 : Nat → Int → Int} {ws : List Int} {S : Nat → Int → Int} {r : Int} (hP : rxPRPC S0 ws) (hin : bx_same rxL (bx_mdl rxCRPC.2.2.1) S0 S) (hin2 : bx_same rxL (bx_mdl rxCRPC.2.2.1) S S) (I0 : bx_Inv rxL S) (I1 : bx_Inv rxL S) (hinv : rxIRPC_2 S0 ws S r) (l8 : 0 ≤ r) (u8 : r ≤ 0) : (True) ∧ rxPSRPC S0 ws S (some 0) := by
  rcases hinv with ⟨z, hA⟩ | ⟨z, hA⟩
  · exfalso
    omega
  · exact ⟨trivial, hA⟩
theorem rxcRPC_4_0 {S0 : Nat → Int → Int} {ws : List Int} {S : Nat → Int → Int} {pl : Int} (hP : rxPRPC S0 ws) (hin : bx_same rxL (bx_mdl rxCRPC.2.2.1) S0 S) (I0 : bx_Inv rxL S) (hinv : rxIRPC_4 S0 ws S pl) (l8 : 0 ≤ pl) (u8 : pl ≤ 6) : (True) ∧ (True) ∧ rxIRPC_5 S0 ws S pl ∧ rxmRPC_5 S0 ws S pl < rxmRPC_4 S0 ws S pl := by
  obtain ⟨hA, hr⟩ := hinv
  have hb : rzPlc (rzCut (S0 411)) (S0 412 1) (S 412 2) = true := by
    rw [rzPlc_v, ← hr]
    exact decide_eq_true (by omega)
  exact ⟨trivial, trivial, ⟨hA, hb⟩, by unfold rxmRPC_4 rxmRPC_5; omega⟩
theorem rxdRPC_4_0 {S0 : Nat → Int → Int} {ws : List Int} {S : Nat → Int → Int} {pl x9 : Int} (hP : rxPRPC S0 ws) (hin : bx_same rxL (bx_mdl rxCRPC.2.2.1) S0 S) (hin2 : bx_same rxL (bx_mdl rxCRPC.2.2.1) S (bx_up S 412 4 x9)) (I0 : bx_Inv rxL S) (I1 : bx_Inv rxL (bx_up S 412 4 x9)) (hinv : rxIRPC_4 S0 ws S pl) (l8 : (-2147483648) ≤ pl) (u8 : pl ≤ (-1)) (l9 : 0 ≤ x9) (u9 : x9 ≤ 400) (e1 : S 412 2 = x9) : (True) ∧ rxPSRPC S0 ws (bx_up S 412 4 x9) (some 0) := by
  obtain ⟨hA, hr⟩ := hinv
  have hb : rzPlc (rzCut (S0 411)) (S0 412 1) (S 412 2) = false := by
    rw [rzPlc_v, ← hr]
    exact decide_eq_false (by omega)
  exact ⟨trivial, rzAt_no hA (rzAlt_n hb rfl) (bx_up_at.trans e1.symm)⟩
theorem rxcRPC_6_0 {S0 : Nat → Int → Int} {ws : List Int} {S : Nat → Int → Int} {st : Int} (hP : rxPRPC S0 ws) (hin : bx_same rxL (bx_mdl rxCRPC.2.2.1) S0 S) (I0 : bx_Inv rxL S) (hinv : rxIRPC_6 S0 ws S st) (l8 : 0 ≤ st) (u8 : st ≤ 6) : (True) ∧ (True) ∧ rxIRPC_7 S0 ws S st ∧ rxmRPC_7 S0 ws S st < rxmRPC_6 S0 ws S st := by
  exact ⟨trivial, trivial, hinv, by unfold rxmRPC_6 rxmRPC_7; omega⟩
theorem rxcRPC_8_0 {S0 : Nat → Int → Int} {ws : List Int} {S : Nat → Int → Int} {st r : Int} (hP : rxPRPC S0 ws) (hin : bx_same rxL (bx_mdl rxCRPC.2.2.1) S0 S) (I0 : bx_Inv rxL S) (hinv : rxIRPC_8 S0 ws S st r) (l8 : 0 ≤ st) (u8 : st ≤ 6) (l9 : 1 ≤ r) (u9 : r ≤ 1) (f0 : r ≠ 0) : (True) ∧ (True) ∧ rxIRPC_9 S0 ws S st ∧ rxmRPC_9 S0 ws S st < rxmRPC_8 S0 ws S st r := by
  rcases hinv with ⟨z, hA⟩ | ⟨z, hA⟩
  · exact ⟨trivial, trivial, hA, by unfold rxmRPC_8 rxmRPC_9; omega⟩
  · exfalso
    omega
theorem rxdRPC_8_0 {S0 : Nat → Int → Int} {ws : List Int} {S : Nat → Int → Int} {st r : Int} (hP : rxPRPC S0 ws) (hin : bx_same rxL (bx_mdl rxCRPC.2.2.1) S0 S) (hin2 : bx_same rxL (bx_mdl rxCRPC.2.2.1) S S) (I0 : bx_Inv rxL S) (I1 : bx_Inv rxL S) (hinv : rxIRPC_8 S0 ws S st r) (l8 : 0 ≤ st) (u8 : st ≤ 6) (l9 : 0 ≤ r) (u9 : r ≤ 0) : (True) ∧ rxPSRPC S0 ws S (some 0) := by
  rcases hinv with ⟨z, hA⟩ | ⟨z, hA⟩
  · exfalso
    omega
  · exact ⟨trivial, hA⟩
theorem rxcRPC_10_0 {S0 : Nat → Int → Int} {ws : List Int} {S : Nat → Int → Int} {st pl : Int} (hP : rxPRPC S0 ws) (hin : bx_same rxL (bx_mdl rxCRPC.2.2.1) S0 S) (I0 : bx_Inv rxL S) (hinv : rxIRPC_10 S0 ws S st pl) (l8 : 0 ≤ st) (u8 : st ≤ 6) (l9 : 0 ≤ pl) (u9 : pl ≤ 6) : (True) ∧ (True) ∧ rxIRPC_11 S0 ws S st pl ∧ rxmRPC_11 S0 ws S st pl < rxmRPC_10 S0 ws S st pl := by
  obtain ⟨hA, hr⟩ := hinv
  have hb : rzPlc (rzCut (S0 411)) (S0 412 1) (S 412 2) = true := by
    rw [rzPlc_v, ← hr]
    exact decide_eq_true (by omega)
  exact ⟨trivial, trivial, ⟨hA, hb⟩, by unfold rxmRPC_10 rxmRPC_11; omega⟩
theorem rxdRPC_10_0 {S0 : Nat → Int → Int} {ws : List Int} {S : Nat → Int → Int} {st pl x10 : Int} (hP : rxPRPC S0 ws) (hin : bx_same rxL (bx_mdl rxCRPC.2.2.1) S0 S) (hin2 : bx_same rxL (bx_mdl rxCRPC.2.2.1) S (bx_up S 412 4 x10)) (I0 : bx_Inv rxL S) (I1 : bx_Inv rxL (bx_up S 412 4 x10)) (hinv : rxIRPC_10 S0 ws S st pl) (l8 : 0 ≤ st) (u8 : st ≤ 6) (l9 : (-2147483648) ≤ pl) (u9 : pl ≤ (-1)) (l10 : 0 ≤ x10) (u10 : x10 ≤ 400) (e1 : S 412 2 = x10) : (True) ∧ rxPSRPC S0 ws (bx_up S 412 4 x10) (some 0) := by
  obtain ⟨hA, hr⟩ := hinv
  have hb : rzPlc (rzCut (S0 411)) (S0 412 1) (S 412 2) = false := by
    rw [rzPlc_v, ← hr]
    exact decide_eq_false (by omega)
  exact ⟨trivial, rzAt_no hA (rzAlt_n hb rfl) (bx_up_at.trans e1.symm)⟩
theorem rxcRPC_12_0 {S0 : Nat → Int → Int} {ws : List Int} {S : Nat → Int → Int} {st cu : Int} (hP : rxPRPC S0 ws) (hin : bx_same rxL (bx_mdl rxCRPC.2.2.1) S0 S) (I0 : bx_Inv rxL S) (hinv : rxIRPC_12 S0 ws S st cu) (l8 : 0 ≤ st) (u8 : st ≤ 6) (l9 : 0 ≤ cu) (u9 : cu ≤ 6) : (True) ∧ (True) ∧ rxIRPC_13 S0 ws S st cu ∧ rxmRPC_13 S0 ws S st cu < rxmRPC_12 S0 ws S st cu := by
  exact ⟨trivial, trivial, hinv, by unfold rxmRPC_12 rxmRPC_13; omega⟩
theorem rxcRPC_14_0 {S0 : Nat → Int → Int} {ws : List Int} {S : Nat → Int → Int} {st cu r : Int} (hP : rxPRPC S0 ws) (hin : bx_same rxL (bx_mdl rxCRPC.2.2.1) S0 S) (I0 : bx_Inv rxL S) (hinv : rxIRPC_14 S0 ws S st cu r) (l8 : 0 ≤ st) (u8 : st ≤ 6) (l9 : 0 ≤ cu) (u9 : cu ≤ 6) (l10 : 0 ≤ r) (u10 : r ≤ 0) : (True) ∧ (True) ∧ rxIRPC_15 S0 ws S st cu r ∧ rxmRPC_15 S0 ws S st cu r < rxmRPC_14 S0 ws S st cu r := by
  obtain ⟨hA, hr⟩ := hinv
  rw [hA.1.1, hA.1.2.1] at hr
  have b1 : rzIs (rzCut (S0 411)) (S0 412 1) rzW_hush (S 412 2) = false := by
    cases hb : rzIs (rzCut (S0 411)) (S0 412 1) rzW_hush (S 412 2) with
    | false => rfl
    | true =>
      rw [hb, if_pos rfl] at hr
      omega
  exact ⟨trivial, trivial, ⟨hA, by omega, b1⟩, by unfold rxmRPC_14 rxmRPC_15; omega⟩
theorem rxcRPC_14_1 {S0 : Nat → Int → Int} {ws : List Int} {S : Nat → Int → Int} {st cu r : Int} (hP : rxPRPC S0 ws) (hin : bx_same rxL (bx_mdl rxCRPC.2.2.1) S0 S) (I0 : bx_Inv rxL S) (hinv : rxIRPC_14 S0 ws S st cu r) (l8 : 0 ≤ st) (u8 : st ≤ 6) (l9 : 0 ≤ cu) (u9 : cu ≤ 6) (l10 : 1 ≤ r) (u10 : r ≤ 1) (f0 : r ≠ 0) : (True) ∧ (True) ∧ rxIRPC_17 S0 ws S st cu r ∧ rxmRPC_17 S0 ws S st cu r < rxmRPC_14 S0 ws S st cu r := by
  obtain ⟨hA, hr⟩ := hinv
  rw [hA.1.1, hA.1.2.1] at hr
  have b1 : rzIs (rzCut (S0 411)) (S0 412 1) rzW_hush (S 412 2) = true := by
    cases hb : rzIs (rzCut (S0 411)) (S0 412 1) rzW_hush (S 412 2) with
    | true => rfl
    | false =>
      rw [hb, if_neg (by decide)] at hr
      omega
  exact ⟨trivial, trivial, ⟨hA, Or.inl ⟨by omega, b1⟩⟩, by unfold rxmRPC_14 rxmRPC_17; omega⟩
theorem rxcRPC_16_0 {S0 : Nat → Int → Int} {ws : List Int} {S : Nat → Int → Int} {st cu hu r : Int} (hP : rxPRPC S0 ws) (hin : bx_same rxL (bx_mdl rxCRPC.2.2.1) S0 S) (I0 : bx_Inv rxL S) (hinv : rxIRPC_16 S0 ws S st cu hu r) (l8 : 0 ≤ st) (u8 : st ≤ 6) (l9 : 0 ≤ cu) (u9 : cu ≤ 6) (l10 : 0 ≤ hu) (u10 : hu ≤ 1) (l11 : 1 ≤ r) (u11 : r ≤ 1) (f0 : r ≠ 0) : (True) ∧ (True) ∧ rxIRPC_17 S0 ws S st cu hu ∧ rxmRPC_17 S0 ws S st cu hu < rxmRPC_16 S0 ws S st cu hu r := by
  obtain ⟨hA, h0, h1, hr⟩ := hinv
  rw [hA.1.1, hA.1.2.1] at hr
  have b1 : rzIs (rzCut (S0 411)) (S0 412 1) rzW_say (S 412 2) = true := by
    cases hb : rzIs (rzCut (S0 411)) (S0 412 1) rzW_say (S 412 2) with
    | true => rfl
    | false =>
      rw [hb, if_neg (by decide)] at hr
      omega
  exact ⟨trivial, trivial, ⟨hA, Or.inr ⟨h0, h1, b1⟩⟩, by unfold rxmRPC_16 rxmRPC_17; omega⟩
theorem rxdRPC_16_0 {S0 : Nat → Int → Int} {ws : List Int} {S : Nat → Int → Int} {st cu hu r x12 : Int} (hP : rxPRPC S0 ws) (hin : bx_same rxL (bx_mdl rxCRPC.2.2.1) S0 S) (hin2 : bx_same rxL (bx_mdl rxCRPC.2.2.1) S (bx_up S 412 4 x12)) (I0 : bx_Inv rxL S) (I1 : bx_Inv rxL (bx_up S 412 4 x12)) (hinv : rxIRPC_16 S0 ws S st cu hu r) (l8 : 0 ≤ st) (u8 : st ≤ 6) (l9 : 0 ≤ cu) (u9 : cu ≤ 6) (l10 : 0 ≤ hu) (u10 : hu ≤ 1) (l11 : 0 ≤ r) (u11 : r ≤ 0) (l12 : 0 ≤ x12) (u12 : x12 ≤ 400) (e1 : S 412 2 = x12) : (True) ∧ rxPSRPC S0 ws (bx_up S 412 4 x12) (some 0) := by
  obtain ⟨hA, h0, h1, hr⟩ := hinv
  rw [hA.1.1, hA.1.2.1] at hr
  have b1 : rzIs (rzCut (S0 411)) (S0 412 1) rzW_say (S 412 2) = false := by
    cases hb : rzIs (rzCut (S0 411)) (S0 412 1) rzW_say (S 412 2) with
    | false => rfl
    | true =>
      rw [hb, if_pos rfl] at hr
      omega
  exact ⟨trivial, rzAt_no hA (rzAlt_n h1 (rzAlt_n b1 rfl)) (bx_up_at.trans e1.symm)⟩
theorem rxcRPC_18_0 {S0 : Nat → Int → Int} {ws : List Int} {S : Nat → Int → Int} {st cu hu : Int} (hP : rxPRPC S0 ws) (hin : bx_same rxL (bx_mdl rxCRPC.2.2.1) S0 S) (I0 : bx_Inv rxL S) (hinv : rxIRPC_18 S0 ws S st cu hu) (l8 : 0 ≤ st) (u8 : st ≤ 6) (l9 : 0 ≤ cu) (u9 : cu ≤ 6) (l10 : 1 ≤ hu) (u10 : hu ≤ 1) (f0 : hu ≠ 0) : (True) ∧ (True) ∧ rxIRPC_19 S0 ws S st cu hu 4 ∧ rxmRPC_19 S0 ws S st cu hu 4 < rxmRPC_18 S0 ws S st cu hu := by
  exact ⟨trivial, trivial, hinv, by unfold rxmRPC_18 rxmRPC_19; omega⟩
theorem rxcRPC_18_1 {S0 : Nat → Int → Int} {ws : List Int} {S : Nat → Int → Int} {st cu hu : Int} (hP : rxPRPC S0 ws) (hin : bx_same rxL (bx_mdl rxCRPC.2.2.1) S0 S) (I0 : bx_Inv rxL S) (hinv : rxIRPC_18 S0 ws S st cu hu) (l8 : 0 ≤ st) (u8 : st ≤ 6) (l9 : 0 ≤ cu) (u9 : cu ≤ 6) (l10 : 0 ≤ hu) (u10 : hu ≤ 0) : (True) ∧ (True) ∧ rxIRPC_19 S0 ws S st cu hu 3 ∧ rxmRPC_19 S0 ws S st cu hu 3 < rxmRPC_18 S0 ws S st cu hu := by
  exact ⟨trivial, trivial, hinv, by unfold rxmRPC_18 rxmRPC_19; omega⟩
theorem rxcRPC_20_0 {S0 : Nat → Int → Int} {ws : List Int} {S : Nat → Int → Int} {st cu hu ki x12 : Int} (hP : rxPRPC S0 ws) (hin : bx_same rxL (bx_mdl rxCRPC.2.2.1) S0 S) (I0 : bx_Inv rxL S) (hinv : rxIRPC_20 S0 ws S st cu hu ki) (l8 : 0 ≤ st) (u8 : st ≤ 6) (l9 : 0 ≤ cu) (u9 : cu ≤ 6) (l10 : 0 ≤ hu) (u10 : hu ≤ 0) (l11 : 0 ≤ ki) (u11 : ki ≤ 4) (l12 : 0 ≤ x12) (u12 : x12 ≤ 1522) (e0 : S 427 8 = x12) : (True) ∧ (True) ∧ rxIRPC_21 S0 ws S st cu hu x12 ∧ rxmRPC_21 S0 ws S st cu hu x12 < rxmRPC_20 S0 ws S st cu hu ki := by
  have hA : rzAt (rzPH (rzCut (S0 411)) (S0 412 1) (rzWs S0) (S0 412 2) (S0 412 7)) S0 S (fun f lf r => rzAlt (decide (hu = 1)) (r = (true, f, lf)) (rzThen (rzEx (rzCut (S0 411)) (S0 412 1) (rzWs S0) 0 f lf) (rzPG (rzCut (S0 411)) (S0 412 1) (rzWs S0)) r)) := hinv
  exact ⟨trivial, trivial, rzAt_im hA fun r q => rzAlt_n (decide_eq_false (by omega)) q, by unfold rxmRPC_20 rxmRPC_21; omega⟩
theorem rxdRPC_20_0 {S0 : Nat → Int → Int} {ws : List Int} {S : Nat → Int → Int} {st cu hu ki : Int} (hP : rxPRPC S0 ws) (hin : bx_same rxL (bx_mdl rxCRPC.2.2.1) S0 S) (hin2 : bx_same rxL (bx_mdl rxCRPC.2.2.1) S S) (I0 : bx_Inv rxL S) (I1 : bx_Inv rxL S) (hinv : rxIRPC_20 S0 ws S st cu hu ki) (l8 : 0 ≤ st) (u8 : st ≤ 6) (l9 : 0 ≤ cu) (u9 : cu ≤ 6) (l10 : 1 ≤ hu) (u10 : hu ≤ 1) (l11 : 0 ≤ ki) (u11 : ki ≤ 4) (f0 : hu ≠ 0) : (True) ∧ rxPSRPC S0 ws S (some 1) := by
  have hA : rzAt (rzPH (rzCut (S0 411)) (S0 412 1) (rzWs S0) (S0 412 2) (S0 412 7)) S0 S (fun f lf r => rzAlt (decide (hu = 1)) (r = (true, f, lf)) (rzThen (rzEx (rzCut (S0 411)) (S0 412 1) (rzWs S0) 0 f lf) (rzPG (rzCut (S0 411)) (S0 412 1) (rzWs S0)) r)) := hinv
  exact ⟨trivial, rzAt_yes hA (rzAlt_y (decide_eq_true (by omega)) rfl)⟩
theorem rxcRPC_22_0 {S0 : Nat → Int → Int} {ws : List Int} {S : Nat → Int → Int} {st cu hu sa res : Int} (hP : rxPRPC S0 ws) (hin : bx_same rxL (bx_mdl rxCRPC.2.2.1) S0 S) (I0 : bx_Inv rxL S) (hinv : rxIRPC_22 S0 ws S st cu hu sa res) (l8 : 0 ≤ st) (u8 : st ≤ 6) (l9 : 0 ≤ cu) (u9 : cu ≤ 6) (l10 : 0 ≤ hu) (u10 : hu ≤ 1) (l11 : 0 ≤ sa) (u11 : sa ≤ 1522) (l12 : 1 ≤ res) (u12 : res ≤ 1) (f0 : res ≠ 0) : (True) ∧ (True) ∧ rxIRPC_23 S0 ws S st cu hu ∧ rxmRPC_23 S0 ws S st cu hu < rxmRPC_22 S0 ws S st cu hu sa res := by
  rcases hinv with ⟨z, hA⟩ | ⟨z, hA⟩
  · exact ⟨trivial, trivial, hA, by unfold rxmRPC_22 rxmRPC_23; omega⟩
  · exfalso
    omega
theorem rxdRPC_22_0 {S0 : Nat → Int → Int} {ws : List Int} {S : Nat → Int → Int} {st cu hu sa res : Int} (hP : rxPRPC S0 ws) (hin : bx_same rxL (bx_mdl rxCRPC.2.2.1) S0 S) (hin2 : bx_same rxL (bx_mdl rxCRPC.2.2.1) S S) (I0 : bx_Inv rxL S) (I1 : bx_Inv rxL S) (hinv : rxIRPC_22 S0 ws S st cu hu sa res) (l8 : 0 ≤ st) (u8 : st ≤ 6) (l9 : 0 ≤ cu) (u9 : cu ≤ 6) (l10 : 0 ≤ hu) (u10 : hu ≤ 1) (l11 : 0 ≤ sa) (u11 : sa ≤ 1522) (l12 : 0 ≤ res) (u12 : res ≤ 0) : (True) ∧ rxPSRPC S0 ws S (some 0) := by
  rcases hinv with ⟨z, hA⟩ | ⟨z, hA⟩
  · exfalso
    omega
  · exact ⟨trivial, hA⟩
theorem rxcRPC_24_0 {S0 : Nat → Int → Int} {ws : List Int} {S : Nat → Int → Int} {st cu hu r : Int} (hP : rxPRPC S0 ws) (hin : bx_same rxL (bx_mdl rxCRPC.2.2.1) S0 S) (I0 : bx_Inv rxL S) (hinv : rxIRPC_24 S0 ws S st cu hu r) (l8 : 0 ≤ st) (u8 : st ≤ 6) (l9 : 0 ≤ cu) (u9 : cu ≤ 6) (l10 : 0 ≤ hu) (u10 : hu ≤ 1) (l11 : 1 ≤ r) (u11 : r ≤ 1) (f0 : r ≠ 0) : (True) ∧ (True) ∧ rxIRPC_25 S0 ws S st cu hu ∧ rxmRPC_25 S0 ws S st cu hu < rxmRPC_24 S0 ws S st cu hu r := by
  obtain ⟨hA, hr⟩ := hinv
  rw [hA.1.1, hA.1.2.1] at hr
  have b1 : rzIs (rzCut (S0 411)) (S0 412 1) rzW_go (S 412 2) = true := by
    cases hb : rzIs (rzCut (S0 411)) (S0 412 1) rzW_go (S 412 2) with
    | true => rfl
    | false =>
      rw [hb, if_neg (by decide)] at hr
      omega
  exact ⟨trivial, trivial, ⟨hA, b1⟩, by unfold rxmRPC_24 rxmRPC_25; omega⟩
theorem rxdRPC_24_0 {S0 : Nat → Int → Int} {ws : List Int} {S : Nat → Int → Int} {st cu hu r : Int} (hP : rxPRPC S0 ws) (hin : bx_same rxL (bx_mdl rxCRPC.2.2.1) S0 S) (hin2 : bx_same rxL (bx_mdl rxCRPC.2.2.1) S S) (I0 : bx_Inv rxL S) (I1 : bx_Inv rxL S) (hinv : rxIRPC_24 S0 ws S st cu hu r) (l8 : 0 ≤ st) (u8 : st ≤ 6) (l9 : 0 ≤ cu) (u9 : cu ≤ 6) (l10 : 0 ≤ hu) (u10 : hu ≤ 1) (l11 : 0 ≤ r) (u11 : r ≤ 0) : (True) ∧ rxPSRPC S0 ws S (some 1) := by
  obtain ⟨hA, hr⟩ := hinv
  rw [hA.1.1, hA.1.2.1] at hr
  have b1 : rzIs (rzCut (S0 411)) (S0 412 1) rzW_go (S 412 2) = false := by
    cases hb : rzIs (rzCut (S0 411)) (S0 412 1) rzW_go (S 412 2) with
    | false => rfl
    | true =>
      rw [hb, if_pos rfl] at hr
      omega
  exact ⟨trivial, rzAt_yes hA (rzAlt_n b1 rfl)⟩
theorem rxcRPC_26_0 {S0 : Nat → Int → Int} {ws : List Int} {S : Nat → Int → Int} {st cu hu x11 : Int} (hP : rxPRPC S0 ws) (hin : bx_same rxL (bx_mdl rxCRPC.2.2.1) S0 S) (I0 : bx_Inv rxL S) (hinv : rxIRPC_26 S0 ws S st cu hu) (l8 : 0 ≤ st) (u8 : st ≤ 6) (l9 : 0 ≤ cu) (u9 : cu ≤ 6) (l10 : 0 ≤ hu) (u10 : hu ≤ 1) (l11 : 0 ≤ x11) (u11 : x11 ≤ 1522) (e0 : S 427 9 = x11) : (True) ∧ (True) ∧ rxIRPC_27 S0 ws S st cu hu x11 ∧ rxmRPC_27 S0 ws S st cu hu x11 < rxmRPC_26 S0 ws S st cu hu := by
  exact ⟨trivial, trivial, hinv, by unfold rxmRPC_26 rxmRPC_27; omega⟩
theorem rxdRPC_28_0 {S0 : Nat → Int → Int} {ws : List Int} {S : Nat → Int → Int} {st cu hu sa res : Int} (hP : rxPRPC S0 ws) (hin : bx_same rxL (bx_mdl rxCRPC.2.2.1) S0 S) (hin2 : bx_same rxL (bx_mdl rxCRPC.2.2.1) S S) (I0 : bx_Inv rxL S) (I1 : bx_Inv rxL S) (hinv : rxIRPC_28 S0 ws S st cu hu sa res) (l8 : 0 ≤ st) (u8 : st ≤ 6) (l9 : 0 ≤ cu) (u9 : cu ≤ 6) (l10 : 0 ≤ hu) (u10 : hu ≤ 1) (l11 : 0 ≤ sa) (u11 : sa ≤ 1522) (l12 : 0 ≤ res) (u12 : res ≤ 1) : (True) ∧ rxPSRPC S0 ws S (some res) := by
  have hx : rzOc (rzPH (rzCut (S0 411)) (S0 412 1) (rzWs S0) (S0 412 2) (S0 412 7)) S0 S (some res) := hinv
  exact ⟨trivial, hx⟩
noncomputable def rzCl (play : Bool) (T : Int → Int) (n : Int) : Int → Int → rzR → Prop := if play = true then rzPC T n else rzLC T n
noncomputable def rzNx (play : Bool) (T : Int → Int) (n : Int) (c : Nat) (g lg : Int) (r : rzR) : Prop := rzAlt (rzSg T n 59 g) (rzTx (rzCl play T n) T n c (rzN T n g) lg r) (rzAlt (decide (n ≤ g)) (r = (true, g, lg)) (r = (false, g, lg)))
theorem rzThen_assoc {a : rzR → Prop} {b c : Int → Int → rzR → Prop} {r : rzR} (h : rzThen a (fun f lf => rzThen (b f lf) c) r) : rzThen (rzThen a b) c r := by
  obtain ⟨r1, h1, h2⟩ := h
  rcases h2 with ⟨q, e⟩ | ⟨q, r2, h3, h4⟩
  · exact ⟨r1, ⟨r1, h1, Or.inl ⟨q, rfl⟩⟩, Or.inl ⟨q, e⟩⟩
  · exact ⟨r2, ⟨r1, h1, Or.inr ⟨q, h3⟩⟩, h4⟩
theorem rzThen_map {a a_p : rzR → Prop} {b : Int → Int → rzR → Prop} {r : rzR} (k : ∀ r : rzR, a r → a_p r) (h : rzThen a b r) : rzThen a_p b r := by
  obtain ⟨r1, h1, h2⟩ := h
  exact ⟨r1, k _ h1, h2⟩
noncomputable def rzRd (S0 S : Nat → Int → Int) (nb ap : Int) : Prop := rzCut (S 411) = rzCut (S0 411) ∧ S 412 1 = nb ∧ S 412 5 = ap ∧ S 412 4 = -1
noncomputable def rzRi (S0 S : Nat → Int → Int) (nb ap : Int) (C : Int → Int → rzR → Prop) : Prop := ∃ S1 : Nat → Int → Int, rzRd S0 S1 nb ap ∧ rzAt (rzText (decide (ap = 1)) (rzCut (S0 411)) nb) S1 S C
noncomputable def rzRo (S0 S : Nat → Int → Int) (nb ap : Int) (w : Option Int) : Prop := ∃ r : rzR, rzText (decide (ap = 1)) (rzCut (S0 411)) nb r ∧ ((w = some 1 ∧ r.1 = true ∧ S 412 4 = -1) ∨ (w = some 0 ∧ r.1 = false ∧ S 412 4 = r.2.1))
theorem rzRi_ok {S0 S1 S : Nat → Int → Int} {nb ap : Int} {w : Option Int} (h : rzRd S0 S1 nb ap) (q : rzOc (rzText (decide (ap = 1)) (rzCut (S0 411)) nb) S1 S w) : rzRo S0 S nb ap w := by
  obtain ⟨r, q1, q2⟩ := q
  refine ⟨r, q1, ?_⟩
  rcases q2 with ⟨a1, a2, a3, a4⟩ | q3
  · exact Or.inl ⟨a1, a2, a3.2.2.2.trans h.2.2.2⟩
  · exact Or.inr q3
noncomputable def rxCRDX : bx_Ct := ([(3, (1, 412, 0)), (3, (1, 411, 0)), (0, (0, 0, 400)), (0, (0, 0, 1)), (3, (1, 427, 0))], some (0, (0, 0, 1)), [(6, 0), (6, 4), (7, 0), (7, 1), (7, 2), (7, 3), (7, 4), (7, 5), (7, 6), (7, 7), (7, 8), (7, 10), (1021, 0), (1022, 0), (1024, 0), (1025, 0), (1026, 0), (1027, 0), (1034, 0), (1035, 0), (1036, 0)], 9, [])
noncomputable def rxIRDX_0 (S0 : Nat → Int → Int) (ws : List Int) (S : Nat → Int → Int) (nb ap : Int) : Prop := S = S0 ∧ ws = [412, 411, nb, ap, 427]
noncomputable def rxmRDX_0 (S0 : Nat → Int → Int) (ws : List Int) (S : Nat → Int → Int) (nb ap : Int) : Nat := 10000
noncomputable def rxIRDX_1 (S0 : Nat → Int → Int) (ws : List Int) (S : Nat → Int → Int) (nb ap : Int) : Prop := ws = [412, 411, nb, ap, 427] ∧ rzRd S0 S nb ap ∧ S 412 3 = 0 ∧ S 412 7 = 0
noncomputable def rxmRDX_1 (S0 : Nat → Int → Int) (ws : List Int) (S : Nat → Int → Int) (nb ap : Int) : Nat := 9000
noncomputable def rxIRDX_2 (S0 : Nat → Int → Int) (ws : List Int) (S : Nat → Int → Int) (nb ap : Int) : Prop := ws = [412, 411, nb, ap, 427] ∧ rzRi S0 S nb ap (rzTx (rzCl (decide (ap = 1)) (rzCut (S0 411)) nb) (rzCut (S0 411)) nb 12)
noncomputable def rxmRDX_2 (S0 : Nat → Int → Int) (ws : List Int) (S : Nat → Int → Int) (nb ap : Int) : Nat := 8000
noncomputable def rxIRDX_3 (S0 : Nat → Int → Int) (ws : List Int) (S : Nat → Int → Int) (nb ap cl : Int) : Prop := ws = [412, 411, nb, ap, 427] ∧ rzRi S0 S nb ap (rzTx (rzCl (decide (ap = 1)) (rzCut (S0 411)) nb) (rzCut (S0 411)) nb (12 - cl).toNat)
noncomputable def rxmRDX_3 (S0 : Nat → Int → Int) (ws : List Int) (S : Nat → Int → Int) (nb ap cl : Int) : Nat := (20 - cl).toNat * 100 + 90
noncomputable def rxIRDX_4 (S0 : Nat → Int → Int) (ws : List Int) (S : Nat → Int → Int) (nb ap cl : Int) : Prop := ap = 1 ∧ ws = [412, 411, nb, ap, 427] ∧ rzRi S0 S nb ap (rzTx (rzCl (decide (ap = 1)) (rzCut (S0 411)) nb) (rzCut (S0 411)) nb (12 - cl).toNat)
noncomputable def rxmRDX_4 (S0 : Nat → Int → Int) (ws : List Int) (S : Nat → Int → Int) (nb ap cl : Int) : Nat := (20 - cl).toNat * 100 + 80
noncomputable def rxIRDX_5 (S0 : Nat → Int → Int) (ws : List Int) (S : Nat → Int → Int) (nb ap cl res : Int) : Prop := ws = [412, 411, nb, ap, 427] ∧ ((res = 1 ∧ rzRi S0 S nb ap (fun f lf => rzThen (rzIf (rzCut (S0 411)) nb (if ap = 1 then rzPn else rzLn_) f lf) (rzNx (decide (ap = 1)) (rzCut (S0 411)) nb (11 - cl).toNat))) ∨ (res = 0 ∧ rzRo S0 S nb ap (some 0)))
noncomputable def rxmRDX_5 (S0 : Nat → Int → Int) (ws : List Int) (S : Nat → Int → Int) (nb ap cl res : Int) : Nat := (20 - cl).toNat * 100 + 75
noncomputable def rxIRDX_6 (S0 : Nat → Int → Int) (ws : List Int) (S : Nat → Int → Int) (nb ap cl : Int) : Prop := ap = 0 ∧ ws = [412, 411, nb, ap, 427] ∧ rzRi S0 S nb ap (rzTx (rzCl (decide (ap = 1)) (rzCut (S0 411)) nb) (rzCut (S0 411)) nb (12 - cl).toNat)
noncomputable def rxmRDX_6 (S0 : Nat → Int → Int) (ws : List Int) (S : Nat → Int → Int) (nb ap cl : Int) : Nat := (20 - cl).toNat * 100 + 80
noncomputable def rxIRDX_7 (S0 : Nat → Int → Int) (ws : List Int) (S : Nat → Int → Int) (nb ap cl res : Int) : Prop := ws = [412, 411, nb, ap, 427] ∧ ((res = 1 ∧ rzRi S0 S nb ap (fun f lf => rzThen (rzIf (rzCut (S0 411)) nb (if ap = 1 then rzPn else rzLn_) f lf) (rzNx (decide (ap = 1)) (rzCut (S0 411)) nb (11 - cl).toNat))) ∨ (res = 0 ∧ rzRo S0 S nb ap (some 0)))
noncomputable def rxmRDX_7 (S0 : Nat → Int → Int) (ws : List Int) (S : Nat → Int → Int) (nb ap cl res : Int) : Nat := (20 - cl).toNat * 100 + 75
noncomputable def rxIRDX_8 (S0 : Nat → Int → Int) (ws : List Int) (S : Nat → Int → Int) (nb ap cl : Int) : Prop := ws = [412, 411, nb, ap, 427] ∧ rzRi S0 S nb ap (fun f lf => rzThen (rzIf (rzCut (S0 411)) nb (if ap = 1 then rzPn else rzLn_) f lf) (rzNx (decide (ap = 1)) (rzCut (S0 411)) nb (11 - cl).toNat))
noncomputable def rxmRDX_8 (S0 : Nat → Int → Int) (ws : List Int) (S : Nat → Int → Int) (nb ap cl : Int) : Nat := (20 - cl).toNat * 100 + 70
noncomputable def rxIRDX_9 (S0 : Nat → Int → Int) (ws : List Int) (S : Nat → Int → Int) (nb ap cl res : Int) : Prop := ws = [412, 411, nb, ap, 427] ∧ ((res = 1 ∧ rzRi S0 S nb ap (rzNx (decide (ap = 1)) (rzCut (S0 411)) nb (11 - cl).toNat)) ∨ (res = 0 ∧ rzRo S0 S nb ap (some 0)))
noncomputable def rxmRDX_9 (S0 : Nat → Int → Int) (ws : List Int) (S : Nat → Int → Int) (nb ap cl res : Int) : Nat := (20 - cl).toNat * 100 + 65
noncomputable def rxIRDX_10 (S0 : Nat → Int → Int) (ws : List Int) (S : Nat → Int → Int) (nb ap cl : Int) : Prop := ws = [412, 411, nb, ap, 427] ∧ ∃ S1 : Nat → Int → Int, rzRd S0 S1 nb ap ∧ rzAt (rzText (decide (ap = 1)) (rzCut (S0 411)) nb) S1 S (rzNx (decide (ap = 1)) (rzCut (S0 411)) nb (11 - cl).toNat) ∧ rzSg (rzCut (S0 411)) nb 59 (S 412 2) = true
noncomputable def rxmRDX_10 (S0 : Nat → Int → Int) (ws : List Int) (S : Nat → Int → Int) (nb ap cl : Int) : Nat := (20 - cl).toNat * 100 + 60
noncomputable def rxIRDX_11 (S0 : Nat → Int → Int) (ws : List Int) (S : Nat → Int → Int) (nb ap cl : Int) : Prop := ws = [412, 411, nb, ap, 427] ∧ rzRi S0 S nb ap (rzTx (rzCl (decide (ap = 1)) (rzCut (S0 411)) nb) (rzCut (S0 411)) nb (11 - cl).toNat)
noncomputable def rxmRDX_11 (S0 : Nat → Int → Int) (ws : List Int) (S : Nat → Int → Int) (nb ap cl : Int) : Nat := (20 - cl).toNat * 100 + 55
noncomputable def rxPRDX (S0 : Nat → Int → Int) (ws : List Int) : Prop := True
noncomputable def rxPSRDX (S0 : Nat → Int → Int) (ws : List Int) (S : Nat → Int → Int) (w : Option Int) : Prop := ∃ nb ap : Int, ws = [412, 411, nb, ap, 427] ∧ rzRo S0 S nb ap w
theorem rxkRDX_1 {S0 : Nat → Int → Int} {ws : List Int} {S : Nat → Int → Int} {nb ap : Int} (hP : rxPRDX S0 ws) (hin : bx_same rxL (bx_mdl rxCRDX.2.2.1) S0 S) (I0 : bx_Inv rxL S) (hinv : rxIRDX_1 S0 ws S nb ap) (l8 : 0 ≤ nb) (u8 : nb ≤ 400) (l9 : 0 ≤ ap) (u9 : ap ≤ 1) : rxPAD S [412] ∧ ∀ (S_p : Nat → Int → Int), rxPSAD S [412] S_p none → bx_Inv rxL S_p → bx_same rxL (bx_mdl rxC84.2.2.1) S S_p → rxIRDX_2 S0 ws S_p nb ap ∧ rxmRDX_2 S0 ws S_p nb ap < rxmRDX_1 S0 ws S nb ap := by
  obtain ⟨hw, hR, h3, h7⟩ := hinv
  refine ⟨trivial, fun S_p hq _ hsm => ⟨⟨hw, S_p, ?_, ?_⟩, by unfold rxmRDX_1 rxmRDX_2; omega⟩⟩
  · have kp := rzKp_of hsm (by decide +kernel) (by decide +kernel) (by decide +kernel) (by decide +kernel)
    exact ⟨kp.1.trans hR.1, kp.2.1.trans hR.2.1, kp.2.2.1.trans hR.2.2.1, kp.2.2.2.trans hR.2.2.2⟩
  · obtain ⟨-, q2, q3⟩ := hq
    have kp := rzKp_of hsm (by decide +kernel) (by decide +kernel) (by decide +kernel) (by decide +kernel)
    have f7 : S_p 412 7 = S 412 7 := hsm 412 7 (by decide) (by decide) (by decide +kernel)
    rw [h3, hR.1, hR.2.1] at q2
    have b := rzF_b (T := rzCut (S0 411)) (n := nb) (k := 0)
    have e1 : S_p 412 1 = nb := kp.2.1.trans hR.2.1
    have eT : rzCut (S_p 411) = rzCut (S0 411) := kp.1.trans hR.1
    refine ⟨rzKp_rf, ⟨?_, by omega, by omega, by omega⟩, fun r hr => ?_⟩
    · rw [kp.1, kp.2.1]
      exact q3
    · rw [q2, f7, h7] at hr
      exact hr
theorem rxkRDX_4 {S0 : Nat → Int → Int} {ws : List Int} {S : Nat → Int → Int} {nb ap cl : Int} (hP : rxPRDX S0 ws) (hin : bx_same rxL (bx_mdl rxCRDX.2.2.1) S0 S) (I0 : bx_Inv rxL S) (hinv : rxIRDX_4 S0 ws S nb ap cl) (l8 : 0 ≤ nb) (u8 : nb ≤ 400) (l9 : 0 ≤ ap) (u9 : ap ≤ 1) (l10 : 0 ≤ cl) (u10 : cl ≤ 11) : rxPRPC S [412] ∧ ∀ (S_p : Nat → Int → Int) (res : Int), 0 ≤ res → res ≤ 1 → rxPSRPC S [412] S_p (some res) → bx_Inv rxL S_p → bx_same rxL (bx_mdl rxCRPC.2.2.1) S S_p → rxIRDX_5 S0 ws S_p nb ap cl res ∧ rxmRDX_5 S0 ws S_p nb ap cl res < rxmRDX_4 S0 ws S nb ap cl := by
  obtain ⟨ha, hw, S1, hR, hA⟩ := hinv
  refine ⟨hA.2.1, fun S_p res _ _ hq _ _ => ⟨⟨hw, ?_⟩, by unfold rxmRDX_4 rxmRDX_5; omega⟩⟩
  have e5 : S 412 5 = ap := hA.1.2.2.1.trans hR.2.2.1
  have hW : rzWs S = rzPn := if_pos (by omega)
  have hX : (if ap = 1 then rzPn else rzLn_) = rzPn := if_pos (by omega)
  have hp : (decide (ap = 1)) = true := decide_eq_true (by omega)
  have hC : rzCl (decide (ap = 1)) (rzCut (S0 411)) nb = rzPC (rzCut (S0 411)) nb := by
    rw [hp]
    rfl
  unfold rxPSRPC at hq
  rw [hW, hA.1.1, hA.1.2.1, hR.1, hR.2.1] at hq
  have k : ∀ r : rzR, rzThen (rzPH (rzCut (S0 411)) nb rzPn (S 412 2) (S 412 7)) (fun f lf => rzThen (rzIf (rzCut (S0 411)) nb (if ap = 1 then rzPn else rzLn_) f lf) (rzNx (decide (ap = 1)) (rzCut (S0 411)) nb (11 - cl).toNat)) r → rzTx (rzCl (decide (ap = 1)) (rzCut (S0 411)) nb) (rzCut (S0 411)) nb (12 - cl).toNat (S 412 2) (S 412 7) r := fun r q => by
    rw [show (12 - cl).toNat = (11 - cl).toNat + 1 by omega]
    show rzThen (rzCl (decide (ap = 1)) (rzCut (S0 411)) nb (S 412 2) (S 412 7)) (rzNx (decide (ap = 1)) (rzCut (S0 411)) nb (11 - cl).toNat) r
    rw [hX] at q
    rw [hC]
    exact rzThen_map (fun r z => rzPH_then z) (rzThen_assoc q)
  rcases rzAt_call hA k hq with ⟨c1, c2⟩ | ⟨c1, c2⟩
  · exact Or.inl ⟨c1, S1, hR, c2⟩
  · exact Or.inr ⟨c1, rzRi_ok hR c2⟩
theorem rxkRDX_6 {S0 : Nat → Int → Int} {ws : List Int} {S : Nat → Int → Int} {nb ap cl : Int} (hP : rxPRDX S0 ws) (hin : bx_same rxL (bx_mdl rxCRDX.2.2.1) S0 S) (I0 : bx_Inv rxL S) (hinv : rxIRDX_6 S0 ws S nb ap cl) (l8 : 0 ≤ nb) (u8 : nb ≤ 400) (l9 : 0 ≤ ap) (u9 : ap ≤ 1) (l10 : 0 ≤ cl) (u10 : cl ≤ 11) : rxPRLC S [412] ∧ ∀ (S_p : Nat → Int → Int) (res : Int), 0 ≤ res → res ≤ 1 → rxPSRLC S [412] S_p (some res) → bx_Inv rxL S_p → bx_same rxL (bx_mdl rxCRLC.2.2.1) S S_p → rxIRDX_7 S0 ws S_p nb ap cl res ∧ rxmRDX_7 S0 ws S_p nb ap cl res < rxmRDX_6 S0 ws S nb ap cl := by
  obtain ⟨ha, hw, S1, hR, hA⟩ := hinv
  refine ⟨hA.2.1, fun S_p res _ _ hq _ _ => ⟨⟨hw, ?_⟩, by unfold rxmRDX_6 rxmRDX_7; omega⟩⟩
  have e5 : S 412 5 = ap := hA.1.2.2.1.trans hR.2.2.1
  have hW : rzWs S = rzLn_ := if_neg (by omega)
  have hX : (if ap = 1 then rzPn else rzLn_) = rzLn_ := if_neg (by omega)
  have hp : (decide (ap = 1)) = false := decide_eq_false (by omega)
  have hC : rzCl (decide (ap = 1)) (rzCut (S0 411)) nb = rzLC (rzCut (S0 411)) nb := by
    rw [hp]
    rfl
  unfold rxPSRLC at hq
  rw [hW, hA.1.1, hA.1.2.1, hR.1, hR.2.1] at hq
  have k : ∀ r : rzR, rzThen (rzLH (rzCut (S0 411)) nb rzLn_ (S 412 2) (S 412 7)) (fun f lf => rzThen (rzIf (rzCut (S0 411)) nb (if ap = 1 then rzPn else rzLn_) f lf) (rzNx (decide (ap = 1)) (rzCut (S0 411)) nb (11 - cl).toNat)) r → rzTx (rzCl (decide (ap = 1)) (rzCut (S0 411)) nb) (rzCut (S0 411)) nb (12 - cl).toNat (S 412 2) (S 412 7) r := fun r q => by
    rw [show (12 - cl).toNat = (11 - cl).toNat + 1 by omega]
    show rzThen (rzCl (decide (ap = 1)) (rzCut (S0 411)) nb (S 412 2) (S 412 7)) (rzNx (decide (ap = 1)) (rzCut (S0 411)) nb (11 - cl).toNat) r
    rw [hX] at q
    rw [hC]
    exact rzThen_map (fun r z => rzLH_then z) (rzThen_assoc q)
  rcases rzAt_call hA k hq with ⟨c1, c2⟩ | ⟨c1, c2⟩
  · exact Or.inl ⟨c1, S1, hR, c2⟩
  · exact Or.inr ⟨c1, rzRi_ok hR c2⟩
theorem rxkRDX_8 {S0 : Nat → Int → Int} {ws : List Int} {S : Nat → Int → Int} {nb ap cl : Int} (hP : rxPRDX S0 ws) (hin : bx_same rxL (bx_mdl rxCRDX.2.2.1) S0 S) (I0 : bx_Inv rxL S) (hinv : rxIRDX_8 S0 ws S nb ap cl) (l8 : 0 ≤ nb) (u8 : nb ≤ 400) (l9 : 0 ≤ ap) (u9 : ap ≤ 1) (l10 : 0 ≤ cl) (u10 : cl ≤ 11) : rxPRIF S [412] ∧ ∀ (S_p : Nat → Int → Int) (res : Int), 0 ≤ res → res ≤ 1 → rxPSRIF S [412] S_p (some res) → bx_Inv rxL S_p → bx_same rxL (bx_mdl rxCRIF.2.2.1) S S_p → rxIRDX_9 S0 ws S_p nb ap cl res ∧ rxmRDX_9 S0 ws S_p nb ap cl res < rxmRDX_8 S0 ws S nb ap cl := by
  obtain ⟨hw, S1, hR, hA⟩ := hinv
  refine ⟨hA.2.1, fun S_p res _ _ hq _ _ => ⟨⟨hw, ?_⟩, by unfold rxmRDX_8 rxmRDX_9; omega⟩⟩
  have e5 : S 412 5 = ap := hA.1.2.2.1.trans hR.2.2.1
  have hW : rzWs S = (if ap = 1 then rzPn else rzLn_) := by
    unfold rzWs
    rw [e5]
  unfold rxPSRIF at hq
  rw [hW, hA.1.1, hA.1.2.1, hR.1, hR.2.1] at hq
  rcases rzAt_call hA (fun r q => q) hq with ⟨c1, c2⟩ | ⟨c1, c2⟩
  · exact Or.inl ⟨c1, S1, hR, c2⟩
  · exact Or.inr ⟨c1, rzRi_ok hR c2⟩
theorem rxkRDX_10 {S0 : Nat → Int → Int} {ws : List Int} {S : Nat → Int → Int} {nb ap cl : Int} (hP : rxPRDX S0 ws) (hin : bx_same rxL (bx_mdl rxCRDX.2.2.1) S0 S) (I0 : bx_Inv rxL S) (hinv : rxIRDX_10 S0 ws S nb ap cl) (l8 : 0 ≤ nb) (u8 : nb ≤ 400) (l9 : 0 ≤ ap) (u9 : ap ≤ 1) (l10 : 0 ≤ cl) (u10 : cl ≤ 11) : rxPAD S [412] ∧ ∀ (S_p : Nat → Int → Int), rxPSAD S [412] S_p none → bx_Inv rxL S_p → bx_same rxL (bx_mdl rxC84.2.2.1) S S_p → rxIRDX_11 S0 ws S_p nb ap cl ∧ rxmRDX_11 S0 ws S_p nb ap cl < rxmRDX_10 S0 ws S nb ap cl := by
  obtain ⟨hw, S1, hR, hA, hb⟩ := hinv
  refine ⟨trivial, fun S_p hq _ hsm => ⟨⟨hw, S1, hR, rzAt_ad hA hsm (by decide +kernel) (by decide +kernel) (by decide +kernel) (by decide +kernel) (by decide +kernel) hq.2.1 hq.2.2 fun r q => ?_⟩, by unfold rxmRDX_10 rxmRDX_11; omega⟩⟩
  rw [hR.1, hR.2.1] at q
  exact rzAlt_y hb q
theorem rxcRDX_0_0 {S0 : Nat → Int → Int} {ws : List Int} {S : Nat → Int → Int} {nb ap : Int} (hP : rxPRDX S0 ws) (hin : bx_same rxL (bx_mdl rxCRDX.2.2.1) S0 S) (I0 : bx_Inv rxL S) (hinv : rxIRDX_0 S0 ws S nb ap) (l8 : 0 ≤ nb) (u8 : nb ≤ 400) (l9 : 0 ≤ ap) (u9 : ap ≤ 1) : (True) ∧ (True) ∧ rxIRDX_1 S0 ws (bx_up (bx_up (bx_up (bx_up (bx_up (bx_up (bx_up (bx_up (bx_up S 412 0 411) 412 1 nb) 412 3 0) 412 4 ((-1))) 412 5 ap) 412 6 427) 427 0 0) 427 4 0) 412 7 0) nb ap ∧ rxmRDX_1 S0 ws (bx_up (bx_up (bx_up (bx_up (bx_up (bx_up (bx_up (bx_up (bx_up S 412 0 411) 412 1 nb) 412 3 0) 412 4 ((-1))) 412 5 ap) 412 6 427) 427 0 0) 427 4 0) 412 7 0) nb ap < rxmRDX_0 S0 ws S nb ap := by
  obtain ⟨rfl, hw⟩ := hinv
  refine ⟨trivial, trivial, ⟨hw, ⟨congrArg rzCut (funext fun _ => (bx_up_ne (by omega)).trans ((bx_up_ne (by omega)).trans ((bx_up_ne (by omega)).trans ((bx_up_ne (by omega)).trans ((bx_up_ne (by omega)).trans ((bx_up_ne (by omega)).trans ((bx_up_ne (by omega)).trans ((bx_up_ne (by omega)).trans ((bx_up_ne (by omega))))))))))), ((bx_up_ne (by omega)).trans ((bx_up_ne (by omega)).trans ((bx_up_ne (by omega)).trans ((bx_up_ne (by omega)).trans ((bx_up_ne (by omega)).trans ((bx_up_ne (by omega)).trans ((bx_up_ne (by omega)).trans (bx_up_at)))))))).trans (by omega), ((bx_up_ne (by omega)).trans ((bx_up_ne (by omega)).trans ((bx_up_ne (by omega)).trans ((bx_up_ne (by omega)).trans (bx_up_at))))).trans (by omega), ((bx_up_ne (by omega)).trans ((bx_up_ne (by omega)).trans ((bx_up_ne (by omega)).trans ((bx_up_ne (by omega)).trans ((bx_up_ne (by omega)).trans (bx_up_at)))))).trans (by omega)⟩, ((bx_up_ne (by omega)).trans ((bx_up_ne (by omega)).trans ((bx_up_ne (by omega)).trans ((bx_up_ne (by omega)).trans ((bx_up_ne (by omega)).trans ((bx_up_ne (by omega)).trans (bx_up_at))))))).trans (by omega), bx_up_at⟩, by unfold rxmRDX_0 rxmRDX_1; omega⟩
theorem rxcRDX_2_0 {S0 : Nat → Int → Int} {ws : List Int} {S : Nat → Int → Int} {nb ap : Int} (hP : rxPRDX S0 ws) (hin : bx_same rxL (bx_mdl rxCRDX.2.2.1) S0 S) (I0 : bx_Inv rxL S) (hinv : rxIRDX_2 S0 ws S nb ap) (l8 : 0 ≤ nb) (u8 : nb ≤ 400) (l9 : 0 ≤ ap) (u9 : ap ≤ 1) : (True) ∧ (True) ∧ rxIRDX_3 S0 ws S nb ap 0 ∧ rxmRDX_3 S0 ws S nb ap 0 < rxmRDX_2 S0 ws S nb ap := by
  obtain ⟨hw, hR⟩ := hinv
  exact ⟨trivial, trivial, ⟨hw, hR⟩, by unfold rxmRDX_2 rxmRDX_3; omega⟩
theorem rxcRDX_3_0 {S0 : Nat → Int → Int} {ws : List Int} {S : Nat → Int → Int} {nb ap cl x11 : Int} (hP : rxPRDX S0 ws) (hin : bx_same rxL (bx_mdl rxCRDX.2.2.1) S0 S) (I0 : bx_Inv rxL S) (hinv : rxIRDX_3 S0 ws S nb ap cl) (l8 : 0 ≤ nb) (u8 : nb ≤ 400) (l9 : 0 ≤ ap) (u9 : ap ≤ 1) (l10 : 0 ≤ cl) (u10 : cl ≤ 11) (l11 : 1 ≤ x11) (u11 : x11 ≤ 1) (f0 : x11 ≠ 0) (e0 : S 412 5 = x11) : (True) ∧ (True) ∧ rxIRDX_4 S0 ws S nb ap cl ∧ rxmRDX_4 S0 ws S nb ap cl < rxmRDX_3 S0 ws S nb ap cl := by
  obtain ⟨hw, S1, hR, hA⟩ := hinv
  have e5 : S 412 5 = ap := hA.1.2.2.1.trans hR.2.2.1
  have e6 := e0
  exact ⟨trivial, trivial, ⟨by omega, hw, S1, hR, hA⟩, by unfold rxmRDX_3 rxmRDX_4; omega⟩
theorem rxcRDX_3_1 {S0 : Nat → Int → Int} {ws : List Int} {S : Nat → Int → Int} {nb ap cl x11 : Int} (hP : rxPRDX S0 ws) (hin : bx_same rxL (bx_mdl rxCRDX.2.2.1) S0 S) (I0 : bx_Inv rxL S) (hinv : rxIRDX_3 S0 ws S nb ap cl) (l8 : 0 ≤ nb) (u8 : nb ≤ 400) (l9 : 0 ≤ ap) (u9 : ap ≤ 1) (l10 : 0 ≤ cl) (u10 : cl ≤ 11) (l11 : 0 ≤ x11) (u11 : x11 ≤ 0) (e0 : S 412 5 = x11) : (True) ∧ (True) ∧ rxIRDX_6 S0 ws S nb ap cl ∧ rxmRDX_6 S0 ws S nb ap cl < rxmRDX_3 S0 ws S nb ap cl := by
  obtain ⟨hw, S1, hR, hA⟩ := hinv
  have e5 : S 412 5 = ap := hA.1.2.2.1.trans hR.2.2.1
  have e6 := e0
  exact ⟨trivial, trivial, ⟨by omega, hw, S1, hR, hA⟩, by unfold rxmRDX_3 rxmRDX_6; omega⟩
theorem rxdRDX_3_0 {S0 : Nat → Int → Int} {ws : List Int} {S : Nat → Int → Int} {nb ap cl x11 : Int} (hP : rxPRDX S0 ws) (hin : bx_same rxL (bx_mdl rxCRDX.2.2.1) S0 S) (hin2 : bx_same rxL (bx_mdl rxCRDX.2.2.1) S (bx_up S 412 4 x11)) (I0 : bx_Inv rxL S) (I1 : bx_Inv rxL (bx_up S 412 4 x11)) (hinv : rxIRDX_3 S0 ws S nb ap cl) (l8 : 0 ≤ nb) (u8 : nb ≤ 400) (l9 : 0 ≤ ap) (u9 : ap ≤ 1) (l10 : 12 ≤ cl) (u10 : cl ≤ 12) (l11 : 0 ≤ x11) (u11 : x11 ≤ 400) (e1 : S 412 2 = x11) : (True) ∧ rxPSRDX S0 ws (bx_up S 412 4 x11) (some 0) := by
  obtain ⟨hw, S1, hR, hA⟩ := hinv
  refine ⟨trivial, nb, ap, hw, rzRi_ok hR (rzAt_no hA ?_ (bx_up_at.trans e1.symm))⟩
  rw [show (12 - cl).toNat = 0 by omega]
  rfl
theorem rxcRDX_5_0 {S0 : Nat → Int → Int} {ws : List Int} {S : Nat → Int → Int} {nb ap cl res : Int} (hP : rxPRDX S0 ws) (hin : bx_same rxL (bx_mdl rxCRDX.2.2.1) S0 S) (I0 : bx_Inv rxL S) (hinv : rxIRDX_5 S0 ws S nb ap cl res) (l8 : 0 ≤ nb) (u8 : nb ≤ 400) (l9 : 0 ≤ ap) (u9 : ap ≤ 1) (l10 : 0 ≤ cl) (u10 : cl ≤ 11) (l11 : 1 ≤ res) (u11 : res ≤ 1) (f0 : res ≠ 0) : (True) ∧ (True) ∧ rxIRDX_8 S0 ws S nb ap cl ∧ rxmRDX_8 S0 ws S nb ap cl < rxmRDX_5 S0 ws S nb ap cl res := by
  obtain ⟨hw, hc⟩ := hinv
  rcases hc with ⟨z, hR⟩ | ⟨z, hR⟩
  · exact ⟨trivial, trivial, ⟨hw, hR⟩, by unfold rxmRDX_5 rxmRDX_8; omega⟩
  · exfalso
    omega
theorem rxdRDX_5_0 {S0 : Nat → Int → Int} {ws : List Int} {S : Nat → Int → Int} {nb ap cl res : Int} (hP : rxPRDX S0 ws) (hin : bx_same rxL (bx_mdl rxCRDX.2.2.1) S0 S) (hin2 : bx_same rxL (bx_mdl rxCRDX.2.2.1) S S) (I0 : bx_Inv rxL S) (I1 : bx_Inv rxL S) (hinv : rxIRDX_5 S0 ws S nb ap cl res) (l8 : 0 ≤ nb) (u8 : nb ≤ 400) (l9 : 0 ≤ ap) (u9 : ap ≤ 1) (l10 : 0 ≤ cl) (u10 : cl ≤ 11) (l11 : 0 ≤ res) (u11 : res ≤ 0) : (True) ∧ rxPSRDX S0 ws S (some 0) := by
  obtain ⟨hw, hc⟩ := hinv
  rcases hc with ⟨z, hR⟩ | ⟨z, hR⟩
  · exfalso
    omega
  · exact ⟨trivial, nb, ap, hw, hR⟩
theorem rxcRDX_7_0 {S0 : Nat → Int → Int} {ws : List Int} {S : Nat → Int → Int} {nb ap cl res : Int} (hP : rxPRDX S0 ws) (hin : bx_same rxL (bx_mdl rxCRDX.2.2.1) S0 S) (I0 : bx_Inv rxL S) (hinv : rxIRDX_7 S0 ws S nb ap cl res) (l8 : 0 ≤ nb) (u8 : nb ≤ 400) (l9 : 0 ≤ ap) (u9 : ap ≤ 1) (l10 : 0 ≤ cl) (u10 : cl ≤ 11) (l11 : 1 ≤ res) (u11 : res ≤ 1) (f0 : res ≠ 0) : (True) ∧ (True) ∧ rxIRDX_8 S0 ws S nb ap cl ∧ rxmRDX_8 S0 ws S nb ap cl < rxmRDX_7 S0 ws S nb ap cl res := by
  obtain ⟨hw, hc⟩ := hinv
  rcases hc with ⟨z, hR⟩ | ⟨z, hR⟩
  · exact ⟨trivial, trivial, ⟨hw, hR⟩, by unfold rxmRDX_7 rxmRDX_8; omega⟩
  · exfalso
    omega
theorem rxdRDX_7_0 {S0 : Nat → Int → Int} {ws : List Int} {S : Nat → Int → Int} {nb ap cl res : Int} (hP : rxPRDX S0 ws) (hin : bx_same rxL (bx_mdl rxCRDX.2.2.1) S0 S) (hin2 : bx_same rxL (bx_mdl rxCRDX.2.2.1) S S) (I0 : bx_Inv rxL S) (I1 : bx_Inv rxL S) (hinv : rxIRDX_7 S0 ws S nb ap cl res) (l8 : 0 ≤ nb) (u8 : nb ≤ 400) (l9 : 0 ≤ ap) (u9 : ap ≤ 1) (l10 : 0 ≤ cl) (u10 : cl ≤ 11) (l11 : 0 ≤ res) (u11 : res ≤ 0) : (True) ∧ rxPSRDX S0 ws S (some 0) := by
  obtain ⟨hw, hc⟩ := hinv
  rcases hc with ⟨z, hR⟩ | ⟨z, hR⟩
  · exfalso
    omega
  · exact ⟨trivial, nb, ap, hw, hR⟩
theorem rxcRDX_9_0 {S0 : Nat → Int → Int} {ws : List Int} {S : Nat → Int → Int} {nb ap cl res x12 x13 x14 : Int} (hP : rxPRDX S0 ws) (hin : bx_same rxL (bx_mdl rxCRDX.2.2.1) S0 S) (I0 : bx_Inv rxL S) (hinv : rxIRDX_9 S0 ws S nb ap cl res) (l8 : 0 ≤ nb) (u8 : nb ≤ 400) (l9 : 0 ≤ ap) (u9 : ap ≤ 1) (l10 : 0 ≤ cl) (u10 : cl ≤ 11) (l11 : 1 ≤ res) (u11 : res ≤ 1) (l12 : 0 ≤ x12) (u12 : x12 ≤ 399) (l13 : 1 ≤ x13) (u13 : x13 ≤ 400) (l14 : 59 ≤ x14) (u14 : x14 ≤ 59) (f0 : x12 < x13) (f1 : x12 < x13) (f2 : res ≠ 0) (e2 : S 412 2 = x12) (e1 : S 412 1 = x13) (e0 : S 411 x12 = x14) : (True) ∧ (True) ∧ rxIRDX_10 S0 ws S nb ap cl ∧ rxmRDX_10 S0 ws S nb ap cl < rxmRDX_9 S0 ws S nb ap cl res := by
  obtain ⟨hw, hc⟩ := hinv
  rcases hc with ⟨z, S1, hR, hA⟩ | ⟨z, hR⟩
  · have a1 : S 412 1 = nb := hA.1.2.1.trans hR.2.1
    have eT : rzCut (S 411) = rzCut (S0 411) := hA.1.1.trans hR.1
    refine ⟨trivial, trivial, ⟨hw, S1, hR, hA, ?_⟩, by unfold rxmRDX_9 rxmRDX_10; omega⟩
    rw [← eT]
    refine decide_eq_true ⟨by omega, ?_⟩
    rw [show S 412 2 = x12 from e2]
    exact rzCut_at (e0.trans (by omega)) (by omega) (by omega)
  · exfalso
    omega
theorem rxdRDX_9_0 {S0 : Nat → Int → Int} {ws : List Int} {S : Nat → Int → Int} {nb ap cl res : Int} (hP : rxPRDX S0 ws) (hin : bx_same rxL (bx_mdl rxCRDX.2.2.1) S0 S) (hin2 : bx_same rxL (bx_mdl rxCRDX.2.2.1) S S) (I0 : bx_Inv rxL S) (I1 : bx_Inv rxL S) (hinv : rxIRDX_9 S0 ws S nb ap cl res) (l8 : 0 ≤ nb) (u8 : nb ≤ 400) (l9 : 0 ≤ ap) (u9 : ap ≤ 1) (l10 : 0 ≤ cl) (u10 : cl ≤ 11) (l11 : 0 ≤ res) (u11 : res ≤ 0) : (True) ∧ rxPSRDX S0 ws S (some 0) := by
  obtain ⟨hw, hc⟩ := hinv
  rcases hc with ⟨z, hR⟩ | ⟨z, hR⟩
  · exfalso
    omega
  · exact ⟨trivial, nb, ap, hw, hR⟩
theorem rxdRDX_9_1 {S0 : Nat → Int → Int} {ws : List Int} {S : Nat → Int → Int} {nb ap cl res x12 x13 : Int} (hP : rxPRDX S0 ws) (hin : bx_same rxL (bx_mdl rxCRDX.2.2.1) S0 S) (hin2 : bx_same rxL (bx_mdl rxCRDX.2.2.1) S S) (I0 : bx_Inv rxL S) (I1 : bx_Inv rxL S) (hinv : rxIRDX_9 S0 ws S nb ap cl res) (l8 : 0 ≤ nb) (u8 : nb ≤ 400) (l9 : 0 ≤ ap) (u9 : ap ≤ 1) (l10 : 0 ≤ cl) (u10 : cl ≤ 11) (l11 : 1 ≤ res) (u11 : res ≤ 1) (l12 : 0 ≤ x12) (u12 : x12 ≤ 400) (l13 : 0 ≤ x13) (u13 : x13 ≤ 400) (f0 : x13 ≤ x12) (f1 : res ≠ 0) (e1 : S 412 2 = x12) (e0 : S 412 1 = x13) : (True) ∧ rxPSRDX S0 ws S (some 1) := by
  obtain ⟨hw, hc⟩ := hinv
  rcases hc with ⟨z, S1, hR, hA⟩ | ⟨z, hR⟩
  · have a1 : S 412 1 = nb := hA.1.2.1.trans hR.2.1
    have eT : rzCut (S 411) = rzCut (S0 411) := hA.1.1.trans hR.1
    have a2 : S 412 2 = x12 := e1
    have a3 : S 412 1 = x13 := e0
    exact ⟨trivial, nb, ap, hw, rzRi_ok hR (rzAt_yes hA (rzAlt_n (decide_eq_false fun g => by have := g.1; omega) (rzAlt_y (decide_eq_true (by omega)) rfl)))⟩
  · exfalso
    omega
theorem rxdRDX_9_2 {S0 : Nat → Int → Int} {ws : List Int} {S : Nat → Int → Int} {nb ap cl res x12 x13 x14 : Int} (hP : rxPRDX S0 ws) (hin : bx_same rxL (bx_mdl rxCRDX.2.2.1) S0 S) (hin2 : bx_same rxL (bx_mdl rxCRDX.2.2.1) S (bx_up S 412 4 x12)) (I0 : bx_Inv rxL S) (I1 : bx_Inv rxL (bx_up S 412 4 x12)) (hinv : rxIRDX_9 S0 ws S nb ap cl res) (l8 : 0 ≤ nb) (u8 : nb ≤ 400) (l9 : 0 ≤ ap) (u9 : ap ≤ 1) (l10 : 0 ≤ cl) (u10 : cl ≤ 11) (l11 : 1 ≤ res) (u11 : res ≤ 1) (l12 : 0 ≤ x12) (u12 : x12 ≤ 399) (l13 : 1 ≤ x13) (u13 : x13 ≤ 400) (l14 : 0 ≤ x14) (u14 : x14 ≤ 255) (f0 : x14 ≠ 59) (f1 : x12 < x13) (f2 : x12 < x13) (f3 : res ≠ 0) (e3 : S 412 2 = x12) (e2 : S 412 1 = x13) (e1 : S 411 x12 = x14) : (True) ∧ rxPSRDX S0 ws (bx_up S 412 4 x12) (some 0) := by
  obtain ⟨hw, hc⟩ := hinv
  rcases hc with ⟨z, S1, hR, hA⟩ | ⟨z, hR⟩
  · have a1 : S 412 1 = nb := hA.1.2.1.trans hR.2.1
    have eT : rzCut (S 411) = rzCut (S0 411) := hA.1.1.trans hR.1
    have a2 : S 412 2 = x12 := e3
    have a3 : S 412 1 = x13 := e2
    have a4 : rzCut (S0 411) (S 412 2) = x14 := by
      rw [a2, ← eT]
      exact rzCut_at (e1) (by omega) (by omega)
    exact ⟨trivial, nb, ap, hw, rzRi_ok hR (rzAt_no hA (rzAlt_n (decide_eq_false fun g => by have := g.2; omega) (rzAlt_n (decide_eq_false (by omega)) rfl)) (bx_up_at.trans e3.symm))⟩
  · exfalso
    omega
theorem rxcRDX_11_0 {S0 : Nat → Int → Int} {ws : List Int} {S : Nat → Int → Int} {nb ap cl : Int} (hP : rxPRDX S0 ws) (hin : bx_same rxL (bx_mdl rxCRDX.2.2.1) S0 S) (I0 : bx_Inv rxL S) (hinv : rxIRDX_11 S0 ws S nb ap cl) (l8 : 0 ≤ nb) (u8 : nb ≤ 400) (l9 : 0 ≤ ap) (u9 : ap ≤ 1) (l10 : 0 ≤ cl) (u10 : cl ≤ 11) : (True) ∧ (True) ∧ rxIRDX_3 S0 ws S nb ap (cl + 1) ∧ rxmRDX_3 S0 ws S nb ap (cl + 1) < rxmRDX_11 S0 ws S nb ap cl := by
  obtain ⟨hw, hR⟩ := hinv
  refine ⟨trivial, trivial, ⟨hw, ?_⟩, by unfold rxmRDX_11 rxmRDX_3; omega⟩
  rw [show (12 - (cl + 1)).toNat = (11 - cl).toNat by omega]
  exact hR
noncomputable def rxPADL (S0 : Nat → Int → Int) (ws : List Int) : Prop := True
noncomputable def rxPSADL (S0 : Nat → Int → Int) (ws : List Int) (S : Nat → Int → Int) (w : Option Int) : Prop := ws = [1, 427] ∧ ((6 ≤ S0 1 14 ∧ w = some (-1)) ∨ (S0 1 14 < 6 ∧ w = some (S0 1 14) ∧ S 1 14 = S0 1 14 + 1 ∧ S 138 14 = S0 138 14 ∧ S 274 14 = S0 274 14))
noncomputable def rxILWD_0 (S0 : Nat → Int → Int) (ws : List Int) (S : Nat → Int → Int) : Prop := S = S0 ∧ ws = [0]
noncomputable def rxmLWD_0 (S0 : Nat → Int → Int) (ws : List Int) (S : Nat → Int → Int) : Nat := 100
noncomputable def rxILWD_1 (S0 : Nat → Int → Int) (ws : List Int) (S : Nat → Int → Int) : Prop := S = bx_up S0 0 4 0 ∧ 6 ≤ S0 1 14 ∧ ws = [0]
noncomputable def rxmLWD_1 (S0 : Nat → Int → Int) (ws : List Int) (S : Nat → Int → Int) : Nat := 90
noncomputable def rxILWD_2 (S0 : Nat → Int → Int) (ws : List Int) (S : Nat → Int → Int) (res : Int) : Prop := res = -5 ∧ 6 ≤ S0 1 14 ∧ ws = [0] ∧ S 0 4 = 0 ∧ S 412 4 = S0 412 4 ∧ S 1 14 = S0 1 14 ∧ S 138 14 = S0 138 14 ∧ S 274 14 = S0 274 14
noncomputable def rxmLWD_2 (S0 : Nat → Int → Int) (ws : List Int) (S : Nat → Int → Int) (res : Int) : Nat := 80
noncomputable def rxILWD_3 (S0 : Nat → Int → Int) (ws : List Int) (S : Nat → Int → Int) (nb : Int) : Prop := S = bx_up S0 0 4 0 ∧ S0 1 14 < 6 ∧ nb = S0 0 4 ∧ ws = [0]
noncomputable def rxmLWD_3 (S0 : Nat → Int → Int) (ws : List Int) (S : Nat → Int → Int) (nb : Int) : Nat := 70
noncomputable def rxILWD_4 (S0 : Nat → Int → Int) (ws : List Int) (S : Nat → Int → Int) (nb res : Int) : Prop := S0 1 14 < 6 ∧ ws = [0] ∧ S 0 4 = 0 ∧ S 1 14 = S0 1 14 ∧ S 138 14 = S0 138 14 ∧ S 274 14 = S0 274 14 ∧ ∃ r : rzR, rzText (decide ((0 : Int) = 1)) (rzCut (S0 411)) (S0 0 4) r ∧ ((res = 1 ∧ r.1 = true ∧ S 412 4 = -1) ∨ (res = 0 ∧ r.1 = false ∧ S 412 4 = r.2.1))
noncomputable def rxmLWD_4 (S0 : Nat → Int → Int) (ws : List Int) (S : Nat → Int → Int) (nb res : Int) : Nat := 60
noncomputable def rxILWD_5 (S0 : Nat → Int → Int) (ws : List Int) (S : Nat → Int → Int) : Prop := S0 1 14 < 6 ∧ ws = [0] ∧ S 0 4 = 0 ∧ S 1 14 = S0 1 14 ∧ S 138 14 = S0 138 14 ∧ S 274 14 = S0 274 14 ∧ ∃ r : rzR, rzText (decide ((0 : Int) = 1)) (rzCut (S0 411)) (S0 0 4) r ∧ r.1 = false ∧ S 412 4 = r.2.1
noncomputable def rxmLWD_5 (S0 : Nat → Int → Int) (ws : List Int) (S : Nat → Int → Int) : Nat := 50
noncomputable def rxILWD_6 (S0 : Nat → Int → Int) (ws : List Int) (S : Nat → Int → Int) (res : Int) : Prop := res = -6 ∧ S0 1 14 < 6 ∧ ws = [0] ∧ S 0 4 = 0 ∧ S 1 14 = S0 1 14 ∧ S 138 14 = S0 138 14 ∧ S 274 14 = S0 274 14 ∧ ∃ r : rzR, rzText (decide ((0 : Int) = 1)) (rzCut (S0 411)) (S0 0 4) r ∧ r.1 = false ∧ S 412 4 = r.2.1
noncomputable def rxmLWD_6 (S0 : Nat → Int → Int) (ws : List Int) (S : Nat → Int → Int) (res : Int) : Nat := 40
noncomputable def rxILWD_7 (S0 : Nat → Int → Int) (ws : List Int) (S : Nat → Int → Int) : Prop := S0 1 14 < 6 ∧ ws = [0] ∧ S 0 4 = 0 ∧ S 1 14 = S0 1 14 ∧ S 138 14 = S0 138 14 ∧ S 274 14 = S0 274 14 ∧ ∃ r : rzR, rzText (decide ((0 : Int) = 1)) (rzCut (S0 411)) (S0 0 4) r ∧ r.1 = true ∧ S 412 4 = -1
noncomputable def rxmLWD_7 (S0 : Nat → Int → Int) (ws : List Int) (S : Nat → Int → Int) : Nat := 50
noncomputable def rxILWD_8 (S0 : Nat → Int → Int) (ws : List Int) (S : Nat → Int → Int) (res : Int) : Prop := res = S0 1 14 ∧ S0 1 14 < 6 ∧ ws = [0] ∧ S 0 4 = 0 ∧ S 1 14 = S0 1 14 + 1 ∧ S 138 14 = S0 138 14 ∧ S 274 14 = S0 274 14 ∧ ∃ r : rzR, rzText (decide ((0 : Int) = 1)) (rzCut (S0 411)) (S0 0 4) r ∧ r.1 = true ∧ S 412 4 = -1
noncomputable def rxmLWD_8 (S0 : Nat → Int → Int) (ws : List Int) (S : Nat → Int → Int) (res : Int) : Nat := 40
noncomputable def rxPLWD (S0 : Nat → Int → Int) (ws : List Int) : Prop := True
noncomputable def rxPSLWD (S0 : Nat → Int → Int) (ws : List Int) (S : Nat → Int → Int) (w : Option Int) : Prop := ws = [0] ∧ ((6 ≤ S0 1 14 ∧ w = some (-5) ∧ S 0 4 = 0 ∧ S 412 4 = S0 412 4 ∧ S 1 14 = S0 1 14 ∧ S 138 14 = S0 138 14 ∧ S 274 14 = S0 274 14) ∨ (S0 1 14 < 6 ∧ S 0 4 = 0 ∧ ∃ r : rzR, rzText (decide ((0 : Int) = 1)) (rzCut (S0 411)) (S0 0 4) r ∧ ((r.1 = true ∧ w = some (S0 1 14) ∧ S 412 4 = -1 ∧ S 1 14 = S0 1 14 + 1 ∧ S 138 14 = S0 138 14 ∧ S 274 14 = S0 274 14) ∨ (r.1 = false ∧ w = some (-6) ∧ S 412 4 = r.2.1 ∧ S 1 14 = S0 1 14 ∧ S 138 14 = S0 138 14 ∧ S 274 14 = S0 274 14))))
theorem rxkLWD_1 {S0 : Nat → Int → Int} {ws : List Int} {S : Nat → Int → Int} (hP : rxPLWD S0 ws) (hin : bx_same rxL (bx_mdl rxC241.2.2.1) S0 S) (I0 : bx_Inv rxL S) (hinv : rxILWD_1 S0 ws S)  : rxP110 S [0, (-5)] ∧ ∀ (S_p : Nat → Int → Int) (res : Int), (-6) ≤ res → res ≤ (-1) → rxPS110 S [0, (-5)] S_p (some res) → bx_Inv rxL S_p → bx_same rxL (bx_mdl rxC110.2.2.1) S S_p → rxILWD_2 S0 ws S_p res ∧ rxmLWD_2 S0 ws S_p res < rxmLWD_1 S0 ws S := by
  obtain ⟨hS, h6, hw⟩ := hinv
  subst hS
  refine ⟨trivial, fun S_p res _ _ hq _ hsm => ⟨⟨?_, h6, hw, (hsm 0 4 (by decide) (by decide) (by decide +kernel)).trans bx_up_at, (hsm 412 4 (by decide) (by decide) (by decide +kernel)).trans (bx_up_ne (by omega)), (hsm 1 14 (by decide) (by decide) (by decide +kernel)).trans (bx_up_ne (by omega)), (hsm 138 14 (by decide) (by decide) (by decide +kernel)).trans (bx_up_ne (by omega)), (hsm 274 14 (by decide) (by decide) (by decide +kernel)).trans (bx_up_ne (by omega))⟩, by unfold rxmLWD_1 rxmLWD_2; omega⟩⟩
  obtain ⟨c, hc, hr⟩ := hq
  simp only [List.cons.injEq, and_true, true_and] at hc
  simp only [Option.some.injEq] at hr
  omega
theorem rxkLWD_3 {S0 : Nat → Int → Int} {ws : List Int} {S : Nat → Int → Int} {nb : Int} (hP : rxPLWD S0 ws) (hin : bx_same rxL (bx_mdl rxC241.2.2.1) S0 S) (I0 : bx_Inv rxL S) (hinv : rxILWD_3 S0 ws S nb) (l8 : 0 ≤ nb) (u8 : nb ≤ 400) : rxPRDX S [412, 411, nb, 0, 427] ∧ ∀ (S_p : Nat → Int → Int) (res : Int), 0 ≤ res → res ≤ 1 → rxPSRDX S [412, 411, nb, 0, 427] S_p (some res) → bx_Inv rxL S_p → bx_same rxL (bx_mdl rxCRDX.2.2.1) S S_p → rxILWD_4 S0 ws S_p nb res ∧ rxmLWD_4 S0 ws S_p nb res < rxmLWD_3 S0 ws S nb := by
  obtain ⟨hS, h6, hnb, hw⟩ := hinv
  subst hS
  refine ⟨trivial, fun S_p res _ _ hq _ hsm => ⟨?_, by unfold rxmLWD_3 rxmLWD_4; omega⟩⟩
  obtain ⟨nb2, ap2, hw2, r, r1, r2⟩ := hq
  have e1 : nb = nb2 := Option.some.inj (congrArg (fun l : List Int => l[2]?) hw2)
  have e2 : (0 : Int) = ap2 := Option.some.inj (congrArg (fun l : List Int => l[3]?) hw2)
  subst e2
  rw [← e1, hnb] at r1
  refine ⟨h6, hw, (hsm 0 4 (by decide) (by decide) (by decide +kernel)).trans bx_up_at, (hsm 1 14 (by decide) (by decide) (by decide +kernel)).trans (bx_up_ne (by omega)), (hsm 138 14 (by decide) (by decide) (by decide +kernel)).trans (bx_up_ne (by omega)), (hsm 274 14 (by decide) (by decide) (by decide +kernel)).trans (bx_up_ne (by omega)), ?_⟩
  · have eT : bx_up S0 0 4 0 411 = S0 411 := funext fun _ => bx_up_ne (by omega)
    rw [eT] at r1
    rcases r2 with ⟨a, b, c⟩ | ⟨a, b, c⟩
    · exact ⟨r, r1, Or.inl ⟨Option.some.inj a, b, c⟩⟩
    · exact ⟨r, r1, Or.inr ⟨Option.some.inj a, b, c⟩⟩
theorem rxkLWD_5 {S0 : Nat → Int → Int} {ws : List Int} {S : Nat → Int → Int} (hP : rxPLWD S0 ws) (hin : bx_same rxL (bx_mdl rxC241.2.2.1) S0 S) (I0 : bx_Inv rxL S) (hinv : rxILWD_5 S0 ws S)  : rxP110 S [0, (-6)] ∧ ∀ (S_p : Nat → Int → Int) (res : Int), (-6) ≤ res → res ≤ (-1) → rxPS110 S [0, (-6)] S_p (some res) → bx_Inv rxL S_p → bx_same rxL (bx_mdl rxC110.2.2.1) S S_p → rxILWD_6 S0 ws S_p res ∧ rxmLWD_6 S0 ws S_p res < rxmLWD_5 S0 ws S := by
  obtain ⟨h6, hw, h4, h0, h1, h2, r, r1, r2, r3⟩ := hinv
  refine ⟨trivial, fun S_p res _ _ hq _ hsm => ⟨⟨?_, h6, hw, (hsm 0 4 (by decide) (by decide) (by decide +kernel)).trans h4, (hsm 1 14 (by decide) (by decide) (by decide +kernel)).trans h0, (hsm 138 14 (by decide) (by decide) (by decide +kernel)).trans h1, (hsm 274 14 (by decide) (by decide) (by decide +kernel)).trans h2, r, r1, r2, (hsm 412 4 (by decide) (by decide) (by decide +kernel)).trans r3⟩, by unfold rxmLWD_5 rxmLWD_6; omega⟩⟩
  obtain ⟨c, hc, hr⟩ := hq
  simp only [List.cons.injEq, and_true, true_and] at hc
  simp only [Option.some.injEq] at hr
  omega
theorem rxkLWD_7 {S0 : Nat → Int → Int} {ws : List Int} {S : Nat → Int → Int} (hP : rxPLWD S0 ws) (hin : bx_same rxL (bx_mdl rxC241.2.2.1) S0 S) (I0 : bx_Inv rxL S) (hinv : rxILWD_7 S0 ws S)  : rxPADL S [1, 427] ∧ ∀ (S_p : Nat → Int → Int) (res : Int), (-1) ≤ res → res ≤ 5 → rxPSADL S [1, 427] S_p (some res) → bx_Inv rxL S_p → bx_same rxL (bx_mdl rxC121.2.2.1) S S_p → rxILWD_8 S0 ws S_p res ∧ rxmLWD_8 S0 ws S_p res < rxmLWD_7 S0 ws S := by
  obtain ⟨h6, hw, h4, h0, h1, h2, r, r1, r2, r3⟩ := hinv
  refine ⟨trivial, fun S_p res _ _ hq _ hsm => ⟨?_, by unfold rxmLWD_7 rxmLWD_8; omega⟩⟩
  obtain ⟨-, hc⟩ := hq
  rcases hc with ⟨c1, c2⟩ | ⟨c1, c2, c3, c4, c5⟩
  · omega
  · have c2 := Option.some.inj c2
    exact ⟨by omega, h6, hw, (hsm 0 4 (by decide) (by decide) (by decide +kernel)).trans h4, by omega, by omega, by omega, r, r1, r2, (hsm 412 4 (by decide) (by decide) (by decide +kernel)).trans r3⟩
theorem rxcLWD_0_0 {S0 : Nat → Int → Int} {ws : List Int} {S : Nat → Int → Int} {x8 x9 : Int} (hP : rxPLWD S0 ws) (hin : bx_same rxL (bx_mdl rxC241.2.2.1) S0 S) (I0 : bx_Inv rxL S) (hinv : rxILWD_0 S0 ws S) (l8 : 0 ≤ x8) (u8 : x8 ≤ 400) (l9 : 6 ≤ x9) (u9 : x9 ≤ 6) (e2 : S 0 4 = x8) (e0 : (bx_up S 0 4 0) 1 14 = x9) : (True) ∧ (True) ∧ rxILWD_1 S0 ws (bx_up S 0 4 0) ∧ rxmLWD_1 S0 ws (bx_up S 0 4 0) < rxmLWD_0 S0 ws S := by
  obtain ⟨rfl, hw⟩ := hinv
  have q14 : S 1 14 = x9 := ((bx_up_ne (by omega))).symm.trans e0
  exact ⟨trivial, trivial, ⟨rfl, by omega, hw⟩, by unfold rxmLWD_0 rxmLWD_1; omega⟩
theorem rxcLWD_0_1 {S0 : Nat → Int → Int} {ws : List Int} {S : Nat → Int → Int} {x8 x9 : Int} (hP : rxPLWD S0 ws) (hin : bx_same rxL (bx_mdl rxC241.2.2.1) S0 S) (I0 : bx_Inv rxL S) (hinv : rxILWD_0 S0 ws S) (l8 : 0 ≤ x8) (u8 : x8 ≤ 400) (l9 : 0 ≤ x9) (u9 : x9 ≤ 5) (e2 : S 0 4 = x8) (e0 : (bx_up S 0 4 0) 1 14 = x9) : (True) ∧ (True) ∧ rxILWD_3 S0 ws (bx_up S 0 4 0) x8 ∧ rxmLWD_3 S0 ws (bx_up S 0 4 0) x8 < rxmLWD_0 S0 ws S := by
  obtain ⟨rfl, hw⟩ := hinv
  have q14 : S 1 14 = x9 := ((bx_up_ne (by omega))).symm.trans e0
  exact ⟨trivial, trivial, ⟨rfl, by omega, e2.symm, hw⟩, by unfold rxmLWD_0 rxmLWD_3; omega⟩
theorem rxdLWD_2_0 {S0 : Nat → Int → Int} {ws : List Int} {S : Nat → Int → Int} {res : Int} (hP : rxPLWD S0 ws) (hin : bx_same rxL (bx_mdl rxC241.2.2.1) S0 S) (hin2 : bx_same rxL (bx_mdl rxC241.2.2.1) S S) (I0 : bx_Inv rxL S) (I1 : bx_Inv rxL S) (hinv : rxILWD_2 S0 ws S res) (l8 : (-6) ≤ res) (u8 : res ≤ (-1)) : (True) ∧ rxPSLWD S0 ws S (some res) := by
  obtain ⟨hr, h6, hw, h4, h5, h0, h1, h2⟩ := hinv
  exact ⟨trivial, hw, Or.inl ⟨h6, congrArg some hr, h4, h5, h0, h1, h2⟩⟩
theorem rxcLWD_4_0 {S0 : Nat → Int → Int} {ws : List Int} {S : Nat → Int → Int} {nb res : Int} (hP : rxPLWD S0 ws) (hin : bx_same rxL (bx_mdl rxC241.2.2.1) S0 S) (I0 : bx_Inv rxL S) (hinv : rxILWD_4 S0 ws S nb res) (l8 : 0 ≤ nb) (u8 : nb ≤ 400) (l9 : 1 ≤ res) (u9 : res ≤ 1) (f0 : res ≠ 0) : (True) ∧ (True) ∧ rxILWD_7 S0 ws S ∧ rxmLWD_7 S0 ws S < rxmLWD_4 S0 ws S nb res := by
  obtain ⟨h6, hw, h4, h0, h1, h2, r, r1, r2⟩ := hinv
  rcases r2 with ⟨a, b, c⟩ | ⟨a, b, c⟩
  · exact ⟨trivial, trivial, ⟨h6, hw, h4, h0, h1, h2, r, r1, b, c⟩, by unfold rxmLWD_4 rxmLWD_7; omega⟩
  · omega
theorem rxcLWD_4_1 {S0 : Nat → Int → Int} {ws : List Int} {S : Nat → Int → Int} {nb res : Int} (hP : rxPLWD S0 ws) (hin : bx_same rxL (bx_mdl rxC241.2.2.1) S0 S) (I0 : bx_Inv rxL S) (hinv : rxILWD_4 S0 ws S nb res) (l8 : 0 ≤ nb) (u8 : nb ≤ 400) (l9 : 0 ≤ res) (u9 : res ≤ 0) : (True) ∧ (True) ∧ rxILWD_5 S0 ws S ∧ rxmLWD_5 S0 ws S < rxmLWD_4 S0 ws S nb res := by
  obtain ⟨h6, hw, h4, h0, h1, h2, r, r1, r2⟩ := hinv
  rcases r2 with ⟨a, b, c⟩ | ⟨a, b, c⟩
  · omega
  · exact ⟨trivial, trivial, ⟨h6, hw, h4, h0, h1, h2, r, r1, b, c⟩, by unfold rxmLWD_4 rxmLWD_5; omega⟩
theorem rxdLWD_6_0 {S0 : Nat → Int → Int} {ws : List Int} {S : Nat → Int → Int} {res : Int} (hP : rxPLWD S0 ws) (hin : bx_same rxL (bx_mdl rxC241.2.2.1) S0 S) (hin2 : bx_same rxL (bx_mdl rxC241.2.2.1) S S) (I0 : bx_Inv rxL S) (I1 : bx_Inv rxL S) (hinv : rxILWD_6 S0 ws S res) (l8 : (-6) ≤ res) (u8 : res ≤ (-1)) : (True) ∧ rxPSLWD S0 ws S (some res) := by
  obtain ⟨hr, h6, hw, h4, h0, h1, h2, r, r1, r2, r3⟩ := hinv
  exact ⟨trivial, hw, Or.inr ⟨h6, h4, r, r1, Or.inr ⟨r2, congrArg some hr, r3, h0, h1, h2⟩⟩⟩
theorem rxdLWD_8_0 {S0 : Nat → Int → Int} {ws : List Int} {S : Nat → Int → Int} {res : Int} (hP : rxPLWD S0 ws) (hin : bx_same rxL (bx_mdl rxC241.2.2.1) S0 S) (hin2 : bx_same rxL (bx_mdl rxC241.2.2.1) S (bx_up S 0 8 0)) (I0 : bx_Inv rxL S) (I1 : bx_Inv rxL (bx_up S 0 8 0)) (hinv : rxILWD_8 S0 ws S res) (l8 : (-1) ≤ res) (u8 : res ≤ 5) : (True) ∧ rxPSLWD S0 ws (bx_up S 0 8 0) (some res) := by
  obtain ⟨hr, h6, hw, h4, h0, h1, h2, r, r1, r2, r3⟩ := hinv
  exact ⟨trivial, hw, Or.inr ⟨h6, ((bx_up_ne (by omega))).trans h4, r, r1, Or.inl ⟨r2, congrArg some hr, ((bx_up_ne (by omega))).trans r3, ((bx_up_ne (by omega))).trans h0, ((bx_up_ne (by omega))).trans h1, ((bx_up_ne (by omega))).trans h2⟩⟩⟩
noncomputable def rxPSPLY (S0 : Nat → Int → Int) (ws : List Int) (S : Nat → Int → Int) (w : Option Int) : Prop := ∃ pa : Int, ws = [0, pa] ∧ (((pa < 0 ∨ S0 1 0 ≤ pa) ∧ S 0 4 = S0 0 4 ∧ S 412 4 = S0 412 4) ∨ (0 ≤ pa ∧ pa < S0 1 0 ∧ S 0 4 = 0 ∧ ∃ r : rzR, rzText (decide ((1 : Int) = 1)) (rzCut (S0 411)) (S0 0 4) r ∧ ((r.1 = true ∧ S 412 4 = -1) ∨ (r.1 = false ∧ S 412 4 = r.2.1))))