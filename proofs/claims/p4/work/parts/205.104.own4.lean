/-! CLAUSES AND TEXTS: heads of clauses; what holds between them -/
theorem rzThen_alt {c : Bool} {A B : rzR → Prop} {b : Int → Int → rzR → Prop} {r : rzR} (h : rzThen (fun r => rzAlt c (A r) (B r)) b r) : rzAlt c (rzThen A b r) (rzThen B b r) := by
  obtain ⟨r1, h1, h2⟩ := h
  rcases h1 with ⟨a, b1⟩ | ⟨a, b1⟩
  · exact Or.inl ⟨a, r1, b1, h2⟩
  · exact Or.inr ⟨a, r1, b1, h2⟩
theorem rzThen_f {f lf : Int} {b : Int → Int → rzR → Prop} {r : rzR} (h : rzThen (fun r => r = (false, f, lf)) b r) : r = (false, f, lf) := by
  obtain ⟨r1, h1, h2⟩ := h
  subst h1
  rcases h2 with ⟨a, e⟩ | ⟨a, e⟩
  · exact e
  · cases a
theorem rzThen_t {f lf : Int} {b : Int → Int → rzR → Prop} {r : rzR} (h : rzThen (fun r => r = (true, f, lf)) b r) : b f lf r := by
  obtain ⟨r1, h1, h2⟩ := h
  subst h1
  rcases h2 with ⟨a, e⟩ | ⟨a, e⟩
  · cases a
  · exact e
theorem rzThen_then {a : rzR → Prop} {b c : Int → Int → rzR → Prop} {r : rzR} (h : rzThen (rzThen a b) c r) : rzThen a (fun f lf => rzThen (b f lf) c) r := by
  obtain ⟨r1, ⟨r2, h2, h3⟩, h1⟩ := h
  rcases h3 with ⟨k, e⟩ | ⟨k, e⟩
  · subst e
    rcases h1 with ⟨q, z⟩ | ⟨q, z⟩
    · exact ⟨r1, h2, Or.inl ⟨q, z⟩⟩
    · rw [k] at q
      cases q
  · exact ⟨r2, h2, Or.inr ⟨k, r1, e, h1⟩⟩
theorem rzThen_mono {a : rzR → Prop} {b b_p : Int → Int → rzR → Prop} {r : rzR} (k : ∀ (f lf : Int) (r : rzR), b f lf r → b_p f lf r) (h : rzThen a b r) : rzThen a b_p r := by
  obtain ⟨r1, h1, h2⟩ := h
  rcases h2 with ⟨q, e⟩ | ⟨q, e⟩
  · exact ⟨r1, h1, Or.inl ⟨q, e⟩⟩
  · exact ⟨r1, h1, Or.inr ⟨q, k _ _ _ e⟩⟩
theorem rzAlt_mono {c : Bool} {A B A' B' : Prop} (a : A → A') (b : B → B') (h : rzAlt c A B) : rzAlt c A' B' := by
  rcases h with ⟨q, e⟩ | ⟨q, e⟩
  · exact Or.inl ⟨q, a e⟩
  · exact Or.inr ⟨q, b e⟩
def rzLH (T : Int → Int) (n : Int) (ws : List (List Int)) (f lf : Int) (r : rzR) : Prop := rzAlt (rzIs T n rzW_bars f) (r = (true, rzN T n f, lf)) (rzAlt (rzIs T n rzW_slips f || rzIs T n rzW_hours f) (rzEx T n ws 0 (rzN T n f) lf r) (r = (false, f, lf)))
def rzPG (T : Int → Int) (n : Int) (ws : List (List Int)) (f lf : Int) (r : rzR) : Prop := rzAlt (rzIs T n rzW_go f) (rzEx T n ws 0 (rzN T n f) lf r) (r = (true, f, lf))
def rzPH4 (T : Int → Int) (n : Int) (ws : List (List Int)) (f lf : Int) (r : rzR) : Prop := rzAlt (rzIs T n rzW_hush f) (r = (true, rzN T n f, lf)) (rzAlt (rzIs T n rzW_say f) (rzThen (rzEx T n ws 0 (rzN T n f) lf) (rzPG T n ws) r) (r = (false, f, lf)))
def rzPH3 (T : Int → Int) (n : Int) (ws : List (List Int)) (f lf : Int) (r : rzR) : Prop := rzAlt (rzPlc T n f) (rzPH4 T n ws (rzN T n f) lf r) (r = (false, f, lf))
def rzPH2 (T : Int → Int) (n : Int) (ws : List (List Int)) (f lf : Int) (r : rzR) : Prop := rzAlt (rzIs T n rzW_at f) (rzPH3 T n ws (rzN T n f) lf r) (r = (false, f, lf))
def rzPH1 (T : Int → Int) (n : Int) (ws : List (List Int)) (f lf : Int) (r : rzR) : Prop := rzAlt (rzPlc T n f) (rzPH2 T n ws (rzN T n f) lf r) (r = (false, f, lf))
def rzPH (T : Int → Int) (n : Int) (ws : List (List Int)) (f lf : Int) (r : rzR) : Prop := rzAlt (rzIs T n rzW_in f) (rzPH1 T n ws (rzN T n f) lf r) (r = (false, f, lf))
theorem rzLH_then {T : Int → Int} {n f lf : Int} {r : rzR} (h : rzThen (rzLH T n rzLn_ f lf) (rzIf T n rzLn_) r) : rzLC T n f lf r :=
  rzAlt_mono rzThen_t (fun g => rzAlt_mono (fun q => q) rzThen_f (rzThen_alt g)) (rzThen_alt h)
theorem rzPH_then {T : Int → Int} {n f lf : Int} {r : rzR} (h : rzThen (rzPH T n rzPn f lf) (rzIf T n rzPn) r) : rzPC T n f lf r := by
  refine rzAlt_mono (fun g => rzAlt_mono (fun g => rzAlt_mono (fun g => rzAlt_mono (fun g => ?_) rzThen_f (rzThen_alt g)) rzThen_f (rzThen_alt g)) rzThen_f (rzThen_alt g)) rzThen_f (rzThen_alt h)
  refine rzAlt_mono rzThen_t (fun g => rzAlt_mono (fun g => ?_) rzThen_f (rzThen_alt g)) (rzThen_alt g)
  exact rzThen_mono (fun f lf r k => rzAlt_mono (fun q => q) rzThen_t (rzThen_alt k)) (rzThen_then g)
theorem rzNo_nn {T : Int → Int} {n f : Int} (h : rzDg T n f = true) : 0 ≤ rzNo T n f := by
  have g : f < n ∧ rzG (T f) = true := of_decide_eq_true h
  have g2 := rzG_b g.2
  unfold rzNo
  rw [if_pos h]
  have d := rzNm_dv (T := T) (f := f) (rzT T n f - f).toNat fun i hi => rzG_b (rzT_gs g.1 (rzL_f (by omega)) g.2 (by omega) (by omega))
  by_cases c : rzDv T f (rzT T n f - f).toNat ≤ 1000
  · rw [d.2.1 c]
    exact d.1
  · rw [d.2.2 (by omega)]
    decide
def rzPv (T : Int → Int) (n f : Int) : Int := if rzIs T n rzW_any f = true then 6 else if rzNo T n f ≤ 5 then rzNo T n f else -1
theorem rzPlc_v {T : Int → Int} {n f : Int} : rzPlc T n f = decide (0 ≤ rzPv T n f) := by
  unfold rzPlc rzPv
  cases ha : rzIs T n rzW_any f with
  | true =>
    rw [if_pos rfl]
    rfl
  | false =>
    rw [if_neg (by decide), Bool.false_or]
    cases hd : rzDg T n f with
    | true =>
      have h := rzNo_nn hd
      rw [Bool.true_and]
      by_cases c : rzNo T n f ≤ 5
      · rw [if_pos c, decide_eq_true c, decide_eq_true h]
      · rw [if_neg c, decide_eq_false c]
        rfl
    | false =>
      have h : rzNo T n f = -1 := if_neg (by rw [hd]; decide)
      rw [Bool.false_and, h, if_pos (by decide)]
      rfl
def rzOc (G : rzR → Prop) (S0 S : Nat → Int → Int) (w : Option Int) : Prop := ∃ r : rzR, G r ∧ ((w = some 1 ∧ r.1 = true ∧ rzKp S0 S ∧ rzDt S ∧ S 412 2 = r.2.1 ∧ S 412 7 = r.2.2) ∨ (w = some 0 ∧ r.1 = false ∧ S 412 4 = r.2.1))
def rzAt (G : rzR → Prop) (S0 S : Nat → Int → Int) (C : Int → Int → rzR → Prop) : Prop := rzKp S0 S ∧ rzDt S ∧ ∀ r : rzR, C (S 412 2) (S 412 7) r → G r
theorem rzAt_im {G : rzR → Prop} {S0 S : Nat → Int → Int} {C C' : Int → Int → rzR → Prop} (h : rzAt G S0 S C) (k : ∀ r : rzR, C' (S 412 2) (S 412 7) r → C (S 412 2) (S 412 7) r) : rzAt G S0 S C' := ⟨h.1, h.2.1, fun r q => h.2.2 r (k r q)⟩
theorem rzAt_ad {ms : List (Nat × Nat)} {G : rzR → Prop} {S0 S S_p : Nat → Int → Int} {C C' : Int → Int → rzR → Prop} (h : rzAt G S0 S C) (hs : bx_same rxL (bx_mdl ms) S S_p) (h0 : bx_mdl ms 1032 0 = false) (h1 : bx_mdl ms 7 1 = false) (h5 : bx_mdl ms 7 5 = false) (h4 : bx_mdl ms 7 4 = false) (h7 : bx_mdl ms 7 7 = false) (e2 : S_p 412 2 = rzF (rzCut (S 411)) (S 412 1) (S 412 3)) (e3 : S_p 412 3 = rzT (rzCut (S 411)) (S 412 1) (S_p 412 2)) (k : ∀ r : rzR, C' (rzN (rzCut (S0 411)) (S0 412 1) (S 412 2)) (S 412 7) r → C (S 412 2) (S 412 7) r) : rzAt G S0 S_p C' := by
  have kp := rzKp_of hs h0 h1 h5 h4
  have d := rzDt_ad h.2.1 kp e2 e3
  have f7 : S_p 412 7 = S 412 7 := hs 412 7 (by decide) (by decide) h7
  refine ⟨h.1.tr kp, d.1, fun r q => h.2.2 r (k r ?_)⟩
  rw [d.2, f7, h.1.1, h.1.2.1] at q
  exact q
theorem rzAt_sm {ms : List (Nat × Nat)} {G : rzR → Prop} {S0 S S_p : Nat → Int → Int} {C : Int → Int → rzR → Prop} (h : rzAt G S0 S C) (hs : bx_same rxL (bx_mdl ms) S S_p) (h0 : bx_mdl ms 1032 0 = false) (h1 : bx_mdl ms 7 1 = false) (h5 : bx_mdl ms 7 5 = false) (h4 : bx_mdl ms 7 4 = false) (h2 : bx_mdl ms 7 2 = false) (h3 : bx_mdl ms 7 3 = false) (h7 : bx_mdl ms 7 7 = false) : rzAt G S0 S_p C := by
  have kp := rzKp_of hs h0 h1 h5 h4
  have f7 : S_p 412 7 = S 412 7 := hs 412 7 (by decide) (by decide) h7
  have f2 : S_p 412 2 = S 412 2 := hs 412 2 (by decide) (by decide) h2
  refine ⟨h.1.tr kp, rzDt_kp h.2.1 kp f2 (hs 412 3 (by decide) (by decide) h3), fun r q => h.2.2 r ?_⟩
  rw [f2, f7] at q
  exact q
theorem rzAt_tk {G : rzR → Prop} {S0 S S_p : Nat → Int → Int} {C C' : Int → Int → rzR → Prop} (h : rzAt G S0 S C) (kp : rzKp S S_p) (d : rzDt S_p) (f7 : S_p 412 7 = S 412 7) (e2 : S_p 412 2 = rzN (rzCut (S 411)) (S 412 1) (S 412 2)) (k : ∀ r : rzR, C' (rzN (rzCut (S0 411)) (S0 412 1) (S 412 2)) (S 412 7) r → C (S 412 2) (S 412 7) r) : rzAt G S0 S_p C' := by
  refine ⟨h.1.tr kp, d, fun r q => h.2.2 r (k r ?_)⟩
  rw [e2, f7, h.1.1, h.1.2.1] at q
  exact q
theorem rzAt_no {G : rzR → Prop} {S0 S S_p : Nat → Int → Int} {C : Int → Int → rzR → Prop} (h : rzAt G S0 S C) (k : C (S 412 2) (S 412 7) (false, S 412 2, S 412 7)) (e : S_p 412 4 = S 412 2) : rzOc G S0 S_p (some 0) := ⟨_, h.2.2 _ k, Or.inr ⟨rfl, rfl, e⟩⟩
theorem rzAt_yes {G : rzR → Prop} {S0 S : Nat → Int → Int} {C : Int → Int → rzR → Prop} (h : rzAt G S0 S C) (k : C (S 412 2) (S 412 7) (true, S 412 2, S 412 7)) : rzOc G S0 S (some 1) := ⟨_, h.2.2 _ k, Or.inl ⟨rfl, rfl, h.1, h.2.1, rfl, rfl⟩⟩
theorem rzAt_tail {G a : rzR → Prop} {S0 S S_p : Nat → Int → Int} {w : Option Int} {C : Int → Int → rzR → Prop} (h : rzAt G S0 S C) (k : ∀ r : rzR, a r → C (S 412 2) (S 412 7) r) (q : rzOc a S S_p w) : rzOc G S0 S_p w := by
  obtain ⟨r, q1, q2⟩ := q
  refine ⟨r, h.2.2 r (k r q1), ?_⟩
  rcases q2 with ⟨a1, a2, a3, a4⟩ | q3
  · exact Or.inl ⟨a1, a2, h.1.tr a3, a4⟩
  · exact Or.inr q3
theorem rzAt_call {G a : rzR → Prop} {S0 S S_p : Nat → Int → Int} {x : Int} {b C : Int → Int → rzR → Prop} (h : rzAt G S0 S C) (k : ∀ r : rzR, rzThen a b r → C (S 412 2) (S 412 7) r) (q : rzOc a S S_p (some x)) : (x = 1 ∧ rzAt G S0 S_p b) ∨ (x = 0 ∧ rzOc G S0 S_p (some 0)) := by
  obtain ⟨r, q1, q2⟩ := q
  rcases q2 with ⟨a1, a2, a3, a4, a5, a6⟩ | ⟨a1, a2, a3⟩
  · refine Or.inl ⟨Option.some.inj a1, h.1.tr a3, a4, fun r2 hr => h.2.2 r2 (k r2 ⟨r, q1, Or.inr ⟨a2, ?_⟩⟩)⟩
    rw [a5, a6] at hr
    exact hr
  · exact Or.inr ⟨Option.some.inj a1, r, h.2.2 r (k r ⟨r, q1, Or.inl ⟨a2, rfl⟩⟩), Or.inr ⟨rfl, a2, a3⟩⟩
theorem rzAlt_y {c : Bool} {A B : Prop} (h : c = true) (a : A) : rzAlt c A B := Or.inl ⟨h, a⟩
theorem rzAlt_n {c : Bool} {A B : Prop} (h : c = false) (b : B) : rzAlt c A B := Or.inr ⟨h, b⟩
/-! CONTRACT BY HAND, by program (wip/sim/genhand.py): DeadUnderstudies$Reader.readIf -/
def rxCRIF : bx_Ct := ([(3, (1, 412, 0))], some (0, (0, 0, 1)), [(6, 0), (7, 2), (7, 3), (7, 4), (7, 7), (7, 8), (7, 10), (1021, 0), (1022, 0), (1027, 0), (1034, 0), (1035, 0), (1036, 0)], 8, [(412, 0, 3, (1, 411, 0)), (412, 6, 3, (1, 427, 0))])
def rxIRIF_0 (S0 : Nat → Int → Int) (ws : List Int) (S : Nat → Int → Int) : Prop := S = S0 ∧ ws = [412]
def rxmRIF_0 (S0 : Nat → Int → Int) (ws : List Int) (S : Nat → Int → Int) : Nat := 100
def rxzRIF_0 : rx_Z := ([(0, 0), (0, 0), (0, 0), (0, 0), (0, 0), (0, 0), (0, 0), (0, 0)], [], [(((0, 412), 6), .inr (3, (0, 427))), (((0, 412), 0), .inr (3, (0, 411)))], 0, 0, 0, [(0, .inr (3, (0, 412)))], [])
def rxIRIF_1 (S0 : Nat → Int → Int) (ws : List Int) (S : Nat → Int → Int) : Prop := rzAt (rzIf (rzCut (S0 411)) (S0 412 1) (rzWs S0) (S0 412 2) (S0 412 7)) S0 S (rzIf (rzCut (S0 411)) (S0 412 1) (rzWs S0))
def rxmRIF_1 (S0 : Nat → Int → Int) (ws : List Int) (S : Nat → Int → Int) : Nat := 90
def rxzRIF_1 : rx_Z := ([(0, 0), (0, 0), (0, 0), (0, 0), (0, 0), (0, 0), (0, 0), (0, 0)], [], [(((0, 412), 0), .inr (3, (0, 411))), (((0, 412), 6), .inr (3, (0, 427)))], 0, 0, 3, [(0, .inr (3, (0, 412)))], [.inr (3, (0, 532)), .inr (3, (0, 412))])
def rxIRIF_2 (S0 : Nat → Int → Int) (ws : List Int) (S : Nat → Int → Int) (r : Int) : Prop := rzAt (rzIf (rzCut (S0 411)) (S0 412 1) (rzWs S0) (S0 412 2) (S0 412 7)) S0 S (rzIf (rzCut (S0 411)) (S0 412 1) (rzWs S0)) ∧ r = (if rzIs (rzCut (S 411)) (S 412 1) rzW_if (S 412 2) = true then 1 else 0)
def rxmRIF_2 (S0 : Nat → Int → Int) (ws : List Int) (S : Nat → Int → Int) (r : Int) : Nat := 80
def rxzRIF_2 : rx_Z := ([(0, 0), (0, 0), (0, 0), (0, 0), (0, 0), (0, 0), (0, 0), (0, 0), (0, 1)], [], [(((0, 412), 0), .inr (3, (0, 411))), (((0, 412), 6), .inr (3, (0, 427)))], 0, 0, 6, [(0, .inr (3, (0, 412)))], [.inr (0, (8, 0))])
def rxIRIF_3 (S0 : Nat → Int → Int) (ws : List Int) (S : Nat → Int → Int) : Prop := rzAt (rzIf (rzCut (S0 411)) (S0 412 1) (rzWs S0) (S0 412 2) (S0 412 7)) S0 S (rzIf (rzCut (S0 411)) (S0 412 1) (rzWs S0)) ∧ rzIs (rzCut (S0 411)) (S0 412 1) rzW_if (S 412 2) = true
def rxmRIF_3 (S0 : Nat → Int → Int) (ws : List Int) (S : Nat → Int → Int) : Nat := 70
def rxzRIF_3 : rx_Z := ([(0, 0), (0, 0), (0, 0), (0, 0), (0, 0), (0, 0), (0, 0), (0, 0)], [], [(((0, 412), 0), .inr (3, (0, 411))), (((0, 412), 6), .inr (3, (0, 427)))], 0, 0, 12, [(0, .inr (3, (0, 412)))], [.inr (3, (0, 412))])
def rxIRIF_4 (S0 : Nat → Int → Int) (ws : List Int) (S : Nat → Int → Int) : Prop := rzAt (rzIf (rzCut (S0 411)) (S0 412 1) (rzWs S0) (S0 412 2) (S0 412 7)) S0 S (rzEx (rzCut (S0 411)) (S0 412 1) (rzWs S0) 1)
def rxmRIF_4 (S0 : Nat → Int → Int) (ws : List Int) (S : Nat → Int → Int) : Nat := 60
def rxzRIF_4 : rx_Z := ([(0, 0), (0, 0), (0, 0), (0, 0), (0, 0), (0, 0), (0, 0), (0, 0)], [], [(((0, 412), 0), .inr (3, (0, 411))), (((0, 412), 6), .inr (3, (0, 427)))], 0, 0, 15, [(0, .inr (3, (0, 412)))], [])
def rxIRIF_5 (S0 : Nat → Int → Int) (ws : List Int) (S : Nat → Int → Int) (sa : Int) : Prop := rzAt (rzIf (rzCut (S0 411)) (S0 412 1) (rzWs S0) (S0 412 2) (S0 412 7)) S0 S (rzEx (rzCut (S0 411)) (S0 412 1) (rzWs S0) 1)
def rxmRIF_5 (S0 : Nat → Int → Int) (ws : List Int) (S : Nat → Int → Int) (sa : Int) : Nat := 50
def rxzRIF_5 : rx_Z := ([(0, 0), (0, 0), (0, 0), (0, 0), (0, 0), (0, 0), (0, 0), (0, 0), (0, 1522)], [], [(((8, 0), 1000014), .inl none), (((0, 412), 0), .inr (3, (0, 411))), (((0, 412), 6), .inr (3, (0, 427)))], 0, 0, 24, [(0, .inr (3, (0, 412)))], [.inr (0, (0, 1)), .inr (3, (8, 0)), .inr (3, (0, 412))])
def rxIRIF_6 (S0 : Nat → Int → Int) (ws : List Int) (S : Nat → Int → Int) (sa res : Int) : Prop := rzOc (rzIf (rzCut (S0 411)) (S0 412 1) (rzWs S0) (S0 412 2) (S0 412 7)) S0 S (some res)
def rxmRIF_6 (S0 : Nat → Int → Int) (ws : List Int) (S : Nat → Int → Int) (sa res : Int) : Nat := 40
def rxzRIF_6 : rx_Z := ([(0, 0), (0, 0), (0, 0), (0, 0), (0, 0), (0, 0), (0, 0), (0, 0), (0, 1522), (0, 1)], [], [(((8, 0), 1000014), .inl none), (((0, 412), 0), .inr (3, (0, 411))), (((0, 412), 6), .inr (3, (0, 427)))], 0, 0, 27, [(0, .inr (3, (0, 412)))], [.inr (0, (9, 0))])
def rxoRIF_0_0 : bx_HO := (([(0, 0), (0, 0), (0, 0), (0, 0), (0, 0), (0, 0), (0, 0), (0, 0)], [], [(((0, 412), 6), .inr (3, (0, 427))), (((0, 412), 0), .inr (3, (0, 411)))], 0, 0, 3, [(0, .inr (3, (0, 412)))], [.inr (3, (0, 532)), .inr (3, (0, 412))]), [], [], [(0, 0), (0, 0), (0, 0), (0, 0), (0, 0), (0, 0), (0, 0), (0, 0)], 1)
def rxoRIF_2_0 : bx_HO := (([(0, 0), (0, 0), (0, 0), (0, 0), (0, 0), (0, 0), (0, 0), (0, 0), (1, 1)], [(3, (8, 0), (0, 0))], [(((0, 412), 0), .inr (3, (0, 411))), (((0, 412), 6), .inr (3, (0, 427)))], 0, 0, 12, [(0, .inr (3, (0, 412)))], [.inr (3, (0, 412))]), [], [], [(0, 0), (0, 0), (0, 0), (0, 0), (0, 0), (0, 0), (0, 0), (0, 0)], 3)
def rxeRIF_2_0 : rx_End × List (Nat × Int × Int) := (([(0, 0), (0, 0), (0, 0), (0, 0), (0, 0), (0, 0), (0, 0), (0, 0), (0, 0)], [], [(((0, 412), 0), .inr (3, (0, 411))), (((0, 412), 6), .inr (3, (0, 427)))], some (.inr (0, (0, 1)))), [])
def rxoRIF_4_0 : bx_HO := (([(0, 0), (0, 0), (0, 0), (0, 0), (0, 0), (0, 0), (0, 0), (0, 0), (0, 1522)], [], [(((0, 0), 1851192626986356799431407398244775400849232659564395713343455232000000), .inr (3, (8, 0))), (((0, 427), 10), .inr (3, (8, 0))), (((8, 0), 1000014), .inl none), (((0, 412), 0), .inr (3, (0, 411))), (((0, 412), 6), .inr (3, (0, 427)))], 0, 0, 24, [(0, .inr (3, (0, 412)))], [.inr (0, (0, 1)), .inr (3, (8, 0)), .inr (3, (0, 412))]), [], [], [(0, 0), (0, 0), (0, 0), (0, 0), (0, 0), (0, 0), (0, 0), (0, 0), (8, 0)], 5)
def rxeRIF_6_0 : rx_End × List (Nat × Int × Int) := (([(0, 0), (0, 0), (0, 0), (0, 0), (0, 0), (0, 0), (0, 0), (0, 0), (0, 1522), (0, 1)], [], [(((8, 0), 1000014), .inl none), (((0, 412), 0), .inr (3, (0, 411))), (((0, 412), 6), .inr (3, (0, 427)))], some (.inr (0, (9, 0)))), [])
def rxYRIF : List bx_HE := [(rxzRIF_0, [rxoRIF_0_0], []), (rxzRIF_1, [], []), (rxzRIF_2, [rxoRIF_2_0], [rxeRIF_2_0]), (rxzRIF_3, [], []), (rxzRIF_4, [rxoRIF_4_0], []), (rxzRIF_5, [], []), (rxzRIF_6, [], [rxeRIF_6_0])]
def rxURIF (q : bx_HE) : Bool := Nat.beq (rx_zpc q.1) 3 || Nat.beq (rx_zpc q.1) 12 || Nat.beq (rx_zpc q.1) 24
def rxYBRIF : bx_B := (rxV, rxNP, rxDmf, bx_mdH rxCRIF.2.2.1)
set_option maxRecDepth 100000 in
theorem rxYcRIF : bx_chkH rxYBRIF rxM87 rxCRIF rxYRIF (rxURIF, fun cut z => rx_ex2 (rxCT rxYBRIF rxCnE) cut 30000 rxCRIF.2.2.2.1 87 z) = true := by decide +kernel
def rxIRIF (S0 : Nat → Int → Int) (ws : List Int) (i : Nat) : bx_SP := fun S r => match i with | 0 => rxIRIF_0 S0 ws S | 1 => rxIRIF_1 S0 ws S | 2 => rxIRIF_2 S0 ws S (r 8) | 3 => rxIRIF_3 S0 ws S | 4 => rxIRIF_4 S0 ws S | 5 => rxIRIF_5 S0 ws S (r 8) | 6 => rxIRIF_6 S0 ws S (r 8) (r 9) | _ => False
def rxmRIF (S0 : Nat → Int → Int) (ws : List Int) (i : Nat) (S : Nat → Int → Int) (r : Nat → Int) : Nat := match i with | 0 => rxmRIF_0 S0 ws S | 1 => rxmRIF_1 S0 ws S | 2 => rxmRIF_2 S0 ws S (r 8) | 3 => rxmRIF_3 S0 ws S | 4 => rxmRIF_4 S0 ws S | 5 => rxmRIF_5 S0 ws S (r 8) | 6 => rxmRIF_6 S0 ws S (r 8) (r 9) | _ => 0
def rxPRIF (S0 : Nat → Int → Int) (ws : List Int) : Prop := rzDt S0
def rxPSRIF (S0 : Nat → Int → Int) (ws : List Int) (S : Nat → Int → Int) (w : Option Int) : Prop := rzOc (rzIf (rzCut (S0 411)) (S0 412 1) (rzWs S0) (S0 412 2) (S0 412 7)) S0 S w
theorem rxkRIF_1 {S0 : Nat → Int → Int} {ws : List Int} {S : Nat → Int → Int} (hP : rxPRIF S0 ws) (hin : bx_same rxL (bx_mdl rxCRIF.2.2.1) S0 S) (I0 : bx_Inv rxL S) (hinv : rxIRIF_1 S0 ws S)  : rxPIWX S [412, 532] ∧ ∀ (S_p : Nat → Int → Int) (r : Int), 0 ≤ r → r ≤ 1 → rxPSIWX S [412, 532] S_p (some r) → bx_Inv rxL S_p → bx_same rxL (bx_mdl rxC59.2.2.1) S S_p → rxIRIF_2 S0 ws S_p r ∧ rxmRIF_2 S0 ws S_p r < rxmRIF_1 S0 ws S := by
  obtain ⟨hA1, hA2, hA3⟩ := hinv
  have hD := hA2
  refine ⟨⟨rzDt.s3 hD, 532, rfl, by omega, by omega⟩, fun S_p r _ _ hq _ _ => ⟨?_, by unfold rxmRIF_1 rxmRIF_2; omega⟩⟩
  obtain ⟨rfl, k, hk, hr⟩ := hq
  have hk : (532 : Int) = k := Option.some.inj (congrArg (fun l : List Int => l[1]?) hk)
  subst hk
  have hr := Option.some.inj hr
  rw [hD.1] at hr
  exact ⟨⟨hA1, hA2, hA3⟩, hr⟩
theorem rxsRIF_1 {X : (Nat → Int → Int) → Prop} {S0 : Nat → Int → Int} {ws : List Int} (hP : rxPRIF S0 ws) : rx_obK X S0 rxCRIF.2.2.1 rxC59.2.2.1 (rxIRIF S0 ws) (rxmRIF S0 ws) 1 2 rxzRIF_1 rxzRIF_2 [.inr (3, (0, 412)), .inr (3, (0, 532))] (some 8) rxPIWX rxPSIWX := by
  intro S r hinv hXS I0 hin hs_ hf_
  have b_ := bx_bds_sat hs_
  have f_ := bx_fcl_ok hs_.1 hf_
  have g := rxkRIF_1 hP hin I0 hinv 
  have ea : List.map (bx_num r) [.inr (3, (0, 412)), .inr (3, (0, 532))] = [412, 532] := by
    simp only [List.map_cons, List.map_nil, bx_xv_ok hs_.1]
    rfl
  rw [ea]
  refine ⟨g.1, fun S_p w r_p hPS hX_p I1 hsm hr hw hs_p => ?_⟩
  have hw := hw _ rfl
  subst hw
  have b_p := hs_p.2.2 8 _ _ rfl
  have g2 := g.2 S_p (r_p 8) b_p.1 b_p.2 hPS I1 hsm
  show rxIRIF_2 S0 ws S_p (r_p 8) ∧ rxmRIF_2 S0 ws S_p (r_p 8) < _
  exact g2
theorem rxkRIF_3 {S0 : Nat → Int → Int} {ws : List Int} {S : Nat → Int → Int} (hP : rxPRIF S0 ws) (hin : bx_same rxL (bx_mdl rxCRIF.2.2.1) S0 S) (I0 : bx_Inv rxL S) (hinv : rxIRIF_3 S0 ws S)  : rxPAD S [412] ∧ ∀ (S_p : Nat → Int → Int), rxPSAD S [412] S_p none → bx_Inv rxL S_p → bx_same rxL (bx_mdl rxC84.2.2.1) S S_p → rxIRIF_4 S0 ws S_p ∧ rxmRIF_4 S0 ws S_p < rxmRIF_3 S0 ws S := by
  obtain ⟨hA, hb⟩ := hinv
  refine ⟨trivial, fun S_p hq _ hsm => ⟨rzAt_ad hA hsm (by decide +kernel) (by decide +kernel) (by decide +kernel) (by decide +kernel) (by decide +kernel) hq.2.1 hq.2.2 (fun r q => rzAlt_y hb q), by unfold rxmRIF_3 rxmRIF_4; omega⟩⟩
theorem rxsRIF_3 {X : (Nat → Int → Int) → Prop} {S0 : Nat → Int → Int} {ws : List Int} (hP : rxPRIF S0 ws) : rx_obK X S0 rxCRIF.2.2.1 rxC84.2.2.1 (rxIRIF S0 ws) (rxmRIF S0 ws) 3 4 rxzRIF_3 rxzRIF_4 [.inr (3, (0, 412))] none rxPAD rxPSAD := by
  intro S r hinv hXS I0 hin hs_ hf_
  have b_ := bx_bds_sat hs_
  have f_ := bx_fcl_ok hs_.1 hf_
  have g := rxkRIF_3 hP hin I0 hinv 
  have ea : List.map (bx_num r) [.inr (3, (0, 412))] = [412] := by
    simp only [List.map_cons, List.map_nil, bx_xv_ok hs_.1]
    rfl
  rw [ea]
  refine ⟨g.1, fun S_p w r_p hPS hX_p I1 hsm hr hw hs_p => ?_⟩
  have hw : w = none := hPS.1
  subst hw
  have g2 := g.2 S_p hPS I1 hsm
  show rxIRIF_4 S0 ws S_p ∧ rxmRIF_4 S0 ws S_p < _
  exact g2
theorem rxkRIF_5 {S0 : Nat → Int → Int} {ws : List Int} {S : Nat → Int → Int} {sa : Int} (hP : rxPRIF S0 ws) (hin : bx_same rxL (bx_mdl rxCRIF.2.2.1) S0 S) (I0 : bx_Inv rxL S) (hinv : rxIRIF_5 S0 ws S sa) (l8 : 0 ≤ sa) (u8 : sa ≤ 1522) : rxPRED S [412, sa, 1] ∧ ∀ (S_p : Nat → Int → Int) (res : Int), 0 ≤ res → res ≤ 1 → rxPSRED S [412, sa, 1] S_p (some res) → bx_Inv rxL S_p → bx_same rxL (bx_mdl rxCRED.2.2.1) S S_p → rxIRIF_6 S0 ws S_p sa res ∧ rxmRIF_6 S0 ws S_p sa res < rxmRIF_5 S0 ws S sa := by
  obtain ⟨hA1, hA2, hA3⟩ := hinv
  have hA : rzAt (rzIf (rzCut (S0 411)) (S0 412 1) (rzWs S0) (S0 412 2) (S0 412 7)) S0 S (rzEx (rzCut (S0 411)) (S0 412 1) (rzWs S0) 1) := ⟨hA1, hA2, hA3⟩
  refine ⟨hA.2.1, fun S_p res _ _ hq _ _ => ⟨?_, by unfold rxmRIF_5 rxmRIF_6; omega⟩⟩
  obtain ⟨sa, sg, hk, hq⟩ := hq
  have hk : (1 : Int) = sg := Option.some.inj (congrArg (fun l : List Int => l[2]?) hk)
  subst hk
  have hw : rzWs S = rzWs S0 := rzKp.ws hA.1
  rw [hA.1.1, hA.1.2.1, hw] at hq
  have q : rzOc (rzEx (rzCut (S0 411)) (S0 412 1) (rzWs S0) 1 (S 412 2) (S 412 7)) S S_p (some res) := by
    rcases hq with ⟨q1, r, q2, q3, q4, q5, q6, q7⟩ | ⟨q1, r, q2, q3, q4⟩
    · exact ⟨r, q2, Or.inl ⟨q1, q3, q4, q5, q6, q7⟩⟩
    · exact ⟨r, q2, Or.inr ⟨q1, q3, q4⟩⟩
  exact rzAt_tail hA (fun r q => q) q
theorem rxsRIF_5 {X : (Nat → Int → Int) → Prop} {S0 : Nat → Int → Int} {ws : List Int} (hP : rxPRIF S0 ws) : rx_obK X S0 rxCRIF.2.2.1 rxCRED.2.2.1 (rxIRIF S0 ws) (rxmRIF S0 ws) 5 6 rxzRIF_5 rxzRIF_6 [.inr (3, (0, 412)), .inr (3, (8, 0)), .inr (0, (0, 1))] (some 9) rxPRED rxPSRED := by
  intro S r hinv hXS I0 hin hs_ hf_
  have b_ := bx_bds_sat hs_
  have f_ := bx_fcl_ok hs_.1 hf_
  obtain ⟨⟨l8, u8⟩, -⟩ := b_
  have g := rxkRIF_5 hP hin I0 hinv l8 u8
  have ea : List.map (bx_num r) [.inr (3, (0, 412)), .inr (3, (8, 0)), .inr (0, (0, 1))] = [412, (r 8), 1] := by
    simp only [List.map_cons, List.map_nil, bx_xv_ok hs_.1]
    rfl
  rw [ea]
  refine ⟨g.1, fun S_p w r_p hPS hX_p I1 hsm hr hw hs_p => ?_⟩
  have hw := hw _ rfl
  subst hw
  have b_p := hs_p.2.2 9 _ _ rfl
  have g2 := g.2 S_p (r_p 9) b_p.1 b_p.2 hPS I1 hsm
  show rxIRIF_6 S0 ws S_p (r_p 8) (r_p 9) ∧ rxmRIF_6 S0 ws S_p (r_p 8) (r_p 9) < _
  rw [hr 8 (by decide)]
  exact g2
theorem rxcRIF_0_0 {S0 : Nat → Int → Int} {ws : List Int} {S : Nat → Int → Int} (hP : rxPRIF S0 ws) (hin : bx_same rxL (bx_mdl rxCRIF.2.2.1) S0 S) (I0 : bx_Inv rxL S) (hinv : rxIRIF_0 S0 ws S)  : (True) ∧ (True) ∧ rxIRIF_1 S0 ws S ∧ rxmRIF_1 S0 ws S < rxmRIF_0 S0 ws S := by
  obtain ⟨rfl, hw⟩ := hinv
  exact ⟨trivial, trivial, ⟨rzKp_rf, hP, fun r q => q⟩, by unfold rxmRIF_0 rxmRIF_1; omega⟩
theorem rxgRIF_0_0 {X : (Nat → Int → Int) → Prop} {S0 : Nat → Int → Int} {ws : List Int} (hP : rxPRIF S0 ws) : bx_obC rxL X S0 rxCRIF.2.2.1 (rxIRIF S0 ws) (rxmRIF S0 ws) 0 rxzRIF_0 rxoRIF_0_0 := by
  intro S S_p r r_p hinv hX hin hsm_ hseg
  obtain ⟨I0, I1, h0_, hr_, b_, f_, d_⟩ := bx_cl (evs := []) (fvs := []) hseg (by decide +kernel) (by decide +kernel)
  have hinv : rxIRIF_0 S0 ws S := hinv
  have w_ := d_
  subst w_
  have g := rxcRIF_0_0 hP hin I0 hinv 
  refine ⟨bx_narP_ok (l := []) g.1, bx_nfP_ok h0_ (fvs := []) (by decide +kernel) g.2.1, ?_, ?_⟩
  · show rxIRIF_1 S0 ws S_p
    exact g.2.2.1
  · show rxmRIF_1 S0 ws S_p < rxmRIF_0 S0 ws S_p
    exact g.2.2.2
theorem rxcRIF_2_0 {S0 : Nat → Int → Int} {ws : List Int} {S : Nat → Int → Int} {r : Int} (hP : rxPRIF S0 ws) (hin : bx_same rxL (bx_mdl rxCRIF.2.2.1) S0 S) (I0 : bx_Inv rxL S) (hinv : rxIRIF_2 S0 ws S r) (l8 : 1 ≤ r) (u8 : r ≤ 1) (f0 : r ≠ 0) : (True) ∧ (True) ∧ rxIRIF_3 S0 ws S ∧ rxmRIF_3 S0 ws S < rxmRIF_2 S0 ws S r := by
  obtain ⟨hA, hr⟩ := hinv
  have bx : rzIs (rzCut (S 411)) (S 412 1) rzW_if (S 412 2) = true := by
    cases hb : rzIs (rzCut (S 411)) (S 412 1) rzW_if (S 412 2) with
    | true => rfl
    | false =>
      rw [hb, if_neg (by decide)] at hr
      omega
  rw [hA.1.1, hA.1.2.1] at bx
  exact ⟨trivial, trivial, ⟨hA, bx⟩, by unfold rxmRIF_2 rxmRIF_3; omega⟩
theorem rxgRIF_2_0 {X : (Nat → Int → Int) → Prop} {S0 : Nat → Int → Int} {ws : List Int} (hP : rxPRIF S0 ws) : bx_obC rxL X S0 rxCRIF.2.2.1 (rxIRIF S0 ws) (rxmRIF S0 ws) 2 rxzRIF_2 rxoRIF_2_0 := by
  intro S S_p r r_p hinv hX hin hsm_ hseg
  obtain ⟨I0, I1, h0_, hr_, b_, f_, d_⟩ := bx_cl (evs := []) (fvs := [(3, (8, 0), (0, 0), (0, 0))]) hseg (by decide +kernel) (by decide +kernel)
  have hinv : rxIRIF_2 S0 ws S (r 8) := hinv
  rw [← hr_ 8 (by decide)] at hinv
  obtain ⟨⟨l8, u8⟩, -⟩ := b_
  obtain ⟨f0, -⟩ := f_
  have w_ := d_
  subst w_
  have g := rxcRIF_2_0 hP hin I0 hinv l8 u8 f0
  refine ⟨bx_narP_ok (l := []) g.1, bx_nfP_ok h0_ (fvs := []) (by decide +kernel) g.2.1, ?_, ?_⟩
  · show rxIRIF_3 S0 ws S_p
    exact g.2.2.1
  · show rxmRIF_3 S0 ws S_p < rxmRIF_2 S0 ws S_p (r 8)
    rw [← hr_ 8 (by decide)]
    exact g.2.2.2
theorem rxdRIF_2_0 {S0 : Nat → Int → Int} {ws : List Int} {S : Nat → Int → Int} {r : Int} (hP : rxPRIF S0 ws) (hin : bx_same rxL (bx_mdl rxCRIF.2.2.1) S0 S) (hin2 : bx_same rxL (bx_mdl rxCRIF.2.2.1) S S) (I0 : bx_Inv rxL S) (I1 : bx_Inv rxL S) (hinv : rxIRIF_2 S0 ws S r) (l8 : 0 ≤ r) (u8 : r ≤ 0) : (True) ∧ rxPSRIF S0 ws S (some 1) := by
  obtain ⟨hA, hr⟩ := hinv
  have bx : rzIs (rzCut (S 411)) (S 412 1) rzW_if (S 412 2) = false := by
    cases hb : rzIs (rzCut (S 411)) (S 412 1) rzW_if (S 412 2) with
    | false => rfl
    | true =>
      rw [hb, if_pos rfl] at hr
      omega
  rw [hA.1.1, hA.1.2.1] at bx
  exact ⟨trivial, rzAt_yes hA (rzAlt_n bx rfl)⟩
theorem rxfRIF_2_0 {X : (Nat → Int → Int) → Prop} {S0 : Nat → Int → Int} {ws : List Int} (hP : rxPRIF S0 ws) : bx_obE rxL X S0 rxCRIF.2.2.1 (rxIRIF S0 ws) (rxPSRIF S0 ws) 2 rxzRIF_2 rxeRIF_2_0 := by
  intro S S_p r r_p hinv hX hin hsm_ hseg
  obtain ⟨I0, I1, h0_, hr_, b_, f_, d_⟩ := bx_cl (evs := []) (fvs := []) hseg (by decide +kernel) (by decide +kernel)
  have hinv : rxIRIF_2 S0 ws S (r 8) := hinv
  rw [← hr_ 8 (by decide)] at hinv
  obtain ⟨⟨l8, u8⟩, -⟩ := b_
  have w_ := d_
  subst w_
  have g := rxdRIF_2_0 hP hin hsm_ I0 I1 hinv l8 u8
  refine ⟨bx_narP_ok (l := []) g.1, ?_⟩
  show rxPSRIF S0 ws S_p (some (bx_num r_p (.inr (0, (0, 1)))))
  rw [bx_xv_ok h0_]
  exact g.2
theorem rxcRIF_4_0 {S0 : Nat → Int → Int} {ws : List Int} {S : Nat → Int → Int} {x8 : Int} (hP : rxPRIF S0 ws) (hin : bx_same rxL (bx_mdl rxCRIF.2.2.1) S0 S) (I0 : bx_Inv rxL S) (hinv : rxIRIF_4 S0 ws S) (l8 : 0 ≤ x8) (u8 : x8 ≤ 1522) (e0 : S 427 10 = x8) : (True) ∧ (True) ∧ rxIRIF_5 S0 ws S x8 ∧ rxmRIF_5 S0 ws S x8 < rxmRIF_4 S0 ws S := by
  exact ⟨trivial, trivial, hinv, by unfold rxmRIF_4 rxmRIF_5; omega⟩
theorem rxgRIF_4_0 {X : (Nat → Int → Int) → Prop} {S0 : Nat → Int → Int} {ws : List Int} (hP : rxPRIF S0 ws) : bx_obC rxL X S0 rxCRIF.2.2.1 (rxIRIF S0 ws) (rxmRIF S0 ws) 4 rxzRIF_4 rxoRIF_4_0 := by
  intro S S_p r r_p hinv hX hin hsm_ hseg
  obtain ⟨I0, I1, h0_, hr_, b_, f_, d_⟩ := bx_cl (evs := [(0, (0, 427), (0, 10), .inr (3, (8, 0)))]) (fvs := []) hseg (by decide +kernel) (by decide +kernel)
  have hinv : rxIRIF_4 S0 ws S := hinv
  obtain ⟨⟨l8, u8⟩, -⟩ := b_
  obtain ⟨e0, w_⟩ := d_
  subst w_
  have g := rxcRIF_4_0 hP hin I0 hinv l8 u8 e0
  refine ⟨bx_narP_ok (l := []) g.1, bx_nfP_ok h0_ (fvs := []) (by decide +kernel) g.2.1, ?_, ?_⟩
  · show rxIRIF_5 S0 ws S_p (bx_val [(0, 0), (0, 0), (0, 0), (0, 0), (0, 0), (0, 0), (0, 0), (0, 0), (8, 0)] r_p 8)
    rw [bx_val_x (n := 8) (e := (8, 0)) h0_ rfl]
    exact g.2.2.1
  · show rxmRIF_5 S0 ws S_p (bx_val [(0, 0), (0, 0), (0, 0), (0, 0), (0, 0), (0, 0), (0, 0), (0, 0), (8, 0)] r_p 8) < rxmRIF_4 S0 ws S_p
    rw [bx_val_x (n := 8) (e := (8, 0)) h0_ rfl]
    exact g.2.2.2
theorem rxdRIF_6_0 {S0 : Nat → Int → Int} {ws : List Int} {S : Nat → Int → Int} {sa res : Int} (hP : rxPRIF S0 ws) (hin : bx_same rxL (bx_mdl rxCRIF.2.2.1) S0 S) (hin2 : bx_same rxL (bx_mdl rxCRIF.2.2.1) S S) (I0 : bx_Inv rxL S) (I1 : bx_Inv rxL S) (hinv : rxIRIF_6 S0 ws S sa res) (l8 : 0 ≤ sa) (u8 : sa ≤ 1522) (l9 : 0 ≤ res) (u9 : res ≤ 1) : (True) ∧ rxPSRIF S0 ws S (some res) := by
  exact ⟨trivial, hinv⟩
theorem rxfRIF_6_0 {X : (Nat → Int → Int) → Prop} {S0 : Nat → Int → Int} {ws : List Int} (hP : rxPRIF S0 ws) : bx_obE rxL X S0 rxCRIF.2.2.1 (rxIRIF S0 ws) (rxPSRIF S0 ws) 6 rxzRIF_6 rxeRIF_6_0 := by
  intro S S_p r r_p hinv hX hin hsm_ hseg
  obtain ⟨I0, I1, h0_, hr_, b_, f_, d_⟩ := bx_cl (evs := []) (fvs := []) hseg (by decide +kernel) (by decide +kernel)
  have hinv : rxIRIF_6 S0 ws S (r 8) (r 9) := hinv
  rw [← hr_ 8 (by decide), ← hr_ 9 (by decide)] at hinv
  obtain ⟨⟨l8, u8⟩, ⟨l9, u9⟩, -⟩ := b_
  have w_ := d_
  subst w_
  have g := rxdRIF_6_0 hP hin hsm_ I0 I1 hinv l8 u8 l9 u9
  refine ⟨bx_narP_ok (l := []) g.1, ?_⟩
  show rxPSRIF S0 ws S_p (some (bx_num r_p (.inr (0, (9, 0)))))
  rw [bx_xv_ok h0_]
  exact g.2
theorem rxgCRIF {X : (Nat → Int → Int) → Prop} {S0 : Nat → Int → Int} {ws : List Int} (hP : rxPRIF S0 ws) : bx_allI (fun i q => rxURIF q = true ∨ bx_allP (fun o => bx_obC rxL X S0 rxCRIF.2.2.1 (rxIRIF S0 ws) (rxmRIF S0 ws) i q.1 o) q.2.1) 0 rxYRIF := ⟨Or.inr ⟨rxgRIF_0_0 hP, trivial⟩, Or.inl rfl, Or.inr ⟨rxgRIF_2_0 hP, trivial⟩, Or.inl rfl, Or.inr ⟨rxgRIF_4_0 hP, trivial⟩, Or.inl rfl, Or.inr trivial, trivial⟩
theorem rxgERIF {X : (Nat → Int → Int) → Prop} {S0 : Nat → Int → Int} {ws : List Int} (hP : rxPRIF S0 ws) : bx_allI (fun i q => rxURIF q = true ∨ bx_allP (fun E => bx_obE rxL X S0 rxCRIF.2.2.1 (rxIRIF S0 ws) (rxPSRIF S0 ws) i q.1 E) q.2.2) 0 rxYRIF := ⟨Or.inr trivial, Or.inl rfl, Or.inr ⟨rxfRIF_2_0 hP, trivial⟩, Or.inl rfl, Or.inr trivial, Or.inl rfl, Or.inr ⟨rxfRIF_6_0 hP, trivial⟩, trivial⟩
theorem rxuRIF {PX : State → Prop} {Dg : va_G} {A : Nat → Prop} {ad xa : Nat → Nat} {l : Launch} {X : (Nat → Int → Int) → Prop} (hPX : rx_PXOK rxNW A PX) (hX : ∀ S S1 : Nat → Int → Int, X S → bx_same rxL (bx_mdl rxCRIF.2.2.1) S S1 → X S1) (hQIWX : bx_ConP rxG rxNW rxAO PX Dg rxL X vwCl A ad l rxM59 rxC59 rxPIWX rxPSIWX) (hQAD : bx_ConP rxG rxNW rxAO PX Dg rxL X vwCl A ad l rxM84 rxC84 rxPAD rxPSAD) (hQRED : bx_ConP rxG rxNW rxAO PX Dg rxL X vwCl A ad l rxM61 rxCRED rxPRED rxPSRED) {S0 : Nat → Int → Int} {ws : List Int} (hP : rxPRIF S0 ws) : ∀ (i : Nat) (q : bx_HE), rxYRIF[i]? = some q → rxURIF q = true → ∀ {p : Program} {e : Env} {R : Room} {s : State} {m : MethodId} {args : Array Value} {below : List Frame} {meth : Method} {c : Code} {Q : State → Prop} {H0 : Heap}, rx_Fr rxG rxNW rxAO PX p s m args meth c rxM87 → (∀ q, H0.size ≤ q → A q) → H0 = s.heap → rxM87.2.2.2.2.2.2.1 ≤ R.cells → rxM87.2.2.2.2.2.2.2 ≤ R.slots → rxCRIF.2.2.2.1 ≤ R.frames → rxCRIF.2.2.2.1 * 40 ≤ R.locals → bx_Step p l e R s m args below meth c Q Dg rxL X vwCl A xa H0 ad rxM87 rxYRIF (rxIRIF S0 ws) (rxmRIF S0 ws) S0 rxCRIF.2.2.1 i q := by
  intro i q hq hus p e R s m args below meth c Q H0 hF hA hH0 hmc hms hd hdl
  match i, hq with
  | 0, hq =>
    cases hq
    exact absurd (show false = true from hus) Bool.false_ne_true
  | 1, hq =>
    cases hq
    exact rx_stepC (ins := .invokevirtual 100) (len := 3) (i_p := 2) (M_p := rxM59) (d := rxCRIF.2.2.2.1) (as := [.inr (3, (0, 412)), .inr (3, (0, 532))]) (t := []) (ct := rxC59) hPX hF rfl hA hH0 hmc hms hd hdl (by decide +kernel) rfl rfl (by decide +kernel) (by decide +kernel) hQIWX (by decide +kernel) rfl (Or.inr ⟨_, _, _, 1, rfl, rfl, by omega, rfl, rfl, rfl⟩) (rxsRIF_1 hP)
  | 2, hq =>
    cases hq
    exact absurd (show false = true from hus) Bool.false_ne_true
  | 3, hq =>
    cases hq
    exact rx_stepC (ins := .invokevirtual 66) (len := 3) (i_p := 4) (M_p := rxM84) (d := rxCRIF.2.2.2.1) (as := [.inr (3, (0, 412))]) (t := []) (ct := rxC84) hPX hF rfl hA hH0 hmc hms hd hdl (by decide +kernel) rfl rfl (by decide +kernel) (by decide +kernel) hQAD (by decide +kernel) rfl (Or.inl ⟨rfl, rfl, rfl⟩) (rxsRIF_3 hP)
  | 4, hq =>
    cases hq
    exact absurd (show false = true from hus) Bool.false_ne_true
  | 5, hq =>
    cases hq
    exact rx_stepC (ins := .invokevirtual 112) (len := 3) (i_p := 6) (M_p := rxM61) (d := rxCRIF.2.2.2.1) (as := [.inr (3, (0, 412)), .inr (3, (8, 0)), .inr (0, (0, 1))]) (t := []) (ct := rxCRED) hPX hF rfl hA hH0 hmc hms hd hdl (by decide +kernel) rfl rfl (by decide +kernel) (by decide +kernel) hQRED (by decide +kernel) rfl (Or.inr ⟨_, _, _, 1, rfl, rfl, by omega, rfl, rfl, rfl⟩) (rxsRIF_5 hP)
  | 6, hq =>
    cases hq
    exact absurd (show false = true from hus) Bool.false_ne_true
  | n + 7, hq => cases hq
theorem rxQRIF {PX : State → Prop} {Dg : va_G} {A : Nat → Prop} {ad xa : Nat → Nat} {l : Launch} {X : (Nat → Int → Int) → Prop} (hPX : rx_PXOK rxNW A PX) (hsl : ∀ s : State, PX s → ∀ o idx n : Nat, rxSl o idx = some n → ∃ tx : String, vk_R (rxNm o) idx tx (ad n) s)
    (hX : ∀ S S_p : Nat → Int → Int, X S → bx_same rxL (bx_mdl rxCRIF.2.2.1) S S_p → X S_p)
    (ih : ∀ (j2 : Nat) (ct2 : bx_Ct) (M2 : rx_Mt), ct2 ∈ rxCnE j2 → ct2.2.2.2.1 + 1 ≤ rxCRIF.2.2.2.1 → rxT.2.2.2.2.2 j2 = some M2 → bx_Con rxG rxNW rxAO PX Dg rxL X vwCl A ad l M2 ct2) (hQIWX : bx_ConP rxG rxNW rxAO PX Dg rxL X vwCl A ad l rxM59 rxC59 rxPIWX rxPSIWX) (hQAD : bx_ConP rxG rxNW rxAO PX Dg rxL X vwCl A ad l rxM84 rxC84 rxPAD rxPSAD) (hQRED : bx_ConP rxG rxNW rxAO PX Dg rxL X vwCl A ad l rxM61 rxCRED rxPRED rxPSRED) : bx_ConP rxG rxNW rxAO PX Dg rxL X vwCl A ad l rxM87 rxCRIF rxPRIF rxPSRIF :=
  rxQof (xa := xa) (Cn := rxCnE) (f := 30000) (j := 87) (tab := rxYRIF) (us := rxURIF) hPX hsl hX ih rfl rxYcRIF rxIRIF rxmRIF
    (fun S0 ws r I0 I ht0 ht as he he1 hX0 hI0 hP hs ha => by
      have e := he.symm.trans (show bx_ent0 rxNP rxCRIF.1 bx_I0 [] = some ([(0, 0), (0, 0), (0, 0), (0, 0), (0, 0), (0, 0), (0, 0), (0, 0)], [], [.inr (3, (0, 412))]) from rfl)
      cases e
      subst ha
      have h0 : r 0 = 0 := hs.1
      show rxIRIF_0 S0 _ S0
      refine ⟨rfl, ?_⟩
      simp only [List.map_cons, List.map_nil, bx_xv_ok h0]
      rfl)
    (fun S0 ws hP => rxuRIF (xa := xa) hPX hX hQIWX hQAD hQRED hP) (fun S0 ws hP => rxgCRIF hP) (fun S0 ws hP => rxgERIF hP)

/-! CONTRACT BY HAND, by program (wip/sim/genhand.py): DeadUnderstudies$Program.openClause -/
def rxCOCD : bx_Ct := ([(3, (2, 7, 0)), (0, (0, 0, 4)), (0, (0, (-1), 6)), (0, (0, (-1), 6))], none, [(6, 4), (1024, 0), (1025, 0), (1026, 0), (1027, 0)], 1, [])
def rxIOCD_0 (S0 : Nat → Int → Int) (ws : List Int) (S : Nat → Int → Int) (pg ki st cu : Int) : Prop := S = S0 ∧ ws = [pg, ki, st, cu]
def rxmOCD_0 (S0 : Nat → Int → Int) (ws : List Int) (S : Nat → Int → Int) (pg ki st cu : Int) : Nat := 10
def rxzOCD_0 : rx_Z := ([(0, 0), (0, 0), (0, 0), (0, 0), (0, 0), (0, 0), (0, 0), (0, 0), (0, 1522), (0, 4), ((-1), 6), ((-1), 6)], [], [(((8, 0), 1000007), .inl none)], 0, 0, 0, [(0, .inr (3, (8, 0))), (1, .inr (0, (9, 0))), (2, .inr (0, (10, 0))), (3, .inr (0, (11, 0)))], [])
def rxeOCD_0_0 : rx_End × List (Nat × Int × Int) := (([(0, 0), (0, 0), (0, 0), (0, 0), (0, 0), (0, 0), (0, 0), (0, 0), (0, 1522), (0, 4), ((-1), 6), ((-1), 6), (12, 12)], [], [(((0, 0), 1851192626986356798227167157524121751206303872841384191768657992000000), .inr (0, (12, 0))), (((8, 0), 4), .inr (0, (12, 0))), (((8, 0), 1000007), .inl none)], none), [])
def rxeOCD_0_1 : rx_End × List (Nat × Int × Int) := (([(0, 0), (0, 0), (0, 0), (0, 0), (0, 0), (0, 0), (0, 0), (0, 0), (0, 1522), (0, 4), ((-1), 6), ((-1), 6), (0, 11), (0, 1522), (0, 1522), (0, 1522)], [], [(((0, 0), 1851192626986356798227167157524121751206303872841384191768657995000000), .inr (0, (12, 1))), (((8, 0), 4), .inr (0, (12, 1))), (((0, 0), 1851192626986356797424377080872646779465072059483645808520200330000000), .inr (0, (0, (-1)))), (((0, 0), 1851192626986356799431407398244775400849232659564395713091600456000000), .inr (3, (15, 0))), (((8, 0), 10), .inr (3, (15, 0))), (((15, 0), 1000014), .inl none), (((0, 0), 1851192626986356797424377080872646779465072059483645808520200321000000), .inr (0, (0, (-1)))), (((0, 0), 1851192626986356799230700691457999792575411195110560459537776712000000), .inr (3, (14, 0))), (((8, 0), 9), .inr (3, (14, 0))), (((14, 0), 1000014), .inl none), (((0, 0), 1851192626986356797424377080872646779465072059483645808520200312000000), .inr (0, (0, (-1)))), (((0, 0), 1851192626986356799029993984671224184301589730656725205983952968000000), .inr (3, (13, 0))), (((8, 0), 8), .inr (3, (13, 0))), (((13, 0), 1000014), .inl none), (((0, 0), 1851192626986356797424377080872646779465072059483645808523739211000000), .inr (0, (11, 0))), (((0, 0), 1851192626986356798829287277884448576027768266202889952430129224000000), .inr (3, (8, 6))), (((8, 0), 7), .inr (3, (8, 6))), (((0, 0), 1851192626986356797424377080872646779465072059483645808523149387000000), .inr (0, (10, 0))), (((0, 0), 1851192626986356798628580571097672967753946801749054698876305480000000), .inr (3, (8, 5))), (((8, 0), 6), .inr (3, (8, 5))), (((0, 0), 1851192626986356797424377080872646779465072059483645808522559563000000), .inr (0, (9, 0))), (((0, 0), 1851192626986356798427873864310897359480125337295219445322481736000000), .inr (3, (8, 4))), (((8, 0), 5), .inr (3, (8, 4))), (((0, 0), 1851192626986356798227167157524121751206303872841384191768657992000000), .inr (0, (12, 0))), (((8, 0), 1000007), .inl none)], none), [])
def rxYOCD : List bx_HE := [(rxzOCD_0, [], [rxeOCD_0_0, rxeOCD_0_1])]
def rxUOCD (q : bx_HE) : Bool := false
def rxYBOCD : bx_B := (rxV, rxNP, rxDmf, bx_mdH rxCOCD.2.2.1)
set_option maxRecDepth 100000 in
theorem rxYcOCD : bx_chkH rxYBOCD rxM60 rxCOCD rxYOCD (rxUOCD, fun cut z => rx_ex2 (rxCT rxYBOCD rxCnE) cut 30000 rxCOCD.2.2.2.1 60 z) = true := by decide +kernel
def rxIOCD (S0 : Nat → Int → Int) (ws : List Int) (i : Nat) : bx_SP := fun S r => match i with | 0 => rxIOCD_0 S0 ws S (r 8) (r 9) (r 10) (r 11) | _ => False
def rxmOCD (S0 : Nat → Int → Int) (ws : List Int) (i : Nat) (S : Nat → Int → Int) (r : Nat → Int) : Nat := match i with | 0 => rxmOCD_0 S0 ws S (r 8) (r 9) (r 10) (r 11) | _ => 0
def rxPOCD (S0 : Nat → Int → Int) (ws : List Int) : Prop := True
def rxPSOCD (S0 : Nat → Int → Int) (ws : List Int) (S : Nat → Int → Int) (w : Option Int) : Prop := w = none ∧ True
theorem rxdOCD_0_0 {S0 : Nat → Int → Int} {ws : List Int} {S : Nat → Int → Int} {pg ki st cu x12 : Int} (hP : rxPOCD S0 ws) (hin : bx_same rxL (bx_mdl rxCOCD.2.2.1) S0 S) (hin2 : bx_same rxL (bx_mdl rxCOCD.2.2.1) S S) (I0 : bx_Inv rxL S) (I1 : bx_Inv rxL S) (hinv : rxIOCD_0 S0 ws S pg ki st cu) (l8 : 0 ≤ pg) (u8 : pg ≤ 1522) (l9 : 0 ≤ ki) (u9 : ki ≤ 4) (l10 : (-1) ≤ st) (u10 : st ≤ 6) (l11 : (-1) ≤ cu) (u11 : cu ≤ 6) (l12 : 12 ≤ x12) (u12 : x12 ≤ 12) (e0 : S (pg).toNat 4 = x12) : (True) ∧ rxPSOCD S0 ws S none := by
  exact ⟨trivial, rfl, trivial⟩
theorem rxfOCD_0_0 {X : (Nat → Int → Int) → Prop} {S0 : Nat → Int → Int} {ws : List Int} (hP : rxPOCD S0 ws) : bx_obE rxL X S0 rxCOCD.2.2.1 (rxIOCD S0 ws) (rxPSOCD S0 ws) 0 rxzOCD_0 rxeOCD_0_0 := by
  intro S S_p r r_p hinv hX hin hsm_ hseg
  obtain ⟨I0, I1, h0_, hr_, b_, f_, d_⟩ := bx_cl (evs := [(0, (8, 0), (0, 4), .inr (0, (12, 0)))]) (fvs := []) hseg (by decide +kernel) (by decide +kernel)
  have hinv : rxIOCD_0 S0 ws S (r 8) (r 9) (r 10) (r 11) := hinv
  rw [← hr_ 8 (by decide), ← hr_ 9 (by decide), ← hr_ 10 (by decide), ← hr_ 11 (by decide)] at hinv
  obtain ⟨⟨l8, u8⟩, ⟨l9, u9⟩, ⟨l10, u10⟩, ⟨l11, u11⟩, ⟨l12, u12⟩, -⟩ := b_
  obtain ⟨e0, w_⟩ := d_
  subst w_
  have g := rxdOCD_0_0 hP hin hsm_ I0 I1 hinv l8 u8 l9 u9 l10 u10 l11 u11 l12 u12 e0
  refine ⟨bx_narP_ok (l := []) g.1, ?_⟩
  exact g.2
theorem rxdOCD_0_1 {S0 : Nat → Int → Int} {ws : List Int} {S : Nat → Int → Int} {pg ki st cu x12 x13 x14 x15 : Int} (hP : rxPOCD S0 ws) (hin : bx_same rxL (bx_mdl rxCOCD.2.2.1) S0 S) (hin2 : bx_same rxL (bx_mdl rxCOCD.2.2.1) S (bx_up (bx_up (bx_up (bx_up (bx_up (bx_up (bx_up S (pg + 4).toNat x12 ki) (pg + 5).toNat x12 st) (pg + 6).toNat x12 cu) (x13).toNat x12 ((-1))) (x14).toNat x12 ((-1))) (x15).toNat x12 ((-1))) (pg).toNat 4 (x12 + 1))) (I0 : bx_Inv rxL S) (I1 : bx_Inv rxL (bx_up (bx_up (bx_up (bx_up (bx_up (bx_up (bx_up S (pg + 4).toNat x12 ki) (pg + 5).toNat x12 st) (pg + 6).toNat x12 cu) (x13).toNat x12 ((-1))) (x14).toNat x12 ((-1))) (x15).toNat x12 ((-1))) (pg).toNat 4 (x12 + 1))) (hinv : rxIOCD_0 S0 ws S pg ki st cu) (l8 : 0 ≤ pg) (u8 : pg ≤ 1522) (l9 : 0 ≤ ki) (u9 : ki ≤ 4) (l10 : (-1) ≤ st) (u10 : st ≤ 6) (l11 : (-1) ≤ cu) (u11 : cu ≤ 6) (l12 : 0 ≤ x12) (u12 : x12 ≤ 11) (l13 : 0 ≤ x13) (u13 : x13 ≤ 1522) (l14 : 0 ≤ x14) (u14 : x14 ≤ 1522) (l15 : 0 ≤ x15) (u15 : x15 ≤ 1522) (e13 : S (pg).toNat 4 = x12) (e12 : S (pg).toNat 5 = pg + 4) (e10 : (bx_up S (pg + 4).toNat x12 ki) (pg).toNat 6 = pg + 5) (e8 : (bx_up (bx_up S (pg + 4).toNat x12 ki) (pg + 5).toNat x12 st) (pg).toNat 7 = pg + 6) (e6 : (bx_up (bx_up (bx_up S (pg + 4).toNat x12 ki) (pg + 5).toNat x12 st) (pg + 6).toNat x12 cu) (pg).toNat 8 = x13) (e4 : (bx_up (bx_up (bx_up (bx_up S (pg + 4).toNat x12 ki) (pg + 5).toNat x12 st) (pg + 6).toNat x12 cu) (x13).toNat x12 ((-1))) (pg).toNat 9 = x14) (e2 : (bx_up (bx_up (bx_up (bx_up (bx_up S (pg + 4).toNat x12 ki) (pg + 5).toNat x12 st) (pg + 6).toNat x12 cu) (x13).toNat x12 ((-1))) (x14).toNat x12 ((-1))) (pg).toNat 10 = x15) : (True) ∧ rxPSOCD S0 ws (bx_up (bx_up (bx_up (bx_up (bx_up (bx_up (bx_up S (pg + 4).toNat x12 ki) (pg + 5).toNat x12 st) (pg + 6).toNat x12 cu) (x13).toNat x12 ((-1))) (x14).toNat x12 ((-1))) (x15).toNat x12 ((-1))) (pg).toNat 4 (x12 + 1)) none := by
  exact ⟨trivial, rfl, trivial⟩
theorem rxfOCD_0_1 {X : (Nat → Int → Int) → Prop} {S0 : Nat → Int → Int} {ws : List Int} (hP : rxPOCD S0 ws) : bx_obE rxL X S0 rxCOCD.2.2.1 (rxIOCD S0 ws) (rxPSOCD S0 ws) 0 rxzOCD_0 rxeOCD_0_1 := by
  intro S S_p r r_p hinv hX hin hsm_ hseg
  obtain ⟨I0, I1, h0_, hr_, b_, f_, d_⟩ := bx_cl (evs := [(1, (8, 0), (0, 4), .inr (0, (12, 1))), (1, (15, 0), (12, 0), .inr (0, (0, (-1)))), (0, (8, 0), (0, 10), .inr (3, (15, 0))), (1, (14, 0), (12, 0), .inr (0, (0, (-1)))), (0, (8, 0), (0, 9), .inr (3, (14, 0))), (1, (13, 0), (12, 0), .inr (0, (0, (-1)))), (0, (8, 0), (0, 8), .inr (3, (13, 0))), (1, (8, 6), (12, 0), .inr (0, (11, 0))), (0, (8, 0), (0, 7), .inr (3, (8, 6))), (1, (8, 5), (12, 0), .inr (0, (10, 0))), (0, (8, 0), (0, 6), .inr (3, (8, 5))), (1, (8, 4), (12, 0), .inr (0, (9, 0))), (0, (8, 0), (0, 5), .inr (3, (8, 4))), (0, (8, 0), (0, 4), .inr (0, (12, 0)))]) (fvs := []) hseg (by decide +kernel) (by decide +kernel)
  have hinv : rxIOCD_0 S0 ws S (r 8) (r 9) (r 10) (r 11) := hinv
  rw [← hr_ 8 (by decide), ← hr_ 9 (by decide), ← hr_ 10 (by decide), ← hr_ 11 (by decide)] at hinv
  obtain ⟨⟨l8, u8⟩, ⟨l9, u9⟩, ⟨l10, u10⟩, ⟨l11, u11⟩, ⟨l12, u12⟩, ⟨l13, u13⟩, ⟨l14, u14⟩, ⟨l15, u15⟩, -⟩ := b_
  obtain ⟨T0, ⟨T1, ⟨e2, ⟨T3, ⟨e4, ⟨T5, ⟨e6, ⟨T7, ⟨e8, ⟨T9, ⟨e10, ⟨T11, ⟨e12, ⟨e13, w_⟩⟩, w11⟩⟩, w9⟩⟩, w7⟩⟩, w5⟩⟩, w3⟩⟩, w1⟩, w0⟩ := d_
  subst w0
  subst w1
  subst w3
  subst w5
  subst w7
  subst w9
  subst w11
  subst w_
  have g := rxdOCD_0_1 hP hin hsm_ I0 I1 hinv l8 u8 l9 u9 l10 u10 l11 u11 l12 u12 l13 u13 l14 u14 l15 u15 e13 e12 e10 e8 e6 e4 e2
  refine ⟨bx_narP_ok (l := []) g.1, ?_⟩
  exact g.2
theorem rxgCOCD {X : (Nat → Int → Int) → Prop} {S0 : Nat → Int → Int} {ws : List Int} (hP : rxPOCD S0 ws) : bx_allI (fun i q => rxUOCD q = true ∨ bx_allP (fun o => bx_obC rxL X S0 rxCOCD.2.2.1 (rxIOCD S0 ws) (rxmOCD S0 ws) i q.1 o) q.2.1) 0 rxYOCD := ⟨Or.inr trivial, trivial⟩
theorem rxgEOCD {X : (Nat → Int → Int) → Prop} {S0 : Nat → Int → Int} {ws : List Int} (hP : rxPOCD S0 ws) : bx_allI (fun i q => rxUOCD q = true ∨ bx_allP (fun E => bx_obE rxL X S0 rxCOCD.2.2.1 (rxIOCD S0 ws) (rxPSOCD S0 ws) i q.1 E) q.2.2) 0 rxYOCD := ⟨Or.inr ⟨rxfOCD_0_0 hP, rxfOCD_0_1 hP, trivial⟩, trivial⟩
theorem rxQOCD {PX : State → Prop} {Dg : va_G} {A : Nat → Prop} {ad xa : Nat → Nat} {l : Launch} {X : (Nat → Int → Int) → Prop} (hPX : rx_PXOK rxNW A PX) (hsl : ∀ s : State, PX s → ∀ o idx n : Nat, rxSl o idx = some n → ∃ tx : String, vk_R (rxNm o) idx tx (ad n) s)
    (hX : ∀ S S_p : Nat → Int → Int, X S → bx_same rxL (bx_mdl rxCOCD.2.2.1) S S_p → X S_p)
    (ih : ∀ (j2 : Nat) (ct2 : bx_Ct) (M2 : rx_Mt), ct2 ∈ rxCnE j2 → ct2.2.2.2.1 + 1 ≤ rxCOCD.2.2.2.1 → rxT.2.2.2.2.2 j2 = some M2 → bx_Con rxG rxNW rxAO PX Dg rxL X vwCl A ad l M2 ct2) : bx_ConP rxG rxNW rxAO PX Dg rxL X vwCl A ad l rxM60 rxCOCD rxPOCD rxPSOCD :=
  rxQof (xa := xa) (Cn := rxCnE) (f := 30000) (j := 60) (tab := rxYOCD) (us := rxUOCD) hPX hsl hX ih rfl rxYcOCD rxIOCD rxmOCD
    (fun S0 ws r I0 I ht0 ht as he he1 hX0 hI0 hP hs ha => by
      have e := he.symm.trans (show bx_ent0 rxNP rxCOCD.1 bx_I0 [] = some ([(0, 0), (0, 0), (0, 0), (0, 0), (0, 0), (0, 0), (0, 0), (0, 0), (0, 1522), (0, 4), ((-1), 6), ((-1), 6)], [(((8, 0), 1000007), .inl none)], [.inr (3, (8, 0)), .inr (0, (9, 0)), .inr (0, (10, 0)), .inr (0, (11, 0))]) from rfl)
      cases e
      subst ha
      have h0 : r 0 = 0 := hs.1
      show rxIOCD_0 S0 _ S0 (r 8) (r 9) (r 10) (r 11)
      refine ⟨rfl, ?_⟩
      simp only [List.map_cons, List.map_nil, bx_xv_ok h0]
      rfl)
    (fun S0 ws hP => fun i q hq hus => absurd (show false = true from hus) Bool.false_ne_true) (fun S0 ws hP => rxgCOCD hP) (fun S0 ws hP => rxgEOCD hP)
/-! CONTRACT BY HAND, by program (wip/sim/genhand.py): DeadUnderstudies$Reader.readLawClause -/
def rxCRLC : bx_Ct := ([(3, (1, 412, 0))], some (0, (0, 0, 1)), [(6, 0), (6, 4), (7, 2), (7, 3), (7, 4), (7, 7), (7, 8), (7, 10), (1021, 0), (1022, 0), (1024, 0), (1025, 0), (1026, 0), (1027, 0), (1034, 0), (1035, 0), (1036, 0)], 8, [(412, 0, 3, (1, 411, 0)), (412, 6, 3, (1, 427, 0))])
def rxIRLC_0 (S0 : Nat → Int → Int) (ws : List Int) (S : Nat → Int → Int) : Prop := S = S0 ∧ ws = [412]
def rxmRLC_0 (S0 : Nat → Int → Int) (ws : List Int) (S : Nat → Int → Int) : Nat := 1000
def rxzRLC_0 : rx_Z := ([(0, 0), (0, 0), (0, 0), (0, 0), (0, 0), (0, 0), (0, 0), (0, 0)], [], [(((0, 412), 6), .inr (3, (0, 427))), (((0, 412), 0), .inr (3, (0, 411)))], 0, 0, 0, [(0, .inr (3, (0, 412)))], [])
def rxIRLC_1 (S0 : Nat → Int → Int) (ws : List Int) (S : Nat → Int → Int) : Prop := rzAt (rzLH (rzCut (S0 411)) (S0 412 1) (rzWs S0) (S0 412 2) (S0 412 7)) S0 S (rzLH (rzCut (S0 411)) (S0 412 1) (rzWs S0))
def rxmRLC_1 (S0 : Nat → Int → Int) (ws : List Int) (S : Nat → Int → Int) : Nat := 900
def rxzRLC_1 : rx_Z := ([(0, 0), (0, 0), (0, 0), (0, 0), (0, 0), (0, 0), (0, 0), (0, 0)], [], [(((0, 412), 0), .inr (3, (0, 411))), (((0, 412), 6), .inr (3, (0, 427)))], 0, 0, 3, [(0, .inr (3, (0, 412)))], [.inr (3, (0, 525)), .inr (3, (0, 412))])
def rxIRLC_2 (S0 : Nat → Int → Int) (ws : List Int) (S : Nat → Int → Int) (r : Int) : Prop := rzAt (rzLH (rzCut (S0 411)) (S0 412 1) (rzWs S0) (S0 412 2) (S0 412 7)) S0 S (rzLH (rzCut (S0 411)) (S0 412 1) (rzWs S0)) ∧ r = (if rzIs (rzCut (S 411)) (S 412 1) rzW_bars (S 412 2) = true then 1 else 0)
def rxmRLC_2 (S0 : Nat → Int → Int) (ws : List Int) (S : Nat → Int → Int) (r : Int) : Nat := 890
def rxzRLC_2 : rx_Z := ([(0, 0), (0, 0), (0, 0), (0, 0), (0, 0), (0, 0), (0, 0), (0, 0), (0, 1)], [], [(((0, 412), 0), .inr (3, (0, 411))), (((0, 412), 6), .inr (3, (0, 427)))], 0, 0, 6, [(0, .inr (3, (0, 412)))], [.inr (0, (8, 0))])
def rxIRLC_3 (S0 : Nat → Int → Int) (ws : List Int) (S : Nat → Int → Int) (ba : Int) : Prop := rzAt (rzLH (rzCut (S0 411)) (S0 412 1) (rzWs S0) (S0 412 2) (S0 412 7)) S0 S (rzLH (rzCut (S0 411)) (S0 412 1) (rzWs S0)) ∧ ba = (if rzIs (rzCut (S0 411)) (S0 412 1) rzW_bars (S 412 2) = true then 1 else 0)
def rxmRLC_3 (S0 : Nat → Int → Int) (ws : List Int) (S : Nat → Int → Int) (ba : Int) : Nat := 880
def rxzRLC_3 : rx_Z := ([(0, 0), (0, 0), (0, 0), (0, 0), (0, 0), (0, 0), (0, 0), (0, 0), (0, 1)], [], [(((0, 412), 0), .inr (3, (0, 411))), (((0, 412), 6), .inr (3, (0, 427)))], 0, 0, 10, [(0, .inr (3, (0, 412))), (1, .inr (0, (8, 0)))], [.inr (3, (0, 542)), .inr (3, (0, 412))])
def rxIRLC_4 (S0 : Nat → Int → Int) (ws : List Int) (S : Nat → Int → Int) (ba r : Int) : Prop := rzAt (rzLH (rzCut (S0 411)) (S0 412 1) (rzWs S0) (S0 412 2) (S0 412 7)) S0 S (rzLH (rzCut (S0 411)) (S0 412 1) (rzWs S0)) ∧ ba = (if rzIs (rzCut (S0 411)) (S0 412 1) rzW_bars (S 412 2) = true then 1 else 0) ∧ r = (if rzIs (rzCut (S 411)) (S 412 1) rzW_slips (S 412 2) = true then 1 else 0)
def rxmRLC_4 (S0 : Nat → Int → Int) (ws : List Int) (S : Nat → Int → Int) (ba r : Int) : Nat := 870
def rxzRLC_4 : rx_Z := ([(0, 0), (0, 0), (0, 0), (0, 0), (0, 0), (0, 0), (0, 0), (0, 0), (0, 1), (0, 1)], [], [(((0, 412), 0), .inr (3, (0, 411))), (((0, 412), 6), .inr (3, (0, 427)))], 0, 0, 13, [(0, .inr (3, (0, 412))), (1, .inr (0, (8, 0)))], [.inr (0, (9, 0))])
def rxIRLC_5 (S0 : Nat → Int → Int) (ws : List Int) (S : Nat → Int → Int) (ba sl : Int) : Prop := rzAt (rzLH (rzCut (S0 411)) (S0 412 1) (rzWs S0) (S0 412 2) (S0 412 7)) S0 S (rzLH (rzCut (S0 411)) (S0 412 1) (rzWs S0)) ∧ ba = 0 ∧ sl = 0 ∧ ba = (if rzIs (rzCut (S0 411)) (S0 412 1) rzW_bars (S 412 2) = true then 1 else 0) ∧ sl = (if rzIs (rzCut (S0 411)) (S0 412 1) rzW_slips (S 412 2) = true then 1 else 0)
def rxmRLC_5 (S0 : Nat → Int → Int) (ws : List Int) (S : Nat → Int → Int) (ba sl : Int) : Nat := 860
def rxzRLC_5 : rx_Z := ([(0, 0), (0, 0), (0, 0), (0, 0), (0, 0), (0, 0), (0, 0), (0, 0), (0, 1), (0, 1)], [], [(((0, 412), 0), .inr (3, (0, 411))), (((0, 412), 6), .inr (3, (0, 427)))], 0, 0, 25, [(0, .inr (3, (0, 412))), (1, .inr (0, (8, 0))), (2, .inr (0, (9, 0)))], [.inr (3, (0, 530)), .inr (3, (0, 412))])
def rxIRLC_6 (S0 : Nat → Int → Int) (ws : List Int) (S : Nat → Int → Int) (ba sl r : Int) : Prop := rzAt (rzLH (rzCut (S0 411)) (S0 412 1) (rzWs S0) (S0 412 2) (S0 412 7)) S0 S (rzLH (rzCut (S0 411)) (S0 412 1) (rzWs S0)) ∧ ba = 0 ∧ sl = 0 ∧ ba = (if rzIs (rzCut (S0 411)) (S0 412 1) rzW_bars (S 412 2) = true then 1 else 0) ∧ sl = (if rzIs (rzCut (S0 411)) (S0 412 1) rzW_slips (S 412 2) = true then 1 else 0) ∧ r = (if rzIs (rzCut (S 411)) (S 412 1) rzW_hours (S 412 2) = true then 1 else 0)
def rxmRLC_6 (S0 : Nat → Int → Int) (ws : List Int) (S : Nat → Int → Int) (ba sl r : Int) : Nat := 850
def rxzRLC_6 : rx_Z := ([(0, 0), (0, 0), (0, 0), (0, 0), (0, 0), (0, 0), (0, 0), (0, 0), (0, 1), (0, 1), (0, 1)], [], [(((0, 412), 0), .inr (3, (0, 411))), (((0, 412), 6), .inr (3, (0, 427)))], 0, 0, 28, [(0, .inr (3, (0, 412))), (1, .inr (0, (8, 0))), (2, .inr (0, (9, 0)))], [.inr (0, (10, 0))])
def rxIRLC_7 (S0 : Nat → Int → Int) (ws : List Int) (S : Nat → Int → Int) (ba sl : Int) : Prop := rzAt (rzLH (rzCut (S0 411)) (S0 412 1) (rzWs S0) (S0 412 2) (S0 412 7)) S0 S (rzLH (rzCut (S0 411)) (S0 412 1) (rzWs S0)) ∧ ((ba = 1 ∧ rzIs (rzCut (S0 411)) (S0 412 1) rzW_bars (S 412 2) = true) ∨ (ba = 0 ∧ rzIs (rzCut (S0 411)) (S0 412 1) rzW_bars (S 412 2) = false ∧ (rzIs (rzCut (S0 411)) (S0 412 1) rzW_slips (S 412 2) || rzIs (rzCut (S0 411)) (S0 412 1) rzW_hours (S 412 2)) = true))
def rxmRLC_7 (S0 : Nat → Int → Int) (ws : List Int) (S : Nat → Int → Int) (ba sl : Int) : Nat := 840
def rxzRLC_7 : rx_Z := ([(0, 0), (0, 0), (0, 0), (0, 0), (0, 0), (0, 0), (0, 0), (0, 0), (0, 1), (0, 1)], [], [(((0, 412), 0), .inr (3, (0, 411))), (((0, 412), 6), .inr (3, (0, 427)))], 0, 0, 37, [(0, .inr (3, (0, 412))), (1, .inr (0, (8, 0))), (2, .inr (0, (9, 0)))], [.inr (3, (0, 412))])
def rxIRLC_8 (S0 : Nat → Int → Int) (ws : List Int) (S : Nat → Int → Int) (ba sl : Int) : Prop := rzAt (rzLH (rzCut (S0 411)) (S0 412 1) (rzWs S0) (S0 412 2) (S0 412 7)) S0 S ((fun f lf r => rzAlt (decide (ba = 1)) (r = (true, f, lf)) (rzEx (rzCut (S0 411)) (S0 412 1) (rzWs S0) 0 f lf r)))
def rxmRLC_8 (S0 : Nat → Int → Int) (ws : List Int) (S : Nat → Int → Int) (ba sl : Int) : Nat := 830
def rxzRLC_8 : rx_Z := ([(0, 0), (0, 0), (0, 0), (0, 0), (0, 0), (0, 0), (0, 0), (0, 0), (0, 1), (0, 1)], [], [(((0, 412), 0), .inr (3, (0, 411))), (((0, 412), 6), .inr (3, (0, 427)))], 0, 0, 40, [(0, .inr (3, (0, 412))), (1, .inr (0, (8, 0))), (2, .inr (0, (9, 0)))], [])
def rxIRLC_9 (S0 : Nat → Int → Int) (ws : List Int) (S : Nat → Int → Int) (ba sl ki : Int) : Prop := rzAt (rzLH (rzCut (S0 411)) (S0 412 1) (rzWs S0) (S0 412 2) (S0 412 7)) S0 S ((fun f lf r => rzAlt (decide (ba = 1)) (r = (true, f, lf)) (rzEx (rzCut (S0 411)) (S0 412 1) (rzWs S0) 0 f lf r)))
def rxmRLC_9 (S0 : Nat → Int → Int) (ws : List Int) (S : Nat → Int → Int) (ba sl ki : Int) : Nat := 820
def rxzRLC_9 : rx_Z := ([(0, 0), (0, 0), (0, 0), (0, 0), (0, 0), (0, 0), (0, 0), (0, 0), (0, 1), (0, 1), (0, 4)], [], [(((0, 412), 0), .inr (3, (0, 411))), (((0, 412), 6), .inr (3, (0, 427)))], 0, 0, 63, [(0, .inr (3, (0, 412))), (1, .inr (0, (8, 0))), (2, .inr (0, (9, 0)))], [.inr (0, (0, (-1))), .inr (0, (0, (-1))), .inr (0, (10, 0)), .inr (3, (0, 427))])
def rxIRLC_10 (S0 : Nat → Int → Int) (ws : List Int) (S : Nat → Int → Int) (ba sl ki : Int) : Prop := rzAt (rzLH (rzCut (S0 411)) (S0 412 1) (rzWs S0) (S0 412 2) (S0 412 7)) S0 S ((fun f lf r => rzAlt (decide (ba = 1)) (r = (true, f, lf)) (rzEx (rzCut (S0 411)) (S0 412 1) (rzWs S0) 0 f lf r)))
def rxmRLC_10 (S0 : Nat → Int → Int) (ws : List Int) (S : Nat → Int → Int) (ba sl ki : Int) : Nat := 810
def rxzRLC_10 : rx_Z := ([(0, 0), (0, 0), (0, 0), (0, 0), (0, 0), (0, 0), (0, 0), (0, 0), (0, 1), (0, 1), (0, 4)], [], [(((0, 412), 0), .inr (3, (0, 411))), (((0, 412), 6), .inr (3, (0, 427)))], 0, 0, 66, [(0, .inr (3, (0, 412))), (1, .inr (0, (8, 0))), (2, .inr (0, (9, 0)))], [])
def rxIRLC_11 (S0 : Nat → Int → Int) (ws : List Int) (S : Nat → Int → Int) (ba sl sa : Int) : Prop := rzAt (rzLH (rzCut (S0 411)) (S0 412 1) (rzWs S0) (S0 412 2) (S0 412 7)) S0 S (rzEx (rzCut (S0 411)) (S0 412 1) (rzWs S0) 0)
def rxmRLC_11 (S0 : Nat → Int → Int) (ws : List Int) (S : Nat → Int → Int) (ba sl sa : Int) : Nat := 700
def rxzRLC_11 : rx_Z := ([(0, 0), (0, 0), (0, 0), (0, 0), (0, 0), (0, 0), (0, 0), (0, 0), (0, 1), (0, 1), (0, 1522)], [], [(((10, 0), 1000014), .inl none), (((0, 412), 0), .inr (3, (0, 411))), (((0, 412), 6), .inr (3, (0, 427)))], 0, 0, 79, [(0, .inr (3, (0, 412))), (1, .inr (0, (8, 0))), (2, .inr (0, (9, 0)))], [.inr (0, (0, 0)), .inr (3, (10, 0)), .inr (3, (0, 412))])
def rxIRLC_12 (S0 : Nat → Int → Int) (ws : List Int) (S : Nat → Int → Int) (ba sl sa res : Int) : Prop := rzOc (rzLH (rzCut (S0 411)) (S0 412 1) (rzWs S0) (S0 412 2) (S0 412 7)) S0 S (some res)
def rxmRLC_12 (S0 : Nat → Int → Int) (ws : List Int) (S : Nat → Int → Int) (ba sl sa res : Int) : Nat := 690
def rxzRLC_12 : rx_Z := ([(0, 0), (0, 0), (0, 0), (0, 0), (0, 0), (0, 0), (0, 0), (0, 0), (0, 1), (0, 1), (0, 1522), (0, 1)], [], [(((10, 0), 1000014), .inl none), (((0, 412), 0), .inr (3, (0, 411))), (((0, 412), 6), .inr (3, (0, 427)))], 0, 0, 82, [(0, .inr (3, (0, 412))), (1, .inr (0, (8, 0))), (2, .inr (0, (9, 0)))], [.inr (0, (11, 0))])
def rxoRLC_0_0 : bx_HO := (([(0, 0), (0, 0), (0, 0), (0, 0), (0, 0), (0, 0), (0, 0), (0, 0)], [], [(((0, 412), 6), .inr (3, (0, 427))), (((0, 412), 0), .inr (3, (0, 411)))], 0, 0, 3, [(0, .inr (3, (0, 412)))], [.inr (3, (0, 525)), .inr (3, (0, 412))]), [], [], [(0, 0), (0, 0), (0, 0), (0, 0), (0, 0), (0, 0), (0, 0), (0, 0)], 1)
def rxoRLC_2_0 : bx_HO := (([(0, 0), (0, 0), (0, 0), (0, 0), (0, 0), (0, 0), (0, 0), (0, 0), (0, 1)], [], [(((0, 412), 0), .inr (3, (0, 411))), (((0, 412), 6), .inr (3, (0, 427)))], 0, 0, 10, [(1, .inr (0, (8, 0))), (0, .inr (3, (0, 412)))], [.inr (3, (0, 542)), .inr (3, (0, 412))]), [], [], [(0, 0), (0, 0), (0, 0), (0, 0), (0, 0), (0, 0), (0, 0), (0, 0), (8, 0)], 3)
def rxoRLC_4_0 : bx_HO := (([(0, 0), (0, 0), (0, 0), (0, 0), (0, 0), (0, 0), (0, 0), (0, 0), (0, 0), (0, 0)], [], [(((0, 412), 0), .inr (3, (0, 411))), (((0, 412), 6), .inr (3, (0, 427)))], 0, 0, 25, [(2, .inr (0, (9, 0))), (0, .inr (3, (0, 412))), (1, .inr (0, (8, 0)))], [.inr (3, (0, 530)), .inr (3, (0, 412))]), [], [], [(0, 0), (0, 0), (0, 0), (0, 0), (0, 0), (0, 0), (0, 0), (0, 0), (8, 0), (9, 0)], 5)
def rxoRLC_4_1 : bx_HO := (([(0, 0), (0, 0), (0, 0), (0, 0), (0, 0), (0, 0), (0, 0), (0, 0), (0, 0), (1, 1)], [(3, (9, 0), (0, 0))], [(((0, 412), 0), .inr (3, (0, 411))), (((0, 412), 6), .inr (3, (0, 427)))], 0, 0, 37, [(2, .inr (0, (9, 0))), (0, .inr (3, (0, 412))), (1, .inr (0, (8, 0)))], [.inr (3, (0, 412))]), [], [], [(0, 0), (0, 0), (0, 0), (0, 0), (0, 0), (0, 0), (0, 0), (0, 0), (8, 0), (9, 0)], 7)
def rxoRLC_4_2 : bx_HO := (([(0, 0), (0, 0), (0, 0), (0, 0), (0, 0), (0, 0), (0, 0), (0, 0), (1, 1), (0, 1)], [(3, (8, 0), (0, 0))], [(((0, 412), 0), .inr (3, (0, 411))), (((0, 412), 6), .inr (3, (0, 427)))], 0, 0, 37, [(2, .inr (0, (9, 0))), (0, .inr (3, (0, 412))), (1, .inr (0, (8, 0)))], [.inr (3, (0, 412))]), [], [], [(0, 0), (0, 0), (0, 0), (0, 0), (0, 0), (0, 0), (0, 0), (0, 0), (8, 0), (9, 0)], 7)
def rxoRLC_6_0 : bx_HO := (([(0, 0), (0, 0), (0, 0), (0, 0), (0, 0), (0, 0), (0, 0), (0, 0), (0, 1), (0, 1), (1, 1)], [(3, (10, 0), (0, 0))], [(((0, 412), 0), .inr (3, (0, 411))), (((0, 412), 6), .inr (3, (0, 427)))], 0, 0, 37, [(0, .inr (3, (0, 412))), (1, .inr (0, (8, 0))), (2, .inr (0, (9, 0)))], [.inr (3, (0, 412))]), [], [], [(0, 0), (0, 0), (0, 0), (0, 0), (0, 0), (0, 0), (0, 0), (0, 0), (8, 0), (9, 0)], 7)
def rxeRLC_6_0 : rx_End × List (Nat × Int × Int) := (([(0, 0), (0, 0), (0, 0), (0, 0), (0, 0), (0, 0), (0, 0), (0, 0), (0, 1), (0, 1), (0, 0), (0, 400)], [], [(((0, 0), 1851192626986356798227167157524121751206303872841384192011665411000000), .inr (0, (11, 0))), (((0, 412), 4), .inr (0, (11, 0))), (((0, 0), 1851192626986356797825753743950570534658660943933713684904017920000000), .inr (0, (11, 0))), (((0, 412), 2), .inr (0, (11, 0))), (((0, 412), 0), .inr (3, (0, 411))), (((0, 412), 6), .inr (3, (0, 427)))], some (.inr (0, (0, 0)))), [])
def rxoRLC_8_0 : bx_HO := (([(0, 0), (0, 0), (0, 0), (0, 0), (0, 0), (0, 0), (0, 0), (0, 0), (1, 1), (0, 1)], [(3, (8, 0), (0, 0))], [(((0, 412), 0), .inr (3, (0, 411))), (((0, 412), 6), .inr (3, (0, 427)))], 0, 0, 63, [(0, .inr (3, (0, 412))), (1, .inr (0, (8, 0))), (2, .inr (0, (9, 0)))], [.inr (0, (0, (-1))), .inr (0, (0, (-1))), .inr (0, (0, 2)), .inr (3, (0, 427))]), [], [], [(0, 0), (0, 0), (0, 0), (0, 0), (0, 0), (0, 0), (0, 0), (0, 0), (8, 0), (9, 0), (0, 2)], 9)
def rxoRLC_8_1 : bx_HO := (([(0, 0), (0, 0), (0, 0), (0, 0), (0, 0), (0, 0), (0, 0), (0, 0), (0, 0), (1, 1)], [(3, (9, 0), (0, 0))], [(((0, 412), 0), .inr (3, (0, 411))), (((0, 412), 6), .inr (3, (0, 427)))], 0, 0, 63, [(0, .inr (3, (0, 412))), (1, .inr (0, (8, 0))), (2, .inr (0, (9, 0)))], [.inr (0, (0, (-1))), .inr (0, (0, (-1))), .inr (0, (0, 0)), .inr (3, (0, 427))]), [], [], [(0, 0), (0, 0), (0, 0), (0, 0), (0, 0), (0, 0), (0, 0), (0, 0), (8, 0), (9, 0), (0, 0)], 9)
def rxoRLC_8_2 : bx_HO := (([(0, 0), (0, 0), (0, 0), (0, 0), (0, 0), (0, 0), (0, 0), (0, 0), (0, 0), (0, 0)], [], [(((0, 412), 0), .inr (3, (0, 411))), (((0, 412), 6), .inr (3, (0, 427)))], 0, 0, 63, [(0, .inr (3, (0, 412))), (1, .inr (0, (8, 0))), (2, .inr (0, (9, 0)))], [.inr (0, (0, (-1))), .inr (0, (0, (-1))), .inr (0, (0, 1)), .inr (3, (0, 427))]), [], [], [(0, 0), (0, 0), (0, 0), (0, 0), (0, 0), (0, 0), (0, 0), (0, 0), (8, 0), (9, 0), (0, 1)], 9)
def rxoRLC_10_0 : bx_HO := (([(0, 0), (0, 0), (0, 0), (0, 0), (0, 0), (0, 0), (0, 0), (0, 0), (0, 0), (0, 1), (0, 4), (0, 1522)], [], [(((0, 0), 1851192626986356799029993984671224184301589730656725206235807744000000), .inr (3, (11, 0))), (((0, 427), 8), .inr (3, (11, 0))), (((11, 0), 1000014), .inl none), (((0, 412), 0), .inr (3, (0, 411))), (((0, 412), 6), .inr (3, (0, 427)))], 0, 0, 79, [(0, .inr (3, (0, 412))), (1, .inr (0, (8, 0))), (2, .inr (0, (9, 0)))], [.inr (0, (0, 0)), .inr (3, (11, 0)), .inr (3, (0, 412))]), [], [], [(0, 0), (0, 0), (0, 0), (0, 0), (0, 0), (0, 0), (0, 0), (0, 0), (8, 0), (9, 0), (11, 0)], 11)
def rxeRLC_10_0 : rx_End × List (Nat × Int × Int) := (([(0, 0), (0, 0), (0, 0), (0, 0), (0, 0), (0, 0), (0, 0), (0, 0), (1, 1), (0, 1), (0, 4)], [(3, (8, 0), (0, 0))], [(((0, 412), 0), .inr (3, (0, 411))), (((0, 412), 6), .inr (3, (0, 427)))], some (.inr (0, (0, 1)))), [])
def rxeRLC_12_0 : rx_End × List (Nat × Int × Int) := (([(0, 0), (0, 0), (0, 0), (0, 0), (0, 0), (0, 0), (0, 0), (0, 0), (0, 1), (0, 1), (0, 1522), (1, 1)], [(3, (11, 0), (0, 0))], [(((10, 0), 1000014), .inl none), (((0, 412), 0), .inr (3, (0, 411))), (((0, 412), 6), .inr (3, (0, 427)))], some (.inr (0, (0, 1)))), [])
def rxeRLC_12_1 : rx_End × List (Nat × Int × Int) := (([(0, 0), (0, 0), (0, 0), (0, 0), (0, 0), (0, 0), (0, 0), (0, 0), (0, 1), (0, 1), (0, 1522), (0, 0)], [], [(((10, 0), 1000014), .inl none), (((0, 412), 0), .inr (3, (0, 411))), (((0, 412), 6), .inr (3, (0, 427)))], some (.inr (0, (0, 0)))), [])
def rxYRLC : List bx_HE := [(rxzRLC_0, [rxoRLC_0_0], []), (rxzRLC_1, [], []), (rxzRLC_2, [rxoRLC_2_0], []), (rxzRLC_3, [], []), (rxzRLC_4, [rxoRLC_4_0, rxoRLC_4_1, rxoRLC_4_2], []), (rxzRLC_5, [], []), (rxzRLC_6, [rxoRLC_6_0], [rxeRLC_6_0]), (rxzRLC_7, [], []), (rxzRLC_8, [rxoRLC_8_0, rxoRLC_8_1, rxoRLC_8_2], []), (rxzRLC_9, [], []), (rxzRLC_10, [rxoRLC_10_0], [rxeRLC_10_0]), (rxzRLC_11, [], []), (rxzRLC_12, [], [rxeRLC_12_0, rxeRLC_12_1])]
def rxURLC (q : bx_HE) : Bool := Nat.beq (rx_zpc q.1) 3 || Nat.beq (rx_zpc q.1) 10 || Nat.beq (rx_zpc q.1) 25 || Nat.beq (rx_zpc q.1) 37 || Nat.beq (rx_zpc q.1) 63 || Nat.beq (rx_zpc q.1) 79
def rxYBRLC : bx_B := (rxV, rxNP, rxDmf, bx_mdH rxCRLC.2.2.1)
set_option maxRecDepth 100000 in
theorem rxYcRLC : bx_chkH rxYBRLC rxM86 rxCRLC rxYRLC (rxURLC, fun cut z => rx_ex2 (rxCT rxYBRLC rxCnE) cut 30000 rxCRLC.2.2.2.1 86 z) = true := by decide +kernel
def rxIRLC (S0 : Nat → Int → Int) (ws : List Int) (i : Nat) : bx_SP := fun S r => match i with | 0 => rxIRLC_0 S0 ws S | 1 => rxIRLC_1 S0 ws S | 2 => rxIRLC_2 S0 ws S (r 8) | 3 => rxIRLC_3 S0 ws S (r 8) | 4 => rxIRLC_4 S0 ws S (r 8) (r 9) | 5 => rxIRLC_5 S0 ws S (r 8) (r 9) | 6 => rxIRLC_6 S0 ws S (r 8) (r 9) (r 10) | 7 => rxIRLC_7 S0 ws S (r 8) (r 9) | 8 => rxIRLC_8 S0 ws S (r 8) (r 9) | 9 => rxIRLC_9 S0 ws S (r 8) (r 9) (r 10) | 10 => rxIRLC_10 S0 ws S (r 8) (r 9) (r 10) | 11 => rxIRLC_11 S0 ws S (r 8) (r 9) (r 10) | 12 => rxIRLC_12 S0 ws S (r 8) (r 9) (r 10) (r 11) | _ => False
def rxmRLC (S0 : Nat → Int → Int) (ws : List Int) (i : Nat) (S : Nat → Int → Int) (r : Nat → Int) : Nat := match i with | 0 => rxmRLC_0 S0 ws S | 1 => rxmRLC_1 S0 ws S | 2 => rxmRLC_2 S0 ws S (r 8) | 3 => rxmRLC_3 S0 ws S (r 8) | 4 => rxmRLC_4 S0 ws S (r 8) (r 9) | 5 => rxmRLC_5 S0 ws S (r 8) (r 9) | 6 => rxmRLC_6 S0 ws S (r 8) (r 9) (r 10) | 7 => rxmRLC_7 S0 ws S (r 8) (r 9) | 8 => rxmRLC_8 S0 ws S (r 8) (r 9) | 9 => rxmRLC_9 S0 ws S (r 8) (r 9) (r 10) | 10 => rxmRLC_10 S0 ws S (r 8) (r 9) (r 10) | 11 => rxmRLC_11 S0 ws S (r 8) (r 9) (r 10) | 12 => rxmRLC_12 S0 ws S (r 8) (r 9) (r 10) (r 11) | _ => 0
def rxPRLC (S0 : Nat → Int → Int) (ws : List Int) : Prop := rzDt S0
def rxPSRLC (S0 : Nat → Int → Int) (ws : List Int) (S : Nat → Int → Int) (w : Option Int) : Prop := rzOc (rzLH (rzCut (S0 411)) (S0 412 1) (rzWs S0) (S0 412 2) (S0 412 7)) S0 S w
theorem rxkRLC_1 {S0 : Nat → Int → Int} {ws : List Int} {S : Nat → Int → Int} (hP : rxPRLC S0 ws) (hin : bx_same rxL (bx_mdl rxCRLC.2.2.1) S0 S) (I0 : bx_Inv rxL S) (hinv : rxIRLC_1 S0 ws S)  : rxPIWX S [412, 525] ∧ ∀ (S_p : Nat → Int → Int) (r : Int), 0 ≤ r → r ≤ 1 → rxPSIWX S [412, 525] S_p (some r) → bx_Inv rxL S_p → bx_same rxL (bx_mdl rxC59.2.2.1) S S_p → rxIRLC_2 S0 ws S_p r ∧ rxmRLC_2 S0 ws S_p r < rxmRLC_1 S0 ws S := by
  obtain ⟨hA1, hA2, hA3⟩ := hinv
  have hD := hA2
  refine ⟨⟨rzDt.s3 hD, 525, rfl, by omega, by omega⟩, fun S_p r _ _ hq _ _ => ⟨?_, by unfold rxmRLC_1 rxmRLC_2; omega⟩⟩
  obtain ⟨rfl, k, hk, hr⟩ := hq
  have hk : (525 : Int) = k := Option.some.inj (congrArg (fun l : List Int => l[1]?) hk)
  subst hk
  have hr := Option.some.inj hr
  rw [hD.1] at hr
  exact ⟨⟨hA1, hA2, hA3⟩, hr⟩
theorem rxsRLC_1 {X : (Nat → Int → Int) → Prop} {S0 : Nat → Int → Int} {ws : List Int} (hP : rxPRLC S0 ws) : rx_obK X S0 rxCRLC.2.2.1 rxC59.2.2.1 (rxIRLC S0 ws) (rxmRLC S0 ws) 1 2 rxzRLC_1 rxzRLC_2 [.inr (3, (0, 412)), .inr (3, (0, 525))] (some 8) rxPIWX rxPSIWX := by
  intro S r hinv hXS I0 hin hs_ hf_
  have b_ := bx_bds_sat hs_
  have f_ := bx_fcl_ok hs_.1 hf_
  have g := rxkRLC_1 hP hin I0 hinv 
  have ea : List.map (bx_num r) [.inr (3, (0, 412)), .inr (3, (0, 525))] = [412, 525] := by
    simp only [List.map_cons, List.map_nil, bx_xv_ok hs_.1]
    rfl
  rw [ea]
  refine ⟨g.1, fun S_p w r_p hPS hX_p I1 hsm hr hw hs_p => ?_⟩
  have hw := hw _ rfl
  subst hw
  have b_p := hs_p.2.2 8 _ _ rfl
  have g2 := g.2 S_p (r_p 8) b_p.1 b_p.2 hPS I1 hsm
  show rxIRLC_2 S0 ws S_p (r_p 8) ∧ rxmRLC_2 S0 ws S_p (r_p 8) < _
  exact g2
theorem rxkRLC_3 {S0 : Nat → Int → Int} {ws : List Int} {S : Nat → Int → Int} {ba : Int} (hP : rxPRLC S0 ws) (hin : bx_same rxL (bx_mdl rxCRLC.2.2.1) S0 S) (I0 : bx_Inv rxL S) (hinv : rxIRLC_3 S0 ws S ba) (l8 : 0 ≤ ba) (u8 : ba ≤ 1) : rxPIWX S [412, 542] ∧ ∀ (S_p : Nat → Int → Int) (r : Int), 0 ≤ r → r ≤ 1 → rxPSIWX S [412, 542] S_p (some r) → bx_Inv rxL S_p → bx_same rxL (bx_mdl rxC59.2.2.1) S S_p → rxIRLC_4 S0 ws S_p ba r ∧ rxmRLC_4 S0 ws S_p ba r < rxmRLC_3 S0 ws S ba := by
  obtain ⟨hA, h1⟩ := hinv
  have hD := hA.2.1
  refine ⟨⟨rzDt.s3 hD, 542, rfl, by omega, by omega⟩, fun S_p r _ _ hq _ _ => ⟨?_, by unfold rxmRLC_3 rxmRLC_4; omega⟩⟩
  obtain ⟨rfl, k, hk, hr⟩ := hq
  have hk : (542 : Int) = k := Option.some.inj (congrArg (fun l : List Int => l[1]?) hk)
  subst hk
  have hr := Option.some.inj hr
  rw [hD.1] at hr
  exact ⟨hA, h1, hr⟩
theorem rxsRLC_3 {X : (Nat → Int → Int) → Prop} {S0 : Nat → Int → Int} {ws : List Int} (hP : rxPRLC S0 ws) : rx_obK X S0 rxCRLC.2.2.1 rxC59.2.2.1 (rxIRLC S0 ws) (rxmRLC S0 ws) 3 4 rxzRLC_3 rxzRLC_4 [.inr (3, (0, 412)), .inr (3, (0, 542))] (some 9) rxPIWX rxPSIWX := by
  intro S r hinv hXS I0 hin hs_ hf_
  have b_ := bx_bds_sat hs_
  have f_ := bx_fcl_ok hs_.1 hf_
  obtain ⟨⟨l8, u8⟩, -⟩ := b_
  have g := rxkRLC_3 hP hin I0 hinv l8 u8
  have ea : List.map (bx_num r) [.inr (3, (0, 412)), .inr (3, (0, 542))] = [412, 542] := by
    simp only [List.map_cons, List.map_nil, bx_xv_ok hs_.1]
    rfl
  rw [ea]
  refine ⟨g.1, fun S_p w r_p hPS hX_p I1 hsm hr hw hs_p => ?_⟩
  have hw := hw _ rfl
  subst hw
  have b_p := hs_p.2.2 9 _ _ rfl
  have g2 := g.2 S_p (r_p 9) b_p.1 b_p.2 hPS I1 hsm
  show rxIRLC_4 S0 ws S_p (r_p 8) (r_p 9) ∧ rxmRLC_4 S0 ws S_p (r_p 8) (r_p 9) < _
  rw [hr 8 (by decide)]
  exact g2
theorem rxkRLC_5 {S0 : Nat → Int → Int} {ws : List Int} {S : Nat → Int → Int} {ba sl : Int} (hP : rxPRLC S0 ws) (hin : bx_same rxL (bx_mdl rxCRLC.2.2.1) S0 S) (I0 : bx_Inv rxL S) (hinv : rxIRLC_5 S0 ws S ba sl) (l8 : 0 ≤ ba) (u8 : ba ≤ 1) (l9 : 0 ≤ sl) (u9 : sl ≤ 1) : rxPIWX S [412, 530] ∧ ∀ (S_p : Nat → Int → Int) (r : Int), 0 ≤ r → r ≤ 1 → rxPSIWX S [412, 530] S_p (some r) → bx_Inv rxL S_p → bx_same rxL (bx_mdl rxC59.2.2.1) S S_p → rxIRLC_6 S0 ws S_p ba sl r ∧ rxmRLC_6 S0 ws S_p ba sl r < rxmRLC_5 S0 ws S ba sl := by
  obtain ⟨hA, z1, z2, h1, h2⟩ := hinv
  have hD := hA.2.1
  refine ⟨⟨rzDt.s3 hD, 530, rfl, by omega, by omega⟩, fun S_p r _ _ hq _ _ => ⟨?_, by unfold rxmRLC_5 rxmRLC_6; omega⟩⟩
  obtain ⟨rfl, k, hk, hr⟩ := hq
  have hk : (530 : Int) = k := Option.some.inj (congrArg (fun l : List Int => l[1]?) hk)
  subst hk
  have hr := Option.some.inj hr
  rw [hD.1] at hr
  exact ⟨hA, z1, z2, h1, h2, hr⟩
theorem rxsRLC_5 {X : (Nat → Int → Int) → Prop} {S0 : Nat → Int → Int} {ws : List Int} (hP : rxPRLC S0 ws) : rx_obK X S0 rxCRLC.2.2.1 rxC59.2.2.1 (rxIRLC S0 ws) (rxmRLC S0 ws) 5 6 rxzRLC_5 rxzRLC_6 [.inr (3, (0, 412)), .inr (3, (0, 530))] (some 10) rxPIWX rxPSIWX := by
  intro S r hinv hXS I0 hin hs_ hf_
  have b_ := bx_bds_sat hs_
  have f_ := bx_fcl_ok hs_.1 hf_
  obtain ⟨⟨l8, u8⟩, ⟨l9, u9⟩, -⟩ := b_
  have g := rxkRLC_5 hP hin I0 hinv l8 u8 l9 u9
  have ea : List.map (bx_num r) [.inr (3, (0, 412)), .inr (3, (0, 530))] = [412, 530] := by
    simp only [List.map_cons, List.map_nil, bx_xv_ok hs_.1]
    rfl
  rw [ea]
  refine ⟨g.1, fun S_p w r_p hPS hX_p I1 hsm hr hw hs_p => ?_⟩
  have hw := hw _ rfl
  subst hw
  have b_p := hs_p.2.2 10 _ _ rfl
  have g2 := g.2 S_p (r_p 10) b_p.1 b_p.2 hPS I1 hsm
  show rxIRLC_6 S0 ws S_p (r_p 8) (r_p 9) (r_p 10) ∧ rxmRLC_6 S0 ws S_p (r_p 8) (r_p 9) (r_p 10) < _
  rw [hr 8 (by decide), hr 9 (by decide)]
  exact g2
theorem rxkRLC_7 {S0 : Nat → Int → Int} {ws : List Int} {S : Nat → Int → Int} {ba sl : Int} (hP : rxPRLC S0 ws) (hin : bx_same rxL (bx_mdl rxCRLC.2.2.1) S0 S) (I0 : bx_Inv rxL S) (hinv : rxIRLC_7 S0 ws S ba sl) (l8 : 0 ≤ ba) (u8 : ba ≤ 1) (l9 : 0 ≤ sl) (u9 : sl ≤ 1) : rxPAD S [412] ∧ ∀ (S_p : Nat → Int → Int), rxPSAD S [412] S_p none → bx_Inv rxL S_p → bx_same rxL (bx_mdl rxC84.2.2.1) S S_p → rxIRLC_8 S0 ws S_p ba sl ∧ rxmRLC_8 S0 ws S_p ba sl < rxmRLC_7 S0 ws S ba sl := by
  obtain ⟨hA, hc⟩ := hinv
  refine ⟨trivial, fun S_p hq _ hsm => ⟨rzAt_ad hA hsm (by decide +kernel) (by decide +kernel) (by decide +kernel) (by decide +kernel) (by decide +kernel) hq.2.1 hq.2.2 (fun r q => ?_), by unfold rxmRLC_7 rxmRLC_8; omega⟩⟩
  rcases hc with ⟨b1, b2⟩ | ⟨b1, b2, b3⟩
  · rcases q with ⟨c1, c2⟩ | ⟨c1, c2⟩
    · exact rzAlt_y b2 c2
    · exact absurd b1 (of_decide_eq_false c1)
  · rcases q with ⟨c1, c2⟩ | ⟨c1, c2⟩
    · have c3 := of_decide_eq_true c1
      omega
    · exact rzAlt_n b2 (rzAlt_y b3 c2)
theorem rxsRLC_7 {X : (Nat → Int → Int) → Prop} {S0 : Nat → Int → Int} {ws : List Int} (hP : rxPRLC S0 ws) : rx_obK X S0 rxCRLC.2.2.1 rxC84.2.2.1 (rxIRLC S0 ws) (rxmRLC S0 ws) 7 8 rxzRLC_7 rxzRLC_8 [.inr (3, (0, 412))] none rxPAD rxPSAD := by
  intro S r hinv hXS I0 hin hs_ hf_
  have b_ := bx_bds_sat hs_
  have f_ := bx_fcl_ok hs_.1 hf_
  obtain ⟨⟨l8, u8⟩, ⟨l9, u9⟩, -⟩ := b_
  have g := rxkRLC_7 hP hin I0 hinv l8 u8 l9 u9
  have ea : List.map (bx_num r) [.inr (3, (0, 412))] = [412] := by
    simp only [List.map_cons, List.map_nil, bx_xv_ok hs_.1]
    rfl
  rw [ea]
  refine ⟨g.1, fun S_p w r_p hPS hX_p I1 hsm hr hw hs_p => ?_⟩
  have hw : w = none := hPS.1
  subst hw
  have g2 := g.2 S_p hPS I1 hsm
  show rxIRLC_8 S0 ws S_p (r_p 8) (r_p 9) ∧ rxmRLC_8 S0 ws S_p (r_p 8) (r_p 9) < _
  rw [hr 8 (by decide), hr 9 (by decide)]
  exact g2
theorem rxkRLC_9 {S0 : Nat → Int → Int} {ws : List Int} {S : Nat → Int → Int} {ba sl ki : Int} (hP : rxPRLC S0 ws) (hin : bx_same rxL (bx_mdl rxCRLC.2.2.1) S0 S) (I0 : bx_Inv rxL S) (hinv : rxIRLC_9 S0 ws S ba sl ki) (l8 : 0 ≤ ba) (u8 : ba ≤ 1) (l9 : 0 ≤ sl) (u9 : sl ≤ 1) (l10 : 0 ≤ ki) (u10 : ki ≤ 4) : rxPOCD S [427, ki, (-1), (-1)] ∧ ∀ (S_p : Nat → Int → Int), rxPSOCD S [427, ki, (-1), (-1)] S_p none → bx_Inv rxL S_p → bx_same rxL (bx_mdl rxCOCD.2.2.1) S S_p → rxIRLC_10 S0 ws S_p ba sl ki ∧ rxmRLC_10 S0 ws S_p ba sl ki < rxmRLC_9 S0 ws S ba sl ki := by
  obtain ⟨hA1, hA2, hA3⟩ := hinv
  have hA : rzAt (rzLH (rzCut (S0 411)) (S0 412 1) (rzWs S0) (S0 412 2) (S0 412 7)) S0 S ((fun f lf r => rzAlt (decide (ba = 1)) (r = (true, f, lf)) (rzEx (rzCut (S0 411)) (S0 412 1) (rzWs S0) 0 f lf r))) := ⟨hA1, hA2, hA3⟩
  refine ⟨trivial, fun S_p hq _ hsm => ⟨rzAt_sm hA hsm (by decide +kernel) (by decide +kernel) (by decide +kernel) (by decide +kernel) (by decide +kernel) (by decide +kernel) (by decide +kernel), by unfold rxmRLC_9 rxmRLC_10; omega⟩⟩
theorem rxsRLC_9 {X : (Nat → Int → Int) → Prop} {S0 : Nat → Int → Int} {ws : List Int} (hP : rxPRLC S0 ws) : rx_obK X S0 rxCRLC.2.2.1 rxCOCD.2.2.1 (rxIRLC S0 ws) (rxmRLC S0 ws) 9 10 rxzRLC_9 rxzRLC_10 [.inr (3, (0, 427)), .inr (0, (10, 0)), .inr (0, (0, (-1))), .inr (0, (0, (-1)))] none rxPOCD rxPSOCD := by
  intro S r hinv hXS I0 hin hs_ hf_
  have b_ := bx_bds_sat hs_
  have f_ := bx_fcl_ok hs_.1 hf_
  obtain ⟨⟨l8, u8⟩, ⟨l9, u9⟩, ⟨l10, u10⟩, -⟩ := b_
  have g := rxkRLC_9 hP hin I0 hinv l8 u8 l9 u9 l10 u10
  have ea : List.map (bx_num r) [.inr (3, (0, 427)), .inr (0, (10, 0)), .inr (0, (0, (-1))), .inr (0, (0, (-1)))] = [427, (r 10), -1, -1] := by
    simp only [List.map_cons, List.map_nil, bx_xv_ok hs_.1]
    rfl
  rw [ea]
  refine ⟨g.1, fun S_p w r_p hPS hX_p I1 hsm hr hw hs_p => ?_⟩
  have hw : w = none := hPS.1
  subst hw
  have g2 := g.2 S_p hPS I1 hsm
  show rxIRLC_10 S0 ws S_p (r_p 8) (r_p 9) (r_p 10) ∧ rxmRLC_10 S0 ws S_p (r_p 8) (r_p 9) (r_p 10) < _
  rw [hr 8 (by decide), hr 9 (by decide), hr 10 (by decide)]
  exact g2
theorem rxkRLC_11 {S0 : Nat → Int → Int} {ws : List Int} {S : Nat → Int → Int} {ba sl sa : Int} (hP : rxPRLC S0 ws) (hin : bx_same rxL (bx_mdl rxCRLC.2.2.1) S0 S) (I0 : bx_Inv rxL S) (hinv : rxIRLC_11 S0 ws S ba sl sa) (l8 : 0 ≤ ba) (u8 : ba ≤ 1) (l9 : 0 ≤ sl) (u9 : sl ≤ 1) (l10 : 0 ≤ sa) (u10 : sa ≤ 1522) : rxPRED S [412, sa, 0] ∧ ∀ (S_p : Nat → Int → Int) (res : Int), 0 ≤ res → res ≤ 1 → rxPSRED S [412, sa, 0] S_p (some res) → bx_Inv rxL S_p → bx_same rxL (bx_mdl rxCRED.2.2.1) S S_p → rxIRLC_12 S0 ws S_p ba sl sa res ∧ rxmRLC_12 S0 ws S_p ba sl sa res < rxmRLC_11 S0 ws S ba sl sa := by
  obtain ⟨hA1, hA2, hA3⟩ := hinv
  have hA : rzAt (rzLH (rzCut (S0 411)) (S0 412 1) (rzWs S0) (S0 412 2) (S0 412 7)) S0 S (rzEx (rzCut (S0 411)) (S0 412 1) (rzWs S0) 0) := ⟨hA1, hA2, hA3⟩
  refine ⟨hA.2.1, fun S_p res _ _ hq _ _ => ⟨?_, by unfold rxmRLC_11 rxmRLC_12; omega⟩⟩
  obtain ⟨sa, sg, hk, hq⟩ := hq
  have hk : (0 : Int) = sg := Option.some.inj (congrArg (fun l : List Int => l[2]?) hk)
  subst hk
  have hw : rzWs S = rzWs S0 := rzKp.ws hA.1
  rw [hA.1.1, hA.1.2.1, hw] at hq
  have q : rzOc (rzEx (rzCut (S0 411)) (S0 412 1) (rzWs S0) 0 (S 412 2) (S 412 7)) S S_p (some res) := by
    rcases hq with ⟨q1, r, q2, q3, q4, q5, q6, q7⟩ | ⟨q1, r, q2, q3, q4⟩
    · exact ⟨r, q2, Or.inl ⟨q1, q3, q4, q5, q6, q7⟩⟩
    · exact ⟨r, q2, Or.inr ⟨q1, q3, q4⟩⟩
  exact rzAt_tail hA (fun r q => q) q
theorem rxsRLC_11 {X : (Nat → Int → Int) → Prop} {S0 : Nat → Int → Int} {ws : List Int} (hP : rxPRLC S0 ws) : rx_obK X S0 rxCRLC.2.2.1 rxCRED.2.2.1 (rxIRLC S0 ws) (rxmRLC S0 ws) 11 12 rxzRLC_11 rxzRLC_12 [.inr (3, (0, 412)), .inr (3, (10, 0)), .inr (0, (0, 0))] (some 11) rxPRED rxPSRED := by
  intro S r hinv hXS I0 hin hs_ hf_
  have b_ := bx_bds_sat hs_
  have f_ := bx_fcl_ok hs_.1 hf_
  obtain ⟨⟨l8, u8⟩, ⟨l9, u9⟩, ⟨l10, u10⟩, -⟩ := b_
  have g := rxkRLC_11 hP hin I0 hinv l8 u8 l9 u9 l10 u10
  have ea : List.map (bx_num r) [.inr (3, (0, 412)), .inr (3, (10, 0)), .inr (0, (0, 0))] = [412, (r 10), 0] := by
    simp only [List.map_cons, List.map_nil, bx_xv_ok hs_.1]
    rfl
  rw [ea]
  refine ⟨g.1, fun S_p w r_p hPS hX_p I1 hsm hr hw hs_p => ?_⟩
  have hw := hw _ rfl
  subst hw
  have b_p := hs_p.2.2 11 _ _ rfl
  have g2 := g.2 S_p (r_p 11) b_p.1 b_p.2 hPS I1 hsm
  show rxIRLC_12 S0 ws S_p (r_p 8) (r_p 9) (r_p 10) (r_p 11) ∧ rxmRLC_12 S0 ws S_p (r_p 8) (r_p 9) (r_p 10) (r_p 11) < _
  rw [hr 8 (by decide), hr 9 (by decide), hr 10 (by decide)]
  exact g2
theorem rxcRLC_0_0 {S0 : Nat → Int → Int} {ws : List Int} {S : Nat → Int → Int} (hP : rxPRLC S0 ws) (hin : bx_same rxL (bx_mdl rxCRLC.2.2.1) S0 S) (I0 : bx_Inv rxL S) (hinv : rxIRLC_0 S0 ws S)  : (True) ∧ (True) ∧ rxIRLC_1 S0 ws S ∧ rxmRLC_1 S0 ws S < rxmRLC_0 S0 ws S := by
  obtain ⟨rfl, hw⟩ := hinv
  exact ⟨trivial, trivial, ⟨rzKp_rf, hP, fun r q => q⟩, by unfold rxmRLC_0 rxmRLC_1; omega⟩
theorem rxgRLC_0_0 {X : (Nat → Int → Int) → Prop} {S0 : Nat → Int → Int} {ws : List Int} (hP : rxPRLC S0 ws) : bx_obC rxL X S0 rxCRLC.2.2.1 (rxIRLC S0 ws) (rxmRLC S0 ws) 0 rxzRLC_0 rxoRLC_0_0 := by
  intro S S_p r r_p hinv hX hin hsm_ hseg
  obtain ⟨I0, I1, h0_, hr_, b_, f_, d_⟩ := bx_cl (evs := []) (fvs := []) hseg (by decide +kernel) (by decide +kernel)
  have hinv : rxIRLC_0 S0 ws S := hinv
  have w_ := d_
  subst w_
  have g := rxcRLC_0_0 hP hin I0 hinv 
  refine ⟨bx_narP_ok (l := []) g.1, bx_nfP_ok h0_ (fvs := []) (by decide +kernel) g.2.1, ?_, ?_⟩
  · show rxIRLC_1 S0 ws S_p
    exact g.2.2.1
  · show rxmRLC_1 S0 ws S_p < rxmRLC_0 S0 ws S_p
    exact g.2.2.2
theorem rxcRLC_2_0 {S0 : Nat → Int → Int} {ws : List Int} {S : Nat → Int → Int} {r : Int} (hP : rxPRLC S0 ws) (hin : bx_same rxL (bx_mdl rxCRLC.2.2.1) S0 S) (I0 : bx_Inv rxL S) (hinv : rxIRLC_2 S0 ws S r) (l8 : 0 ≤ r) (u8 : r ≤ 1) : (True) ∧ (True) ∧ rxIRLC_3 S0 ws S r ∧ rxmRLC_3 S0 ws S r < rxmRLC_2 S0 ws S r := by
  obtain ⟨hA, hr⟩ := hinv
  rw [hA.1.1, hA.1.2.1] at hr
  exact ⟨trivial, trivial, ⟨hA, hr⟩, by unfold rxmRLC_2 rxmRLC_3; omega⟩
theorem rxgRLC_2_0 {X : (Nat → Int → Int) → Prop} {S0 : Nat → Int → Int} {ws : List Int} (hP : rxPRLC S0 ws) : bx_obC rxL X S0 rxCRLC.2.2.1 (rxIRLC S0 ws) (rxmRLC S0 ws) 2 rxzRLC_2 rxoRLC_2_0 := by
  intro S S_p r r_p hinv hX hin hsm_ hseg
  obtain ⟨I0, I1, h0_, hr_, b_, f_, d_⟩ := bx_cl (evs := []) (fvs := []) hseg (by decide +kernel) (by decide +kernel)
  have hinv : rxIRLC_2 S0 ws S (r 8) := hinv
  rw [← hr_ 8 (by decide)] at hinv
  obtain ⟨⟨l8, u8⟩, -⟩ := b_
  have w_ := d_
  subst w_
  have g := rxcRLC_2_0 hP hin I0 hinv l8 u8
  refine ⟨bx_narP_ok (l := []) g.1, bx_nfP_ok h0_ (fvs := []) (by decide +kernel) g.2.1, ?_, ?_⟩
  · show rxIRLC_3 S0 ws S_p (bx_val [(0, 0), (0, 0), (0, 0), (0, 0), (0, 0), (0, 0), (0, 0), (0, 0), (8, 0)] r_p 8)
    rw [bx_val_x (n := 8) (e := (8, 0)) h0_ rfl]
    exact g.2.2.1
  · show rxmRLC_3 S0 ws S_p (bx_val [(0, 0), (0, 0), (0, 0), (0, 0), (0, 0), (0, 0), (0, 0), (0, 0), (8, 0)] r_p 8) < rxmRLC_2 S0 ws S_p (r 8)
    rw [bx_val_x (n := 8) (e := (8, 0)) h0_ rfl, ← hr_ 8 (by decide)]
    exact g.2.2.2
theorem rxcRLC_4_0 {S0 : Nat → Int → Int} {ws : List Int} {S : Nat → Int → Int} {ba r : Int} (hP : rxPRLC S0 ws) (hin : bx_same rxL (bx_mdl rxCRLC.2.2.1) S0 S) (I0 : bx_Inv rxL S) (hinv : rxIRLC_4 S0 ws S ba r) (l8 : 0 ≤ ba) (u8 : ba ≤ 0) (l9 : 0 ≤ r) (u9 : r ≤ 0) : (True) ∧ (True) ∧ rxIRLC_5 S0 ws S ba r ∧ rxmRLC_5 S0 ws S ba r < rxmRLC_4 S0 ws S ba r := by
  obtain ⟨hA, h1, hr⟩ := hinv
  rw [hA.1.1, hA.1.2.1] at hr
  exact ⟨trivial, trivial, ⟨hA, by omega, by omega, h1, hr⟩, by unfold rxmRLC_4 rxmRLC_5; omega⟩
theorem rxgRLC_4_0 {X : (Nat → Int → Int) → Prop} {S0 : Nat → Int → Int} {ws : List Int} (hP : rxPRLC S0 ws) : bx_obC rxL X S0 rxCRLC.2.2.1 (rxIRLC S0 ws) (rxmRLC S0 ws) 4 rxzRLC_4 rxoRLC_4_0 := by
  intro S S_p r r_p hinv hX hin hsm_ hseg
  obtain ⟨I0, I1, h0_, hr_, b_, f_, d_⟩ := bx_cl (evs := []) (fvs := []) hseg (by decide +kernel) (by decide +kernel)
  have hinv : rxIRLC_4 S0 ws S (r 8) (r 9) := hinv
  rw [← hr_ 8 (by decide), ← hr_ 9 (by decide)] at hinv
  obtain ⟨⟨l8, u8⟩, ⟨l9, u9⟩, -⟩ := b_
  have w_ := d_
  subst w_
  have g := rxcRLC_4_0 hP hin I0 hinv l8 u8 l9 u9
  refine ⟨bx_narP_ok (l := []) g.1, bx_nfP_ok h0_ (fvs := []) (by decide +kernel) g.2.1, ?_, ?_⟩
  · show rxIRLC_5 S0 ws S_p (bx_val [(0, 0), (0, 0), (0, 0), (0, 0), (0, 0), (0, 0), (0, 0), (0, 0), (8, 0), (9, 0)] r_p 8) (bx_val [(0, 0), (0, 0), (0, 0), (0, 0), (0, 0), (0, 0), (0, 0), (0, 0), (8, 0), (9, 0)] r_p 9)
    rw [bx_val_x (n := 8) (e := (8, 0)) h0_ rfl, bx_val_x (n := 9) (e := (9, 0)) h0_ rfl]
    exact g.2.2.1
  · show rxmRLC_5 S0 ws S_p (bx_val [(0, 0), (0, 0), (0, 0), (0, 0), (0, 0), (0, 0), (0, 0), (0, 0), (8, 0), (9, 0)] r_p 8) (bx_val [(0, 0), (0, 0), (0, 0), (0, 0), (0, 0), (0, 0), (0, 0), (0, 0), (8, 0), (9, 0)] r_p 9) < rxmRLC_4 S0 ws S_p (r 8) (r 9)
    rw [bx_val_x (n := 8) (e := (8, 0)) h0_ rfl, bx_val_x (n := 9) (e := (9, 0)) h0_ rfl, ← hr_ 8 (by decide), ← hr_ 9 (by decide)]
    exact g.2.2.2
theorem rxcRLC_4_1 {S0 : Nat → Int → Int} {ws : List Int} {S : Nat → Int → Int} {ba r : Int} (hP : rxPRLC S0 ws) (hin : bx_same rxL (bx_mdl rxCRLC.2.2.1) S0 S) (I0 : bx_Inv rxL S) (hinv : rxIRLC_4 S0 ws S ba r) (l8 : 0 ≤ ba) (u8 : ba ≤ 0) (l9 : 1 ≤ r) (u9 : r ≤ 1) (f0 : r ≠ 0) : (True) ∧ (True) ∧ rxIRLC_7 S0 ws S ba r ∧ rxmRLC_7 S0 ws S ba r < rxmRLC_4 S0 ws S ba r := by
  obtain ⟨hA, h1, hr⟩ := hinv
  rw [hA.1.1, hA.1.2.1] at hr
  have b1 : rzIs (rzCut (S0 411)) (S0 412 1) rzW_bars (S 412 2) = false := by
    cases hb : rzIs (rzCut (S0 411)) (S0 412 1) rzW_bars (S 412 2) with
    | false => rfl
    | true =>
      rw [hb, if_pos rfl] at h1
      omega
  have b2 : rzIs (rzCut (S0 411)) (S0 412 1) rzW_slips (S 412 2) = true := by
    cases hb : rzIs (rzCut (S0 411)) (S0 412 1) rzW_slips (S 412 2) with
    | true => rfl
    | false =>
      rw [hb, if_neg (by decide)] at hr
      omega
  exact ⟨trivial, trivial, ⟨hA, Or.inr ⟨by omega, b1, by rw [b2]; rfl⟩⟩, by unfold rxmRLC_4 rxmRLC_7; omega⟩
theorem rxgRLC_4_1 {X : (Nat → Int → Int) → Prop} {S0 : Nat → Int → Int} {ws : List Int} (hP : rxPRLC S0 ws) : bx_obC rxL X S0 rxCRLC.2.2.1 (rxIRLC S0 ws) (rxmRLC S0 ws) 4 rxzRLC_4 rxoRLC_4_1 := by
  intro S S_p r r_p hinv hX hin hsm_ hseg
  obtain ⟨I0, I1, h0_, hr_, b_, f_, d_⟩ := bx_cl (evs := []) (fvs := [(3, (9, 0), (0, 0), (0, 0))]) hseg (by decide +kernel) (by decide +kernel)
  have hinv : rxIRLC_4 S0 ws S (r 8) (r 9) := hinv
  rw [← hr_ 8 (by decide), ← hr_ 9 (by decide)] at hinv
  obtain ⟨⟨l8, u8⟩, ⟨l9, u9⟩, -⟩ := b_
  obtain ⟨f0, -⟩ := f_
  have w_ := d_
  subst w_
  have g := rxcRLC_4_1 hP hin I0 hinv l8 u8 l9 u9 f0
  refine ⟨bx_narP_ok (l := []) g.1, bx_nfP_ok h0_ (fvs := []) (by decide +kernel) g.2.1, ?_, ?_⟩
  · show rxIRLC_7 S0 ws S_p (bx_val [(0, 0), (0, 0), (0, 0), (0, 0), (0, 0), (0, 0), (0, 0), (0, 0), (8, 0), (9, 0)] r_p 8) (bx_val [(0, 0), (0, 0), (0, 0), (0, 0), (0, 0), (0, 0), (0, 0), (0, 0), (8, 0), (9, 0)] r_p 9)
    rw [bx_val_x (n := 8) (e := (8, 0)) h0_ rfl, bx_val_x (n := 9) (e := (9, 0)) h0_ rfl]
    exact g.2.2.1
  · show rxmRLC_7 S0 ws S_p (bx_val [(0, 0), (0, 0), (0, 0), (0, 0), (0, 0), (0, 0), (0, 0), (0, 0), (8, 0), (9, 0)] r_p 8) (bx_val [(0, 0), (0, 0), (0, 0), (0, 0), (0, 0), (0, 0), (0, 0), (0, 0), (8, 0), (9, 0)] r_p 9) < rxmRLC_4 S0 ws S_p (r 8) (r 9)
    rw [bx_val_x (n := 8) (e := (8, 0)) h0_ rfl, bx_val_x (n := 9) (e := (9, 0)) h0_ rfl, ← hr_ 8 (by decide), ← hr_ 9 (by decide)]
    exact g.2.2.2
theorem rxcRLC_4_2 {S0 : Nat → Int → Int} {ws : List Int} {S : Nat → Int → Int} {ba r : Int} (hP : rxPRLC S0 ws) (hin : bx_same rxL (bx_mdl rxCRLC.2.2.1) S0 S) (I0 : bx_Inv rxL S) (hinv : rxIRLC_4 S0 ws S ba r) (l8 : 1 ≤ ba) (u8 : ba ≤ 1) (l9 : 0 ≤ r) (u9 : r ≤ 1) (f0 : ba ≠ 0) : (True) ∧ (True) ∧ rxIRLC_7 S0 ws S ba r ∧ rxmRLC_7 S0 ws S ba r < rxmRLC_4 S0 ws S ba r := by
  obtain ⟨hA, h1, hr⟩ := hinv
  rw [hA.1.1, hA.1.2.1] at hr
  have b1 : rzIs (rzCut (S0 411)) (S0 412 1) rzW_bars (S 412 2) = true := by
    cases hb : rzIs (rzCut (S0 411)) (S0 412 1) rzW_bars (S 412 2) with
    | true => rfl
    | false =>
      rw [hb, if_neg (by decide)] at h1
      omega
  exact ⟨trivial, trivial, ⟨hA, Or.inl ⟨by omega, b1⟩⟩, by unfold rxmRLC_4 rxmRLC_7; omega⟩
theorem rxgRLC_4_2 {X : (Nat → Int → Int) → Prop} {S0 : Nat → Int → Int} {ws : List Int} (hP : rxPRLC S0 ws) : bx_obC rxL X S0 rxCRLC.2.2.1 (rxIRLC S0 ws) (rxmRLC S0 ws) 4 rxzRLC_4 rxoRLC_4_2 := by
  intro S S_p r r_p hinv hX hin hsm_ hseg
  obtain ⟨I0, I1, h0_, hr_, b_, f_, d_⟩ := bx_cl (evs := []) (fvs := [(3, (8, 0), (0, 0), (0, 0))]) hseg (by decide +kernel) (by decide +kernel)
  have hinv : rxIRLC_4 S0 ws S (r 8) (r 9) := hinv
  rw [← hr_ 8 (by decide), ← hr_ 9 (by decide)] at hinv
  obtain ⟨⟨l8, u8⟩, ⟨l9, u9⟩, -⟩ := b_
  obtain ⟨f0, -⟩ := f_
  have w_ := d_
  subst w_
  have g := rxcRLC_4_2 hP hin I0 hinv l8 u8 l9 u9 f0
  refine ⟨bx_narP_ok (l := []) g.1, bx_nfP_ok h0_ (fvs := []) (by decide +kernel) g.2.1, ?_, ?_⟩
  · show rxIRLC_7 S0 ws S_p (bx_val [(0, 0), (0, 0), (0, 0), (0, 0), (0, 0), (0, 0), (0, 0), (0, 0), (8, 0), (9, 0)] r_p 8) (bx_val [(0, 0), (0, 0), (0, 0), (0, 0), (0, 0), (0, 0), (0, 0), (0, 0), (8, 0), (9, 0)] r_p 9)
    rw [bx_val_x (n := 8) (e := (8, 0)) h0_ rfl, bx_val_x (n := 9) (e := (9, 0)) h0_ rfl]
    exact g.2.2.1
  · show rxmRLC_7 S0 ws S_p (bx_val [(0, 0), (0, 0), (0, 0), (0, 0), (0, 0), (0, 0), (0, 0), (0, 0), (8, 0), (9, 0)] r_p 8) (bx_val [(0, 0), (0, 0), (0, 0), (0, 0), (0, 0), (0, 0), (0, 0), (0, 0), (8, 0), (9, 0)] r_p 9) < rxmRLC_4 S0 ws S_p (r 8) (r 9)
    rw [bx_val_x (n := 8) (e := (8, 0)) h0_ rfl, bx_val_x (n := 9) (e := (9, 0)) h0_ rfl, ← hr_ 8 (by decide), ← hr_ 9 (by decide)]
    exact g.2.2.2
theorem rxcRLC_6_0 {S0 : Nat → Int → Int} {ws : List Int} {S : Nat → Int → Int} {ba sl r : Int} (hP : rxPRLC S0 ws) (hin : bx_same rxL (bx_mdl rxCRLC.2.2.1) S0 S) (I0 : bx_Inv rxL S) (hinv : rxIRLC_6 S0 ws S ba sl r) (l8 : 0 ≤ ba) (u8 : ba ≤ 1) (l9 : 0 ≤ sl) (u9 : sl ≤ 1) (l10 : 1 ≤ r) (u10 : r ≤ 1) (f0 : r ≠ 0) : (True) ∧ (True) ∧ rxIRLC_7 S0 ws S ba sl ∧ rxmRLC_7 S0 ws S ba sl < rxmRLC_6 S0 ws S ba sl r := by
  obtain ⟨hA, z1, z2, h1, h2, hr⟩ := hinv
  rw [hA.1.1, hA.1.2.1] at hr
  have b1 : rzIs (rzCut (S0 411)) (S0 412 1) rzW_bars (S 412 2) = false := by
    cases hb : rzIs (rzCut (S0 411)) (S0 412 1) rzW_bars (S 412 2) with
    | false => rfl
    | true =>
      rw [hb, if_pos rfl] at h1
      omega
  have b2 : rzIs (rzCut (S0 411)) (S0 412 1) rzW_slips (S 412 2) = false := by
    cases hb : rzIs (rzCut (S0 411)) (S0 412 1) rzW_slips (S 412 2) with
    | false => rfl
    | true =>
      rw [hb, if_pos rfl] at h2
      omega
  have b3 : rzIs (rzCut (S0 411)) (S0 412 1) rzW_hours (S 412 2) = true := by
    cases hb : rzIs (rzCut (S0 411)) (S0 412 1) rzW_hours (S 412 2) with
    | true => rfl
    | false =>
      rw [hb, if_neg (by decide)] at hr
      omega
  exact ⟨trivial, trivial, ⟨hA, Or.inr ⟨z1, b1, by rw [b2, b3]; rfl⟩⟩, by unfold rxmRLC_6 rxmRLC_7; omega⟩
theorem rxgRLC_6_0 {X : (Nat → Int → Int) → Prop} {S0 : Nat → Int → Int} {ws : List Int} (hP : rxPRLC S0 ws) : bx_obC rxL X S0 rxCRLC.2.2.1 (rxIRLC S0 ws) (rxmRLC S0 ws) 6 rxzRLC_6 rxoRLC_6_0 := by
  intro S S_p r r_p hinv hX hin hsm_ hseg
  obtain ⟨I0, I1, h0_, hr_, b_, f_, d_⟩ := bx_cl (evs := []) (fvs := [(3, (10, 0), (0, 0), (0, 0))]) hseg (by decide +kernel) (by decide +kernel)
  have hinv : rxIRLC_6 S0 ws S (r 8) (r 9) (r 10) := hinv
  rw [← hr_ 8 (by decide), ← hr_ 9 (by decide), ← hr_ 10 (by decide)] at hinv
  obtain ⟨⟨l8, u8⟩, ⟨l9, u9⟩, ⟨l10, u10⟩, -⟩ := b_
  obtain ⟨f0, -⟩ := f_
  have w_ := d_
  subst w_
  have g := rxcRLC_6_0 hP hin I0 hinv l8 u8 l9 u9 l10 u10 f0
  refine ⟨bx_narP_ok (l := []) g.1, bx_nfP_ok h0_ (fvs := []) (by decide +kernel) g.2.1, ?_, ?_⟩
  · show rxIRLC_7 S0 ws S_p (bx_val [(0, 0), (0, 0), (0, 0), (0, 0), (0, 0), (0, 0), (0, 0), (0, 0), (8, 0), (9, 0)] r_p 8) (bx_val [(0, 0), (0, 0), (0, 0), (0, 0), (0, 0), (0, 0), (0, 0), (0, 0), (8, 0), (9, 0)] r_p 9)
    rw [bx_val_x (n := 8) (e := (8, 0)) h0_ rfl, bx_val_x (n := 9) (e := (9, 0)) h0_ rfl]
    exact g.2.2.1
  · show rxmRLC_7 S0 ws S_p (bx_val [(0, 0), (0, 0), (0, 0), (0, 0), (0, 0), (0, 0), (0, 0), (0, 0), (8, 0), (9, 0)] r_p 8) (bx_val [(0, 0), (0, 0), (0, 0), (0, 0), (0, 0), (0, 0), (0, 0), (0, 0), (8, 0), (9, 0)] r_p 9) < rxmRLC_6 S0 ws S_p (r 8) (r 9) (r 10)
    rw [bx_val_x (n := 8) (e := (8, 0)) h0_ rfl, bx_val_x (n := 9) (e := (9, 0)) h0_ rfl, ← hr_ 8 (by decide), ← hr_ 9 (by decide), ← hr_ 10 (by decide)]
    exact g.2.2.2
theorem rxdRLC_6_0 {S0 : Nat → Int → Int} {ws : List Int} {S : Nat → Int → Int} {ba sl r x11 : Int} (hP : rxPRLC S0 ws) (hin : bx_same rxL (bx_mdl rxCRLC.2.2.1) S0 S) (hin2 : bx_same rxL (bx_mdl rxCRLC.2.2.1) S (bx_up S 412 4 x11)) (I0 : bx_Inv rxL S) (I1 : bx_Inv rxL (bx_up S 412 4 x11)) (hinv : rxIRLC_6 S0 ws S ba sl r) (l8 : 0 ≤ ba) (u8 : ba ≤ 1) (l9 : 0 ≤ sl) (u9 : sl ≤ 1) (l10 : 0 ≤ r) (u10 : r ≤ 0) (l11 : 0 ≤ x11) (u11 : x11 ≤ 400) (e1 : S 412 2 = x11) : (True) ∧ rxPSRLC S0 ws (bx_up S 412 4 x11) (some 0) := by
  obtain ⟨hA, z1, z2, h1, h2, hr⟩ := hinv
  rw [hA.1.1, hA.1.2.1] at hr
  have b1 : rzIs (rzCut (S0 411)) (S0 412 1) rzW_bars (S 412 2) = false := by
    cases hb : rzIs (rzCut (S0 411)) (S0 412 1) rzW_bars (S 412 2) with
    | false => rfl
    | true =>
      rw [hb, if_pos rfl] at h1
      omega
  have b2 : rzIs (rzCut (S0 411)) (S0 412 1) rzW_slips (S 412 2) = false := by
    cases hb : rzIs (rzCut (S0 411)) (S0 412 1) rzW_slips (S 412 2) with
    | false => rfl
    | true =>
      rw [hb, if_pos rfl] at h2
      omega
  have b3 : rzIs (rzCut (S0 411)) (S0 412 1) rzW_hours (S 412 2) = false := by
    cases hb : rzIs (rzCut (S0 411)) (S0 412 1) rzW_hours (S 412 2) with
    | false => rfl
    | true =>
      rw [hb, if_pos rfl] at hr
      omega
  exact ⟨trivial, rzAt_no hA (rzAlt_n b1 (rzAlt_n (by rw [b2, b3]; rfl) rfl)) (bx_up_at.trans e1.symm)⟩
theorem rxfRLC_6_0 {X : (Nat → Int → Int) → Prop} {S0 : Nat → Int → Int} {ws : List Int} (hP : rxPRLC S0 ws) : bx_obE rxL X S0 rxCRLC.2.2.1 (rxIRLC S0 ws) (rxPSRLC S0 ws) 6 rxzRLC_6 rxeRLC_6_0 := by
  intro S S_p r r_p hinv hX hin hsm_ hseg
  obtain ⟨I0, I1, h0_, hr_, b_, f_, d_⟩ := bx_cl (evs := [(1, (0, 412), (0, 4), .inr (0, (11, 0))), (0, (0, 412), (0, 2), .inr (0, (11, 0)))]) (fvs := []) hseg (by decide +kernel) (by decide +kernel)
  have hinv : rxIRLC_6 S0 ws S (r 8) (r 9) (r 10) := hinv
  rw [← hr_ 8 (by decide), ← hr_ 9 (by decide), ← hr_ 10 (by decide)] at hinv
  obtain ⟨⟨l8, u8⟩, ⟨l9, u9⟩, ⟨l10, u10⟩, ⟨l11, u11⟩, -⟩ := b_
  obtain ⟨T0, ⟨e1, w_⟩, w0⟩ := d_
  subst w0
  subst w_
  have g := rxdRLC_6_0 hP hin hsm_ I0 I1 hinv l8 u8 l9 u9 l10 u10 l11 u11 e1
  refine ⟨bx_narP_ok (l := []) g.1, ?_⟩
  show rxPSRLC S0 ws (bx_up T0 412 (4) (r_p 11)) (some (bx_num r_p (.inr (0, (0, 0)))))
  rw [bx_xv_ok h0_]
  exact g.2
theorem rxcRLC_8_0 {S0 : Nat → Int → Int} {ws : List Int} {S : Nat → Int → Int} {ba sl : Int} (hP : rxPRLC S0 ws) (hin : bx_same rxL (bx_mdl rxCRLC.2.2.1) S0 S) (I0 : bx_Inv rxL S) (hinv : rxIRLC_8 S0 ws S ba sl) (l8 : 1 ≤ ba) (u8 : ba ≤ 1) (l9 : 0 ≤ sl) (u9 : sl ≤ 1) (f0 : ba ≠ 0) : (True) ∧ (True) ∧ rxIRLC_9 S0 ws S ba sl 2 ∧ rxmRLC_9 S0 ws S ba sl 2 < rxmRLC_8 S0 ws S ba sl := by
  exact ⟨trivial, trivial, hinv, by unfold rxmRLC_8 rxmRLC_9; omega⟩
theorem rxgRLC_8_0 {X : (Nat → Int → Int) → Prop} {S0 : Nat → Int → Int} {ws : List Int} (hP : rxPRLC S0 ws) : bx_obC rxL X S0 rxCRLC.2.2.1 (rxIRLC S0 ws) (rxmRLC S0 ws) 8 rxzRLC_8 rxoRLC_8_0 := by
  intro S S_p r r_p hinv hX hin hsm_ hseg
  obtain ⟨I0, I1, h0_, hr_, b_, f_, d_⟩ := bx_cl (evs := []) (fvs := [(3, (8, 0), (0, 0), (0, 0))]) hseg (by decide +kernel) (by decide +kernel)
  have hinv : rxIRLC_8 S0 ws S (r 8) (r 9) := hinv
  rw [← hr_ 8 (by decide), ← hr_ 9 (by decide)] at hinv
  obtain ⟨⟨l8, u8⟩, ⟨l9, u9⟩, -⟩ := b_
  obtain ⟨f0, -⟩ := f_
  have w_ := d_
  subst w_
  have g := rxcRLC_8_0 hP hin I0 hinv l8 u8 l9 u9 f0
  refine ⟨bx_narP_ok (l := []) g.1, bx_nfP_ok h0_ (fvs := []) (by decide +kernel) g.2.1, ?_, ?_⟩
  · show rxIRLC_9 S0 ws S_p (bx_val [(0, 0), (0, 0), (0, 0), (0, 0), (0, 0), (0, 0), (0, 0), (0, 0), (8, 0), (9, 0), (0, 2)] r_p 8) (bx_val [(0, 0), (0, 0), (0, 0), (0, 0), (0, 0), (0, 0), (0, 0), (0, 0), (8, 0), (9, 0), (0, 2)] r_p 9) (bx_val [(0, 0), (0, 0), (0, 0), (0, 0), (0, 0), (0, 0), (0, 0), (0, 0), (8, 0), (9, 0), (0, 2)] r_p 10)
    rw [bx_val_x (n := 8) (e := (8, 0)) h0_ rfl, bx_val_x (n := 9) (e := (9, 0)) h0_ rfl, bx_val_x (n := 10) (e := (0, 2)) h0_ rfl]
    exact g.2.2.1
  · show rxmRLC_9 S0 ws S_p (bx_val [(0, 0), (0, 0), (0, 0), (0, 0), (0, 0), (0, 0), (0, 0), (0, 0), (8, 0), (9, 0), (0, 2)] r_p 8) (bx_val [(0, 0), (0, 0), (0, 0), (0, 0), (0, 0), (0, 0), (0, 0), (0, 0), (8, 0), (9, 0), (0, 2)] r_p 9) (bx_val [(0, 0), (0, 0), (0, 0), (0, 0), (0, 0), (0, 0), (0, 0), (0, 0), (8, 0), (9, 0), (0, 2)] r_p 10) < rxmRLC_8 S0 ws S_p (r 8) (r 9)
    rw [bx_val_x (n := 8) (e := (8, 0)) h0_ rfl, bx_val_x (n := 9) (e := (9, 0)) h0_ rfl, bx_val_x (n := 10) (e := (0, 2)) h0_ rfl, ← hr_ 8 (by decide), ← hr_ 9 (by decide)]
    exact g.2.2.2
theorem rxcRLC_8_1 {S0 : Nat → Int → Int} {ws : List Int} {S : Nat → Int → Int} {ba sl : Int} (hP : rxPRLC S0 ws) (hin : bx_same rxL (bx_mdl rxCRLC.2.2.1) S0 S) (I0 : bx_Inv rxL S) (hinv : rxIRLC_8 S0 ws S ba sl) (l8 : 0 ≤ ba) (u8 : ba ≤ 0) (l9 : 1 ≤ sl) (u9 : sl ≤ 1) (f0 : sl ≠ 0) : (True) ∧ (True) ∧ rxIRLC_9 S0 ws S ba sl 0 ∧ rxmRLC_9 S0 ws S ba sl 0 < rxmRLC_8 S0 ws S ba sl := by
  exact ⟨trivial, trivial, hinv, by unfold rxmRLC_8 rxmRLC_9; omega⟩
theorem rxgRLC_8_1 {X : (Nat → Int → Int) → Prop} {S0 : Nat → Int → Int} {ws : List Int} (hP : rxPRLC S0 ws) : bx_obC rxL X S0 rxCRLC.2.2.1 (rxIRLC S0 ws) (rxmRLC S0 ws) 8 rxzRLC_8 rxoRLC_8_1 := by
  intro S S_p r r_p hinv hX hin hsm_ hseg
  obtain ⟨I0, I1, h0_, hr_, b_, f_, d_⟩ := bx_cl (evs := []) (fvs := [(3, (9, 0), (0, 0), (0, 0))]) hseg (by decide +kernel) (by decide +kernel)
  have hinv : rxIRLC_8 S0 ws S (r 8) (r 9) := hinv
  rw [← hr_ 8 (by decide), ← hr_ 9 (by decide)] at hinv
  obtain ⟨⟨l8, u8⟩, ⟨l9, u9⟩, -⟩ := b_
  obtain ⟨f0, -⟩ := f_
  have w_ := d_
  subst w_
  have g := rxcRLC_8_1 hP hin I0 hinv l8 u8 l9 u9 f0
  refine ⟨bx_narP_ok (l := []) g.1, bx_nfP_ok h0_ (fvs := []) (by decide +kernel) g.2.1, ?_, ?_⟩
  · show rxIRLC_9 S0 ws S_p (bx_val [(0, 0), (0, 0), (0, 0), (0, 0), (0, 0), (0, 0), (0, 0), (0, 0), (8, 0), (9, 0), (0, 0)] r_p 8) (bx_val [(0, 0), (0, 0), (0, 0), (0, 0), (0, 0), (0, 0), (0, 0), (0, 0), (8, 0), (9, 0), (0, 0)] r_p 9) (bx_val [(0, 0), (0, 0), (0, 0), (0, 0), (0, 0), (0, 0), (0, 0), (0, 0), (8, 0), (9, 0), (0, 0)] r_p 10)
    rw [bx_val_x (n := 8) (e := (8, 0)) h0_ rfl, bx_val_x (n := 9) (e := (9, 0)) h0_ rfl, bx_val_x (n := 10) (e := (0, 0)) h0_ rfl]
    exact g.2.2.1
  · show rxmRLC_9 S0 ws S_p (bx_val [(0, 0), (0, 0), (0, 0), (0, 0), (0, 0), (0, 0), (0, 0), (0, 0), (8, 0), (9, 0), (0, 0)] r_p 8) (bx_val [(0, 0), (0, 0), (0, 0), (0, 0), (0, 0), (0, 0), (0, 0), (0, 0), (8, 0), (9, 0), (0, 0)] r_p 9) (bx_val [(0, 0), (0, 0), (0, 0), (0, 0), (0, 0), (0, 0), (0, 0), (0, 0), (8, 0), (9, 0), (0, 0)] r_p 10) < rxmRLC_8 S0 ws S_p (r 8) (r 9)
    rw [bx_val_x (n := 8) (e := (8, 0)) h0_ rfl, bx_val_x (n := 9) (e := (9, 0)) h0_ rfl, bx_val_x (n := 10) (e := (0, 0)) h0_ rfl, ← hr_ 8 (by decide), ← hr_ 9 (by decide)]
    exact g.2.2.2
theorem rxcRLC_8_2 {S0 : Nat → Int → Int} {ws : List Int} {S : Nat → Int → Int} {ba sl : Int} (hP : rxPRLC S0 ws) (hin : bx_same rxL (bx_mdl rxCRLC.2.2.1) S0 S) (I0 : bx_Inv rxL S) (hinv : rxIRLC_8 S0 ws S ba sl) (l8 : 0 ≤ ba) (u8 : ba ≤ 0) (l9 : 0 ≤ sl) (u9 : sl ≤ 0) : (True) ∧ (True) ∧ rxIRLC_9 S0 ws S ba sl 1 ∧ rxmRLC_9 S0 ws S ba sl 1 < rxmRLC_8 S0 ws S ba sl := by
  exact ⟨trivial, trivial, hinv, by unfold rxmRLC_8 rxmRLC_9; omega⟩
theorem rxgRLC_8_2 {X : (Nat → Int → Int) → Prop} {S0 : Nat → Int → Int} {ws : List Int} (hP : rxPRLC S0 ws) : bx_obC rxL X S0 rxCRLC.2.2.1 (rxIRLC S0 ws) (rxmRLC S0 ws) 8 rxzRLC_8 rxoRLC_8_2 := by
  intro S S_p r r_p hinv hX hin hsm_ hseg
  obtain ⟨I0, I1, h0_, hr_, b_, f_, d_⟩ := bx_cl (evs := []) (fvs := []) hseg (by decide +kernel) (by decide +kernel)
  have hinv : rxIRLC_8 S0 ws S (r 8) (r 9) := hinv
  rw [← hr_ 8 (by decide), ← hr_ 9 (by decide)] at hinv
  obtain ⟨⟨l8, u8⟩, ⟨l9, u9⟩, -⟩ := b_
  have w_ := d_
  subst w_
  have g := rxcRLC_8_2 hP hin I0 hinv l8 u8 l9 u9
  refine ⟨bx_narP_ok (l := []) g.1, bx_nfP_ok h0_ (fvs := []) (by decide +kernel) g.2.1, ?_, ?_⟩
  · show rxIRLC_9 S0 ws S_p (bx_val [(0, 0), (0, 0), (0, 0), (0, 0), (0, 0), (0, 0), (0, 0), (0, 0), (8, 0), (9, 0), (0, 1)] r_p 8) (bx_val [(0, 0), (0, 0), (0, 0), (0, 0), (0, 0), (0, 0), (0, 0), (0, 0), (8, 0), (9, 0), (0, 1)] r_p 9) (bx_val [(0, 0), (0, 0), (0, 0), (0, 0), (0, 0), (0, 0), (0, 0), (0, 0), (8, 0), (9, 0), (0, 1)] r_p 10)
    rw [bx_val_x (n := 8) (e := (8, 0)) h0_ rfl, bx_val_x (n := 9) (e := (9, 0)) h0_ rfl, bx_val_x (n := 10) (e := (0, 1)) h0_ rfl]
    exact g.2.2.1
  · show rxmRLC_9 S0 ws S_p (bx_val [(0, 0), (0, 0), (0, 0), (0, 0), (0, 0), (0, 0), (0, 0), (0, 0), (8, 0), (9, 0), (0, 1)] r_p 8) (bx_val [(0, 0), (0, 0), (0, 0), (0, 0), (0, 0), (0, 0), (0, 0), (0, 0), (8, 0), (9, 0), (0, 1)] r_p 9) (bx_val [(0, 0), (0, 0), (0, 0), (0, 0), (0, 0), (0, 0), (0, 0), (0, 0), (8, 0), (9, 0), (0, 1)] r_p 10) < rxmRLC_8 S0 ws S_p (r 8) (r 9)
    rw [bx_val_x (n := 8) (e := (8, 0)) h0_ rfl, bx_val_x (n := 9) (e := (9, 0)) h0_ rfl, bx_val_x (n := 10) (e := (0, 1)) h0_ rfl, ← hr_ 8 (by decide), ← hr_ 9 (by decide)]
    exact g.2.2.2
theorem rxcRLC_10_0 {S0 : Nat → Int → Int} {ws : List Int} {S : Nat → Int → Int} {ba sl ki x11 : Int} (hP : rxPRLC S0 ws) (hin : bx_same rxL (bx_mdl rxCRLC.2.2.1) S0 S) (I0 : bx_Inv rxL S) (hinv : rxIRLC_10 S0 ws S ba sl ki) (l8 : 0 ≤ ba) (u8 : ba ≤ 0) (l9 : 0 ≤ sl) (u9 : sl ≤ 1) (l10 : 0 ≤ ki) (u10 : ki ≤ 4) (l11 : 0 ≤ x11) (u11 : x11 ≤ 1522) (e0 : S 427 8 = x11) : (True) ∧ (True) ∧ rxIRLC_11 S0 ws S ba sl x11 ∧ rxmRLC_11 S0 ws S ba sl x11 < rxmRLC_10 S0 ws S ba sl ki := by
  have hA : rzAt (rzLH (rzCut (S0 411)) (S0 412 1) (rzWs S0) (S0 412 2) (S0 412 7)) S0 S ((fun f lf r => rzAlt (decide (ba = 1)) (r = (true, f, lf)) (rzEx (rzCut (S0 411)) (S0 412 1) (rzWs S0) 0 f lf r))) := hinv
  exact ⟨trivial, trivial, rzAt_im hA fun r q => rzAlt_n (decide_eq_false (by omega)) q, by unfold rxmRLC_10 rxmRLC_11; omega⟩
theorem rxgRLC_10_0 {X : (Nat → Int → Int) → Prop} {S0 : Nat → Int → Int} {ws : List Int} (hP : rxPRLC S0 ws) : bx_obC rxL X S0 rxCRLC.2.2.1 (rxIRLC S0 ws) (rxmRLC S0 ws) 10 rxzRLC_10 rxoRLC_10_0 := by
  intro S S_p r r_p hinv hX hin hsm_ hseg
  obtain ⟨I0, I1, h0_, hr_, b_, f_, d_⟩ := bx_cl (evs := [(0, (0, 427), (0, 8), .inr (3, (11, 0)))]) (fvs := []) hseg (by decide +kernel) (by decide +kernel)
  have hinv : rxIRLC_10 S0 ws S (r 8) (r 9) (r 10) := hinv
  rw [← hr_ 8 (by decide), ← hr_ 9 (by decide), ← hr_ 10 (by decide)] at hinv
  obtain ⟨⟨l8, u8⟩, ⟨l9, u9⟩, ⟨l10, u10⟩, ⟨l11, u11⟩, -⟩ := b_
  obtain ⟨e0, w_⟩ := d_
  subst w_
  have g := rxcRLC_10_0 hP hin I0 hinv l8 u8 l9 u9 l10 u10 l11 u11 e0
  refine ⟨bx_narP_ok (l := []) g.1, bx_nfP_ok h0_ (fvs := []) (by decide +kernel) g.2.1, ?_, ?_⟩
  · show rxIRLC_11 S0 ws S_p (bx_val [(0, 0), (0, 0), (0, 0), (0, 0), (0, 0), (0, 0), (0, 0), (0, 0), (8, 0), (9, 0), (11, 0)] r_p 8) (bx_val [(0, 0), (0, 0), (0, 0), (0, 0), (0, 0), (0, 0), (0, 0), (0, 0), (8, 0), (9, 0), (11, 0)] r_p 9) (bx_val [(0, 0), (0, 0), (0, 0), (0, 0), (0, 0), (0, 0), (0, 0), (0, 0), (8, 0), (9, 0), (11, 0)] r_p 10)
    rw [bx_val_x (n := 8) (e := (8, 0)) h0_ rfl, bx_val_x (n := 9) (e := (9, 0)) h0_ rfl, bx_val_x (n := 10) (e := (11, 0)) h0_ rfl]
    exact g.2.2.1
  · show rxmRLC_11 S0 ws S_p (bx_val [(0, 0), (0, 0), (0, 0), (0, 0), (0, 0), (0, 0), (0, 0), (0, 0), (8, 0), (9, 0), (11, 0)] r_p 8) (bx_val [(0, 0), (0, 0), (0, 0), (0, 0), (0, 0), (0, 0), (0, 0), (0, 0), (8, 0), (9, 0), (11, 0)] r_p 9) (bx_val [(0, 0), (0, 0), (0, 0), (0, 0), (0, 0), (0, 0), (0, 0), (0, 0), (8, 0), (9, 0), (11, 0)] r_p 10) < rxmRLC_10 S0 ws S_p (r 8) (r 9) (r 10)
    rw [bx_val_x (n := 8) (e := (8, 0)) h0_ rfl, bx_val_x (n := 9) (e := (9, 0)) h0_ rfl, bx_val_x (n := 10) (e := (11, 0)) h0_ rfl, ← hr_ 8 (by decide), ← hr_ 9 (by decide), ← hr_ 10 (by decide)]
    exact g.2.2.2
theorem rxdRLC_10_0 {S0 : Nat → Int → Int} {ws : List Int} {S : Nat → Int → Int} {ba sl ki : Int} (hP : rxPRLC S0 ws) (hin : bx_same rxL (bx_mdl rxCRLC.2.2.1) S0 S) (hin2 : bx_same rxL (bx_mdl rxCRLC.2.2.1) S S) (I0 : bx_Inv rxL S) (I1 : bx_Inv rxL S) (hinv : rxIRLC_10 S0 ws S ba sl ki) (l8 : 1 ≤ ba) (u8 : ba ≤ 1) (l9 : 0 ≤ sl) (u9 : sl ≤ 1) (l10 : 0 ≤ ki) (u10 : ki ≤ 4) (f0 : ba ≠ 0) : (True) ∧ rxPSRLC S0 ws S (some 1) := by
  have hA : rzAt (rzLH (rzCut (S0 411)) (S0 412 1) (rzWs S0) (S0 412 2) (S0 412 7)) S0 S ((fun f lf r => rzAlt (decide (ba = 1)) (r = (true, f, lf)) (rzEx (rzCut (S0 411)) (S0 412 1) (rzWs S0) 0 f lf r))) := hinv
  exact ⟨trivial, rzAt_yes hA (rzAlt_y (decide_eq_true (by omega)) rfl)⟩
theorem rxfRLC_10_0 {X : (Nat → Int → Int) → Prop} {S0 : Nat → Int → Int} {ws : List Int} (hP : rxPRLC S0 ws) : bx_obE rxL X S0 rxCRLC.2.2.1 (rxIRLC S0 ws) (rxPSRLC S0 ws) 10 rxzRLC_10 rxeRLC_10_0 := by
  intro S S_p r r_p hinv hX hin hsm_ hseg
  obtain ⟨I0, I1, h0_, hr_, b_, f_, d_⟩ := bx_cl (evs := []) (fvs := [(3, (8, 0), (0, 0), (0, 0))]) hseg (by decide +kernel) (by decide +kernel)
  have hinv : rxIRLC_10 S0 ws S (r 8) (r 9) (r 10) := hinv
  rw [← hr_ 8 (by decide), ← hr_ 9 (by decide), ← hr_ 10 (by decide)] at hinv
  obtain ⟨⟨l8, u8⟩, ⟨l9, u9⟩, ⟨l10, u10⟩, -⟩ := b_
  obtain ⟨f0, -⟩ := f_
  have w_ := d_
  subst w_
  have g := rxdRLC_10_0 hP hin hsm_ I0 I1 hinv l8 u8 l9 u9 l10 u10 f0
  refine ⟨bx_narP_ok (l := []) g.1, ?_⟩
  show rxPSRLC S0 ws S_p (some (bx_num r_p (.inr (0, (0, 1)))))
  rw [bx_xv_ok h0_]
  exact g.2
theorem rxdRLC_12_0 {S0 : Nat → Int → Int} {ws : List Int} {S : Nat → Int → Int} {ba sl sa res : Int} (hP : rxPRLC S0 ws) (hin : bx_same rxL (bx_mdl rxCRLC.2.2.1) S0 S) (hin2 : bx_same rxL (bx_mdl rxCRLC.2.2.1) S S) (I0 : bx_Inv rxL S) (I1 : bx_Inv rxL S) (hinv : rxIRLC_12 S0 ws S ba sl sa res) (l8 : 0 ≤ ba) (u8 : ba ≤ 1) (l9 : 0 ≤ sl) (u9 : sl ≤ 1) (l10 : 0 ≤ sa) (u10 : sa ≤ 1522) (l11 : 1 ≤ res) (u11 : res ≤ 1) (f0 : res ≠ 0) : (True) ∧ rxPSRLC S0 ws S (some 1) := by
  have hx : rzOc (rzLH (rzCut (S0 411)) (S0 412 1) (rzWs S0) (S0 412 2) (S0 412 7)) S0 S (some res) := hinv
  rw [show res = 1 by omega] at hx
  exact ⟨trivial, hx⟩
theorem rxfRLC_12_0 {X : (Nat → Int → Int) → Prop} {S0 : Nat → Int → Int} {ws : List Int} (hP : rxPRLC S0 ws) : bx_obE rxL X S0 rxCRLC.2.2.1 (rxIRLC S0 ws) (rxPSRLC S0 ws) 12 rxzRLC_12 rxeRLC_12_0 := by
  intro S S_p r r_p hinv hX hin hsm_ hseg
  obtain ⟨I0, I1, h0_, hr_, b_, f_, d_⟩ := bx_cl (evs := []) (fvs := [(3, (11, 0), (0, 0), (0, 0))]) hseg (by decide +kernel) (by decide +kernel)
  have hinv : rxIRLC_12 S0 ws S (r 8) (r 9) (r 10) (r 11) := hinv
  rw [← hr_ 8 (by decide), ← hr_ 9 (by decide), ← hr_ 10 (by decide), ← hr_ 11 (by decide)] at hinv
  obtain ⟨⟨l8, u8⟩, ⟨l9, u9⟩, ⟨l10, u10⟩, ⟨l11, u11⟩, -⟩ := b_
  obtain ⟨f0, -⟩ := f_
  have w_ := d_
  subst w_
  have g := rxdRLC_12_0 hP hin hsm_ I0 I1 hinv l8 u8 l9 u9 l10 u10 l11 u11 f0
  refine ⟨bx_narP_ok (l := []) g.1, ?_⟩
  show rxPSRLC S0 ws S_p (some (bx_num r_p (.inr (0, (0, 1)))))
  rw [bx_xv_ok h0_]
  exact g.2
theorem rxdRLC_12_1 {S0 : Nat → Int → Int} {ws : List Int} {S : Nat → Int → Int} {ba sl sa res : Int} (hP : rxPRLC S0 ws) (hin : bx_same rxL (bx_mdl rxCRLC.2.2.1) S0 S) (hin2 : bx_same rxL (bx_mdl rxCRLC.2.2.1) S S) (I0 : bx_Inv rxL S) (I1 : bx_Inv rxL S) (hinv : rxIRLC_12 S0 ws S ba sl sa res) (l8 : 0 ≤ ba) (u8 : ba ≤ 1) (l9 : 0 ≤ sl) (u9 : sl ≤ 1) (l10 : 0 ≤ sa) (u10 : sa ≤ 1522) (l11 : 0 ≤ res) (u11 : res ≤ 0) : (True) ∧ rxPSRLC S0 ws S (some 0) := by
  have hx : rzOc (rzLH (rzCut (S0 411)) (S0 412 1) (rzWs S0) (S0 412 2) (S0 412 7)) S0 S (some res) := hinv
  rw [show res = 0 by omega] at hx
  exact ⟨trivial, hx⟩
theorem rxfRLC_12_1 {X : (Nat → Int → Int) → Prop} {S0 : Nat → Int → Int} {ws : List Int} (hP : rxPRLC S0 ws) : bx_obE rxL X S0 rxCRLC.2.2.1 (rxIRLC S0 ws) (rxPSRLC S0 ws) 12 rxzRLC_12 rxeRLC_12_1 := by
  intro S S_p r r_p hinv hX hin hsm_ hseg
  obtain ⟨I0, I1, h0_, hr_, b_, f_, d_⟩ := bx_cl (evs := []) (fvs := []) hseg (by decide +kernel) (by decide +kernel)
  have hinv : rxIRLC_12 S0 ws S (r 8) (r 9) (r 10) (r 11) := hinv
  rw [← hr_ 8 (by decide), ← hr_ 9 (by decide), ← hr_ 10 (by decide), ← hr_ 11 (by decide)] at hinv
  obtain ⟨⟨l8, u8⟩, ⟨l9, u9⟩, ⟨l10, u10⟩, ⟨l11, u11⟩, -⟩ := b_
  have w_ := d_
  subst w_
  have g := rxdRLC_12_1 hP hin hsm_ I0 I1 hinv l8 u8 l9 u9 l10 u10 l11 u11
  refine ⟨bx_narP_ok (l := []) g.1, ?_⟩
  show rxPSRLC S0 ws S_p (some (bx_num r_p (.inr (0, (0, 0)))))
  rw [bx_xv_ok h0_]
  exact g.2
theorem rxgCRLC {X : (Nat → Int → Int) → Prop} {S0 : Nat → Int → Int} {ws : List Int} (hP : rxPRLC S0 ws) : bx_allI (fun i q => rxURLC q = true ∨ bx_allP (fun o => bx_obC rxL X S0 rxCRLC.2.2.1 (rxIRLC S0 ws) (rxmRLC S0 ws) i q.1 o) q.2.1) 0 rxYRLC := ⟨Or.inr ⟨rxgRLC_0_0 hP, trivial⟩, Or.inl rfl, Or.inr ⟨rxgRLC_2_0 hP, trivial⟩, Or.inl rfl, Or.inr ⟨rxgRLC_4_0 hP, rxgRLC_4_1 hP, rxgRLC_4_2 hP, trivial⟩, Or.inl rfl, Or.inr ⟨rxgRLC_6_0 hP, trivial⟩, Or.inl rfl, Or.inr ⟨rxgRLC_8_0 hP, rxgRLC_8_1 hP, rxgRLC_8_2 hP, trivial⟩, Or.inl rfl, Or.inr ⟨rxgRLC_10_0 hP, trivial⟩, Or.inl rfl, Or.inr trivial, trivial⟩
theorem rxgERLC {X : (Nat → Int → Int) → Prop} {S0 : Nat → Int → Int} {ws : List Int} (hP : rxPRLC S0 ws) : bx_allI (fun i q => rxURLC q = true ∨ bx_allP (fun E => bx_obE rxL X S0 rxCRLC.2.2.1 (rxIRLC S0 ws) (rxPSRLC S0 ws) i q.1 E) q.2.2) 0 rxYRLC := ⟨Or.inr trivial, Or.inl rfl, Or.inr trivial, Or.inl rfl, Or.inr trivial, Or.inl rfl, Or.inr ⟨rxfRLC_6_0 hP, trivial⟩, Or.inl rfl, Or.inr trivial, Or.inl rfl, Or.inr ⟨rxfRLC_10_0 hP, trivial⟩, Or.inl rfl, Or.inr ⟨rxfRLC_12_0 hP, rxfRLC_12_1 hP, trivial⟩, trivial⟩
theorem rxuRLC {PX : State → Prop} {Dg : va_G} {A : Nat → Prop} {ad xa : Nat → Nat} {l : Launch} {X : (Nat → Int → Int) → Prop} (hPX : rx_PXOK rxNW A PX) (hX : ∀ S S1 : Nat → Int → Int, X S → bx_same rxL (bx_mdl rxCRLC.2.2.1) S S1 → X S1) (hQIWX : bx_ConP rxG rxNW rxAO PX Dg rxL X vwCl A ad l rxM59 rxC59 rxPIWX rxPSIWX) (hQAD : bx_ConP rxG rxNW rxAO PX Dg rxL X vwCl A ad l rxM84 rxC84 rxPAD rxPSAD) (hQOCD : bx_ConP rxG rxNW rxAO PX Dg rxL X vwCl A ad l rxM60 rxCOCD rxPOCD rxPSOCD) (hQRED : bx_ConP rxG rxNW rxAO PX Dg rxL X vwCl A ad l rxM61 rxCRED rxPRED rxPSRED) {S0 : Nat → Int → Int} {ws : List Int} (hP : rxPRLC S0 ws) : ∀ (i : Nat) (q : bx_HE), rxYRLC[i]? = some q → rxURLC q = true → ∀ {p : Program} {e : Env} {R : Room} {s : State} {m : MethodId} {args : Array Value} {below : List Frame} {meth : Method} {c : Code} {Q : State → Prop} {H0 : Heap}, rx_Fr rxG rxNW rxAO PX p s m args meth c rxM86 → (∀ q, H0.size ≤ q → A q) → H0 = s.heap → rxM86.2.2.2.2.2.2.1 ≤ R.cells → rxM86.2.2.2.2.2.2.2 ≤ R.slots → rxCRLC.2.2.2.1 ≤ R.frames → rxCRLC.2.2.2.1 * 40 ≤ R.locals → bx_Step p l e R s m args below meth c Q Dg rxL X vwCl A xa H0 ad rxM86 rxYRLC (rxIRLC S0 ws) (rxmRLC S0 ws) S0 rxCRLC.2.2.1 i q := by
  intro i q hq hus p e R s m args below meth c Q H0 hF hA hH0 hmc hms hd hdl
  match i, hq with
  | 0, hq =>
    cases hq
    exact absurd (show false = true from hus) Bool.false_ne_true
  | 1, hq =>
    cases hq
    exact rx_stepC (ins := .invokevirtual 100) (len := 3) (i_p := 2) (M_p := rxM59) (d := rxCRLC.2.2.2.1) (as := [.inr (3, (0, 412)), .inr (3, (0, 525))]) (t := []) (ct := rxC59) hPX hF rfl hA hH0 hmc hms hd hdl (by decide +kernel) rfl rfl (by decide +kernel) (by decide +kernel) hQIWX (by decide +kernel) rfl (Or.inr ⟨_, _, _, 1, rfl, rfl, by omega, rfl, rfl, rfl⟩) (rxsRLC_1 hP)
  | 2, hq =>
    cases hq
    exact absurd (show false = true from hus) Bool.false_ne_true
  | 3, hq =>
    cases hq
    exact rx_stepC (ins := .invokevirtual 100) (len := 3) (i_p := 4) (M_p := rxM59) (d := rxCRLC.2.2.2.1) (as := [.inr (3, (0, 412)), .inr (3, (0, 542))]) (t := []) (ct := rxC59) hPX hF rfl hA hH0 hmc hms hd hdl (by decide +kernel) rfl rfl (by decide +kernel) (by decide +kernel) hQIWX (by decide +kernel) rfl (Or.inr ⟨_, _, _, 1, rfl, rfl, by omega, rfl, rfl, rfl⟩) (rxsRLC_3 hP)
  | 4, hq =>
    cases hq
    exact absurd (show false = true from hus) Bool.false_ne_true
  | 5, hq =>
    cases hq
    exact rx_stepC (ins := .invokevirtual 100) (len := 3) (i_p := 6) (M_p := rxM59) (d := rxCRLC.2.2.2.1) (as := [.inr (3, (0, 412)), .inr (3, (0, 530))]) (t := []) (ct := rxC59) hPX hF rfl hA hH0 hmc hms hd hdl (by decide +kernel) rfl rfl (by decide +kernel) (by decide +kernel) hQIWX (by decide +kernel) rfl (Or.inr ⟨_, _, _, 1, rfl, rfl, by omega, rfl, rfl, rfl⟩) (rxsRLC_5 hP)
  | 6, hq =>
    cases hq
    exact absurd (show false = true from hus) Bool.false_ne_true
  | 7, hq =>
    cases hq
    exact rx_stepC (ins := .invokevirtual 66) (len := 3) (i_p := 8) (M_p := rxM84) (d := rxCRLC.2.2.2.1) (as := [.inr (3, (0, 412))]) (t := []) (ct := rxC84) hPX hF rfl hA hH0 hmc hms hd hdl (by decide +kernel) rfl rfl (by decide +kernel) (by decide +kernel) hQAD (by decide +kernel) rfl (Or.inl ⟨rfl, rfl, rfl⟩) (rxsRLC_7 hP)
  | 8, hq =>
    cases hq
    exact absurd (show false = true from hus) Bool.false_ne_true
  | 9, hq =>
    cases hq
    exact rx_stepC (ins := .invokevirtual 105) (len := 3) (i_p := 10) (M_p := rxM60) (d := rxCRLC.2.2.2.1) (as := [.inr (3, (0, 427)), .inr (0, (10, 0)), .inr (0, (0, (-1))), .inr (0, (0, (-1)))]) (t := []) (ct := rxCOCD) hPX hF rfl hA hH0 hmc hms hd hdl (by decide +kernel) rfl rfl (by decide +kernel) (by decide +kernel) hQOCD (by decide +kernel) rfl (Or.inl ⟨rfl, rfl, rfl⟩) (rxsRLC_9 hP)
  | 10, hq =>
    cases hq
    exact absurd (show false = true from hus) Bool.false_ne_true
  | 11, hq =>
    cases hq
    exact rx_stepC (ins := .invokevirtual 112) (len := 3) (i_p := 12) (M_p := rxM61) (d := rxCRLC.2.2.2.1) (as := [.inr (3, (0, 412)), .inr (3, (10, 0)), .inr (0, (0, 0))]) (t := []) (ct := rxCRED) hPX hF rfl hA hH0 hmc hms hd hdl (by decide +kernel) rfl rfl (by decide +kernel) (by decide +kernel) hQRED (by decide +kernel) rfl (Or.inr ⟨_, _, _, 1, rfl, rfl, by omega, rfl, rfl, rfl⟩) (rxsRLC_11 hP)
  | 12, hq =>
    cases hq
    exact absurd (show false = true from hus) Bool.false_ne_true
  | n + 13, hq => cases hq
theorem rxQRLC {PX : State → Prop} {Dg : va_G} {A : Nat → Prop} {ad xa : Nat → Nat} {l : Launch} {X : (Nat → Int → Int) → Prop} (hPX : rx_PXOK rxNW A PX) (hsl : ∀ s : State, PX s → ∀ o idx n : Nat, rxSl o idx = some n → ∃ tx : String, vk_R (rxNm o) idx tx (ad n) s)
    (hX : ∀ S S_p : Nat → Int → Int, X S → bx_same rxL (bx_mdl rxCRLC.2.2.1) S S_p → X S_p)
    (ih : ∀ (j2 : Nat) (ct2 : bx_Ct) (M2 : rx_Mt), ct2 ∈ rxCnE j2 → ct2.2.2.2.1 + 1 ≤ rxCRLC.2.2.2.1 → rxT.2.2.2.2.2 j2 = some M2 → bx_Con rxG rxNW rxAO PX Dg rxL X vwCl A ad l M2 ct2) (hQIWX : bx_ConP rxG rxNW rxAO PX Dg rxL X vwCl A ad l rxM59 rxC59 rxPIWX rxPSIWX) (hQAD : bx_ConP rxG rxNW rxAO PX Dg rxL X vwCl A ad l rxM84 rxC84 rxPAD rxPSAD) (hQOCD : bx_ConP rxG rxNW rxAO PX Dg rxL X vwCl A ad l rxM60 rxCOCD rxPOCD rxPSOCD) (hQRED : bx_ConP rxG rxNW rxAO PX Dg rxL X vwCl A ad l rxM61 rxCRED rxPRED rxPSRED) : bx_ConP rxG rxNW rxAO PX Dg rxL X vwCl A ad l rxM86 rxCRLC rxPRLC rxPSRLC :=
  rxQof (xa := xa) (Cn := rxCnE) (f := 30000) (j := 86) (tab := rxYRLC) (us := rxURLC) hPX hsl hX ih rfl rxYcRLC rxIRLC rxmRLC
    (fun S0 ws r I0 I ht0 ht as he he1 hX0 hI0 hP hs ha => by
      have e := he.symm.trans (show bx_ent0 rxNP rxCRLC.1 bx_I0 [] = some ([(0, 0), (0, 0), (0, 0), (0, 0), (0, 0), (0, 0), (0, 0), (0, 0)], [], [.inr (3, (0, 412))]) from rfl)
      cases e
      subst ha
      have h0 : r 0 = 0 := hs.1
      show rxIRLC_0 S0 _ S0
      refine ⟨rfl, ?_⟩
      simp only [List.map_cons, List.map_nil, bx_xv_ok h0]
      rfl)
    (fun S0 ws hP => rxuRLC (xa := xa) hPX hX hQIWX hQAD hQOCD hQRED hP) (fun S0 ws hP => rxgCRLC hP) (fun S0 ws hP => rxgERLC hP)

/-! CONTRACT BY HAND, by program (wip/sim/genhand.py): DeadUnderstudies$Reader.readPlayClause -/
def rxCRPC : bx_Ct := ([(3, (1, 412, 0))], some (0, (0, 0, 1)), [(6, 0), (6, 4), (7, 2), (7, 3), (7, 4), (7, 7), (7, 8), (7, 10), (1021, 0), (1022, 0), (1024, 0), (1025, 0), (1026, 0), (1027, 0), (1034, 0), (1035, 0), (1036, 0)], 8, [(412, 0, 3, (1, 411, 0)), (412, 6, 3, (1, 427, 0))])
def rxIRPC_0 (S0 : Nat → Int → Int) (ws : List Int) (S : Nat → Int → Int) : Prop := S = S0 ∧ ws = [412]
def rxmRPC_0 (S0 : Nat → Int → Int) (ws : List Int) (S : Nat → Int → Int) : Nat := 1000
def rxzRPC_0 : rx_Z := ([(0, 0), (0, 0), (0, 0), (0, 0), (0, 0), (0, 0), (0, 0), (0, 0)], [], [(((0, 412), 6), .inr (3, (0, 427))), (((0, 412), 0), .inr (3, (0, 411)))], 0, 0, 0, [(0, .inr (3, (0, 412)))], [])
def rxIRPC_1 (S0 : Nat → Int → Int) (ws : List Int) (S : Nat → Int → Int) : Prop := rzAt (rzPH (rzCut (S0 411)) (S0 412 1) (rzWs S0) (S0 412 2) (S0 412 7)) S0 S (rzPH (rzCut (S0 411)) (S0 412 1) (rzWs S0))
def rxmRPC_1 (S0 : Nat → Int → Int) (ws : List Int) (S : Nat → Int → Int) : Nat := 900
def rxzRPC_1 : rx_Z := ([(0, 0), (0, 0), (0, 0), (0, 0), (0, 0), (0, 0), (0, 0), (0, 0)], [], [(((0, 412), 0), .inr (3, (0, 411))), (((0, 412), 6), .inr (3, (0, 427)))], 0, 0, 3, [(0, .inr (3, (0, 412)))], [.inr (3, (0, 533)), .inr (3, (0, 412))])
def rxIRPC_2 (S0 : Nat → Int → Int) (ws : List Int) (S : Nat → Int → Int) (r : Int) : Prop := ((r = 1 ∧ rzAt (rzPH (rzCut (S0 411)) (S0 412 1) (rzWs S0) (S0 412 2) (S0 412 7)) S0 S (rzPH1 (rzCut (S0 411)) (S0 412 1) (rzWs S0))) ∨ (r = 0 ∧ rzOc (rzPH (rzCut (S0 411)) (S0 412 1) (rzWs S0) (S0 412 2) (S0 412 7)) S0 S (some 0)))
def rxmRPC_2 (S0 : Nat → Int → Int) (ws : List Int) (S : Nat → Int → Int) (r : Int) : Nat := 890
def rxzRPC_2 : rx_Z := ([(0, 0), (0, 0), (0, 0), (0, 0), (0, 0), (0, 0), (0, 0), (0, 0), (0, 1)], [], [(((0, 412), 0), .inr (3, (0, 411))), (((0, 412), 6), .inr (3, (0, 427)))], 0, 0, 6, [(0, .inr (3, (0, 412)))], [.inr (0, (8, 0))])
def rxIRPC_3 (S0 : Nat → Int → Int) (ws : List Int) (S : Nat → Int → Int) : Prop := rzAt (rzPH (rzCut (S0 411)) (S0 412 1) (rzWs S0) (S0 412 2) (S0 412 7)) S0 S (rzPH1 (rzCut (S0 411)) (S0 412 1) (rzWs S0))
def rxmRPC_3 (S0 : Nat → Int → Int) (ws : List Int) (S : Nat → Int → Int) : Nat := 880
def rxzRPC_3 : rx_Z := ([(0, 0), (0, 0), (0, 0), (0, 0), (0, 0), (0, 0), (0, 0), (0, 0)], [], [(((0, 412), 0), .inr (3, (0, 411))), (((0, 412), 6), .inr (3, (0, 427)))], 0, 0, 12, [(0, .inr (3, (0, 412)))], [.inr (3, (0, 412))])
def rxIRPC_4 (S0 : Nat → Int → Int) (ws : List Int) (S : Nat → Int → Int) (pl : Int) : Prop := rzAt (rzPH (rzCut (S0 411)) (S0 412 1) (rzWs S0) (S0 412 2) (S0 412 7)) S0 S (rzPH1 (rzCut (S0 411)) (S0 412 1) (rzWs S0)) ∧ pl = rzPv (rzCut (S0 411)) (S0 412 1) (S 412 2)
def rxmRPC_4 (S0 : Nat → Int → Int) (ws : List Int) (S : Nat → Int → Int) (pl : Int) : Nat := 870
def rxzRPC_4 : rx_Z := ([(0, 0), (0, 0), (0, 0), (0, 0), (0, 0), (0, 0), (0, 0), (0, 0), ((-2147483648), 6)], [], [(((0, 412), 0), .inr (3, (0, 411))), (((0, 412), 6), .inr (3, (0, 427)))], 0, 0, 15, [(0, .inr (3, (0, 412)))], [.inr (0, (8, 0))])
def rxIRPC_5 (S0 : Nat → Int → Int) (ws : List Int) (S : Nat → Int → Int) (st : Int) : Prop := rzAt (rzPH (rzCut (S0 411)) (S0 412 1) (rzWs S0) (S0 412 2) (S0 412 7)) S0 S (rzPH1 (rzCut (S0 411)) (S0 412 1) (rzWs S0)) ∧ rzPlc (rzCut (S0 411)) (S0 412 1) (S 412 2) = true
def rxmRPC_5 (S0 : Nat → Int → Int) (ws : List Int) (S : Nat → Int → Int) (st : Int) : Nat := 860
def rxzRPC_5 : rx_Z := ([(0, 0), (0, 0), (0, 0), (0, 0), (0, 0), (0, 0), (0, 0), (0, 0), (0, 6)], [], [(((0, 412), 0), .inr (3, (0, 411))), (((0, 412), 6), .inr (3, (0, 427)))], 0, 0, 26, [(0, .inr (3, (0, 412))), (1, .inr (0, (8, 0)))], [.inr (3, (0, 412))])
def rxIRPC_6 (S0 : Nat → Int → Int) (ws : List Int) (S : Nat → Int → Int) (st : Int) : Prop := rzAt (rzPH (rzCut (S0 411)) (S0 412 1) (rzWs S0) (S0 412 2) (S0 412 7)) S0 S (rzPH2 (rzCut (S0 411)) (S0 412 1) (rzWs S0))
def rxmRPC_6 (S0 : Nat → Int → Int) (ws : List Int) (S : Nat → Int → Int) (st : Int) : Nat := 850
def rxzRPC_6 : rx_Z := ([(0, 0), (0, 0), (0, 0), (0, 0), (0, 0), (0, 0), (0, 0), (0, 0), (0, 6)], [], [(((0, 412), 0), .inr (3, (0, 411))), (((0, 412), 6), .inr (3, (0, 427)))], 0, 0, 29, [(0, .inr (3, (0, 412))), (1, .inr (0, (8, 0)))], [])
def rxIRPC_7 (S0 : Nat → Int → Int) (ws : List Int) (S : Nat → Int → Int) (st : Int) : Prop := rzAt (rzPH (rzCut (S0 411)) (S0 412 1) (rzWs S0) (S0 412 2) (S0 412 7)) S0 S (rzPH2 (rzCut (S0 411)) (S0 412 1) (rzWs S0))
def rxmRPC_7 (S0 : Nat → Int → Int) (ws : List Int) (S : Nat → Int → Int) (st : Int) : Nat := 840
def rxzRPC_7 : rx_Z := ([(0, 0), (0, 0), (0, 0), (0, 0), (0, 0), (0, 0), (0, 0), (0, 0), (0, 6)], [], [(((0, 412), 0), .inr (3, (0, 411))), (((0, 412), 6), .inr (3, (0, 427)))], 0, 0, 32, [(0, .inr (3, (0, 412))), (1, .inr (0, (8, 0)))], [.inr (3, (0, 524)), .inr (3, (0, 412))])
def rxIRPC_8 (S0 : Nat → Int → Int) (ws : List Int) (S : Nat → Int → Int) (st r : Int) : Prop := ((r = 1 ∧ rzAt (rzPH (rzCut (S0 411)) (S0 412 1) (rzWs S0) (S0 412 2) (S0 412 7)) S0 S (rzPH3 (rzCut (S0 411)) (S0 412 1) (rzWs S0))) ∨ (r = 0 ∧ rzOc (rzPH (rzCut (S0 411)) (S0 412 1) (rzWs S0) (S0 412 2) (S0 412 7)) S0 S (some 0)))
def rxmRPC_8 (S0 : Nat → Int → Int) (ws : List Int) (S : Nat → Int → Int) (st r : Int) : Nat := 830
def rxzRPC_8 : rx_Z := ([(0, 0), (0, 0), (0, 0), (0, 0), (0, 0), (0, 0), (0, 0), (0, 0), (0, 6), (0, 1)], [], [(((0, 412), 0), .inr (3, (0, 411))), (((0, 412), 6), .inr (3, (0, 427)))], 0, 0, 35, [(0, .inr (3, (0, 412))), (1, .inr (0, (8, 0)))], [.inr (0, (9, 0))])
def rxIRPC_9 (S0 : Nat → Int → Int) (ws : List Int) (S : Nat → Int → Int) (st : Int) : Prop := rzAt (rzPH (rzCut (S0 411)) (S0 412 1) (rzWs S0) (S0 412 2) (S0 412 7)) S0 S (rzPH3 (rzCut (S0 411)) (S0 412 1) (rzWs S0))
def rxmRPC_9 (S0 : Nat → Int → Int) (ws : List Int) (S : Nat → Int → Int) (st : Int) : Nat := 820
def rxzRPC_9 : rx_Z := ([(0, 0), (0, 0), (0, 0), (0, 0), (0, 0), (0, 0), (0, 0), (0, 0), (0, 6)], [], [(((0, 412), 0), .inr (3, (0, 411))), (((0, 412), 6), .inr (3, (0, 427)))], 0, 0, 41, [(0, .inr (3, (0, 412))), (1, .inr (0, (8, 0)))], [.inr (3, (0, 412))])
def rxIRPC_10 (S0 : Nat → Int → Int) (ws : List Int) (S : Nat → Int → Int) (st pl : Int) : Prop := rzAt (rzPH (rzCut (S0 411)) (S0 412 1) (rzWs S0) (S0 412 2) (S0 412 7)) S0 S (rzPH3 (rzCut (S0 411)) (S0 412 1) (rzWs S0)) ∧ pl = rzPv (rzCut (S0 411)) (S0 412 1) (S 412 2)
def rxmRPC_10 (S0 : Nat → Int → Int) (ws : List Int) (S : Nat → Int → Int) (st pl : Int) : Nat := 810
def rxzRPC_10 : rx_Z := ([(0, 0), (0, 0), (0, 0), (0, 0), (0, 0), (0, 0), (0, 0), (0, 0), (0, 6), ((-2147483648), 6)], [], [(((0, 412), 0), .inr (3, (0, 411))), (((0, 412), 6), .inr (3, (0, 427)))], 0, 0, 44, [(0, .inr (3, (0, 412))), (1, .inr (0, (8, 0)))], [.inr (0, (9, 0))])
def rxIRPC_11 (S0 : Nat → Int → Int) (ws : List Int) (S : Nat → Int → Int) (st cu : Int) : Prop := rzAt (rzPH (rzCut (S0 411)) (S0 412 1) (rzWs S0) (S0 412 2) (S0 412 7)) S0 S (rzPH3 (rzCut (S0 411)) (S0 412 1) (rzWs S0)) ∧ rzPlc (rzCut (S0 411)) (S0 412 1) (S 412 2) = true
def rxmRPC_11 (S0 : Nat → Int → Int) (ws : List Int) (S : Nat → Int → Int) (st cu : Int) : Nat := 800
def rxzRPC_11 : rx_Z := ([(0, 0), (0, 0), (0, 0), (0, 0), (0, 0), (0, 0), (0, 0), (0, 0), (0, 6), (0, 6)], [], [(((0, 412), 0), .inr (3, (0, 411))), (((0, 412), 6), .inr (3, (0, 427)))], 0, 0, 55, [(0, .inr (3, (0, 412))), (1, .inr (0, (8, 0))), (2, .inr (0, (9, 0)))], [.inr (3, (0, 412))])
def rxIRPC_12 (S0 : Nat → Int → Int) (ws : List Int) (S : Nat → Int → Int) (st cu : Int) : Prop := rzAt (rzPH (rzCut (S0 411)) (S0 412 1) (rzWs S0) (S0 412 2) (S0 412 7)) S0 S (rzPH4 (rzCut (S0 411)) (S0 412 1) (rzWs S0))
def rxmRPC_12 (S0 : Nat → Int → Int) (ws : List Int) (S : Nat → Int → Int) (st cu : Int) : Nat := 790
def rxzRPC_12 : rx_Z := ([(0, 0), (0, 0), (0, 0), (0, 0), (0, 0), (0, 0), (0, 0), (0, 0), (0, 6), (0, 6)], [], [(((0, 412), 0), .inr (3, (0, 411))), (((0, 412), 6), .inr (3, (0, 427)))], 0, 0, 58, [(0, .inr (3, (0, 412))), (1, .inr (0, (8, 0))), (2, .inr (0, (9, 0)))], [])
def rxIRPC_13 (S0 : Nat → Int → Int) (ws : List Int) (S : Nat → Int → Int) (st cu : Int) : Prop := rzAt (rzPH (rzCut (S0 411)) (S0 412 1) (rzWs S0) (S0 412 2) (S0 412 7)) S0 S (rzPH4 (rzCut (S0 411)) (S0 412 1) (rzWs S0))
def rxmRPC_13 (S0 : Nat → Int → Int) (ws : List Int) (S : Nat → Int → Int) (st cu : Int) : Nat := 780
def rxzRPC_13 : rx_Z := ([(0, 0), (0, 0), (0, 0), (0, 0), (0, 0), (0, 0), (0, 0), (0, 0), (0, 6), (0, 6)], [], [(((0, 412), 0), .inr (3, (0, 411))), (((0, 412), 6), .inr (3, (0, 427)))], 0, 0, 61, [(0, .inr (3, (0, 412))), (1, .inr (0, (8, 0))), (2, .inr (0, (9, 0)))], [.inr (3, (0, 531)), .inr (3, (0, 412))])
def rxIRPC_14 (S0 : Nat → Int → Int) (ws : List Int) (S : Nat → Int → Int) (st cu r : Int) : Prop := rzAt (rzPH (rzCut (S0 411)) (S0 412 1) (rzWs S0) (S0 412 2) (S0 412 7)) S0 S (rzPH4 (rzCut (S0 411)) (S0 412 1) (rzWs S0)) ∧ r = (if rzIs (rzCut (S 411)) (S 412 1) rzW_hush (S 412 2) = true then 1 else 0)
def rxmRPC_14 (S0 : Nat → Int → Int) (ws : List Int) (S : Nat → Int → Int) (st cu r : Int) : Nat := 770
def rxzRPC_14 : rx_Z := ([(0, 0), (0, 0), (0, 0), (0, 0), (0, 0), (0, 0), (0, 0), (0, 0), (0, 6), (0, 6), (0, 1)], [], [(((0, 412), 0), .inr (3, (0, 411))), (((0, 412), 6), .inr (3, (0, 427)))], 0, 0, 64, [(0, .inr (3, (0, 412))), (1, .inr (0, (8, 0))), (2, .inr (0, (9, 0)))], [.inr (0, (10, 0))])
def rxIRPC_15 (S0 : Nat → Int → Int) (ws : List Int) (S : Nat → Int → Int) (st cu hu : Int) : Prop := rzAt (rzPH (rzCut (S0 411)) (S0 412 1) (rzWs S0) (S0 412 2) (S0 412 7)) S0 S (rzPH4 (rzCut (S0 411)) (S0 412 1) (rzWs S0)) ∧ hu = 0 ∧ rzIs (rzCut (S0 411)) (S0 412 1) rzW_hush (S 412 2) = false
def rxmRPC_15 (S0 : Nat → Int → Int) (ws : List Int) (S : Nat → Int → Int) (st cu hu : Int) : Nat := 760
def rxzRPC_15 : rx_Z := ([(0, 0), (0, 0), (0, 0), (0, 0), (0, 0), (0, 0), (0, 0), (0, 0), (0, 6), (0, 6), (0, 1)], [], [(((0, 412), 0), .inr (3, (0, 411))), (((0, 412), 6), .inr (3, (0, 427)))], 0, 0, 72, [(0, .inr (3, (0, 412))), (1, .inr (0, (8, 0))), (2, .inr (0, (9, 0))), (3, .inr (0, (10, 0)))], [.inr (3, (0, 541)), .inr (3, (0, 412))])
def rxIRPC_16 (S0 : Nat → Int → Int) (ws : List Int) (S : Nat → Int → Int) (st cu hu r : Int) : Prop := rzAt (rzPH (rzCut (S0 411)) (S0 412 1) (rzWs S0) (S0 412 2) (S0 412 7)) S0 S (rzPH4 (rzCut (S0 411)) (S0 412 1) (rzWs S0)) ∧ hu = 0 ∧ rzIs (rzCut (S0 411)) (S0 412 1) rzW_hush (S 412 2) = false ∧ r = (if rzIs (rzCut (S 411)) (S 412 1) rzW_say (S 412 2) = true then 1 else 0)
def rxmRPC_16 (S0 : Nat → Int → Int) (ws : List Int) (S : Nat → Int → Int) (st cu hu r : Int) : Nat := 750
def rxzRPC_16 : rx_Z := ([(0, 0), (0, 0), (0, 0), (0, 0), (0, 0), (0, 0), (0, 0), (0, 0), (0, 6), (0, 6), (0, 1), (0, 1)], [], [(((0, 412), 0), .inr (3, (0, 411))), (((0, 412), 6), .inr (3, (0, 427)))], 0, 0, 75, [(0, .inr (3, (0, 412))), (1, .inr (0, (8, 0))), (2, .inr (0, (9, 0))), (3, .inr (0, (10, 0)))], [.inr (0, (11, 0))])
def rxIRPC_17 (S0 : Nat → Int → Int) (ws : List Int) (S : Nat → Int → Int) (st cu hu : Int) : Prop := rzAt (rzPH (rzCut (S0 411)) (S0 412 1) (rzWs S0) (S0 412 2) (S0 412 7)) S0 S (rzPH4 (rzCut (S0 411)) (S0 412 1) (rzWs S0)) ∧ ((hu = 1 ∧ rzIs (rzCut (S0 411)) (S0 412 1) rzW_hush (S 412 2) = true) ∨ (hu = 0 ∧ rzIs (rzCut (S0 411)) (S0 412 1) rzW_hush (S 412 2) = false ∧ rzIs (rzCut (S0 411)) (S0 412 1) rzW_say (S 412 2) = true))
def rxmRPC_17 (S0 : Nat → Int → Int) (ws : List Int) (S : Nat → Int → Int) (st cu hu : Int) : Nat := 740
def rxzRPC_17 : rx_Z := ([(0, 0), (0, 0), (0, 0), (0, 0), (0, 0), (0, 0), (0, 0), (0, 0), (0, 6), (0, 6), (0, 1)], [], [(((0, 412), 0), .inr (3, (0, 411))), (((0, 412), 6), .inr (3, (0, 427)))], 0, 0, 84, [(0, .inr (3, (0, 412))), (1, .inr (0, (8, 0))), (2, .inr (0, (9, 0))), (3, .inr (0, (10, 0)))], [.inr (3, (0, 412))])
def rxIRPC_18 (S0 : Nat → Int → Int) (ws : List Int) (S : Nat → Int → Int) (st cu hu : Int) : Prop := rzAt (rzPH (rzCut (S0 411)) (S0 412 1) (rzWs S0) (S0 412 2) (S0 412 7)) S0 S (fun f lf r => rzAlt (decide (hu = 1)) (r = (true, f, lf)) (rzThen (rzEx (rzCut (S0 411)) (S0 412 1) (rzWs S0) 0 f lf) (rzPG (rzCut (S0 411)) (S0 412 1) (rzWs S0)) r))
def rxmRPC_18 (S0 : Nat → Int → Int) (ws : List Int) (S : Nat → Int → Int) (st cu hu : Int) : Nat := 730
def rxzRPC_18 : rx_Z := ([(0, 0), (0, 0), (0, 0), (0, 0), (0, 0), (0, 0), (0, 0), (0, 0), (0, 6), (0, 6), (0, 1)], [], [(((0, 412), 0), .inr (3, (0, 411))), (((0, 412), 6), .inr (3, (0, 427)))], 0, 0, 87, [(0, .inr (3, (0, 412))), (1, .inr (0, (8, 0))), (2, .inr (0, (9, 0))), (3, .inr (0, (10, 0)))], [])
def rxIRPC_19 (S0 : Nat → Int → Int) (ws : List Int) (S : Nat → Int → Int) (st cu hu ki : Int) : Prop := rzAt (rzPH (rzCut (S0 411)) (S0 412 1) (rzWs S0) (S0 412 2) (S0 412 7)) S0 S (fun f lf r => rzAlt (decide (hu = 1)) (r = (true, f, lf)) (rzThen (rzEx (rzCut (S0 411)) (S0 412 1) (rzWs S0) 0 f lf) (rzPG (rzCut (S0 411)) (S0 412 1) (rzWs S0)) r))
def rxmRPC_19 (S0 : Nat → Int → Int) (ws : List Int) (S : Nat → Int → Int) (st cu hu ki : Int) : Nat := 720
def rxzRPC_19 : rx_Z := ([(0, 0), (0, 0), (0, 0), (0, 0), (0, 0), (0, 0), (0, 0), (0, 0), (0, 6), (0, 6), (0, 1), (0, 4)], [], [(((0, 412), 0), .inr (3, (0, 411))), (((0, 412), 6), .inr (3, (0, 427)))], 0, 0, 102, [(0, .inr (3, (0, 412))), (1, .inr (0, (8, 0))), (2, .inr (0, (9, 0))), (3, .inr (0, (10, 0)))], [.inr (0, (9, 0)), .inr (0, (8, 0)), .inr (0, (11, 0)), .inr (3, (0, 427))])
def rxIRPC_20 (S0 : Nat → Int → Int) (ws : List Int) (S : Nat → Int → Int) (st cu hu ki : Int) : Prop := rzAt (rzPH (rzCut (S0 411)) (S0 412 1) (rzWs S0) (S0 412 2) (S0 412 7)) S0 S (fun f lf r => rzAlt (decide (hu = 1)) (r = (true, f, lf)) (rzThen (rzEx (rzCut (S0 411)) (S0 412 1) (rzWs S0) 0 f lf) (rzPG (rzCut (S0 411)) (S0 412 1) (rzWs S0)) r))
def rxmRPC_20 (S0 : Nat → Int → Int) (ws : List Int) (S : Nat → Int → Int) (st cu hu ki : Int) : Nat := 710
def rxzRPC_20 : rx_Z := ([(0, 0), (0, 0), (0, 0), (0, 0), (0, 0), (0, 0), (0, 0), (0, 0), (0, 6), (0, 6), (0, 1), (0, 4)], [], [(((0, 412), 0), .inr (3, (0, 411))), (((0, 412), 6), .inr (3, (0, 427)))], 0, 0, 105, [(0, .inr (3, (0, 412))), (1, .inr (0, (8, 0))), (2, .inr (0, (9, 0))), (3, .inr (0, (10, 0)))], [])
def rxIRPC_21 (S0 : Nat → Int → Int) (ws : List Int) (S : Nat → Int → Int) (st cu hu sa : Int) : Prop := rzAt (rzPH (rzCut (S0 411)) (S0 412 1) (rzWs S0) (S0 412 2) (S0 412 7)) S0 S (fun f lf => rzThen (rzEx (rzCut (S0 411)) (S0 412 1) (rzWs S0) 0 f lf) (rzPG (rzCut (S0 411)) (S0 412 1) (rzWs S0)))
def rxmRPC_21 (S0 : Nat → Int → Int) (ws : List Int) (S : Nat → Int → Int) (st cu hu sa : Int) : Nat := 700
def rxzRPC_21 : rx_Z := ([(0, 0), (0, 0), (0, 0), (0, 0), (0, 0), (0, 0), (0, 0), (0, 0), (0, 6), (0, 6), (0, 1), (0, 1522)], [], [(((11, 0), 1000014), .inl none), (((0, 412), 0), .inr (3, (0, 411))), (((0, 412), 6), .inr (3, (0, 427)))], 0, 0, 120, [(0, .inr (3, (0, 412))), (1, .inr (0, (8, 0))), (2, .inr (0, (9, 0))), (3, .inr (0, (10, 0)))], [.inr (0, (0, 0)), .inr (3, (11, 0)), .inr (3, (0, 412))])
def rxIRPC_22 (S0 : Nat → Int → Int) (ws : List Int) (S : Nat → Int → Int) (st cu hu sa res : Int) : Prop := ((res = 1 ∧ rzAt (rzPH (rzCut (S0 411)) (S0 412 1) (rzWs S0) (S0 412 2) (S0 412 7)) S0 S (rzPG (rzCut (S0 411)) (S0 412 1) (rzWs S0))) ∨ (res = 0 ∧ rzOc (rzPH (rzCut (S0 411)) (S0 412 1) (rzWs S0) (S0 412 2) (S0 412 7)) S0 S (some 0)))
def rxmRPC_22 (S0 : Nat → Int → Int) (ws : List Int) (S : Nat → Int → Int) (st cu hu sa res : Int) : Nat := 690
def rxzRPC_22 : rx_Z := ([(0, 0), (0, 0), (0, 0), (0, 0), (0, 0), (0, 0), (0, 0), (0, 0), (0, 6), (0, 6), (0, 1), (0, 1522), (0, 1)], [], [(((11, 0), 1000014), .inl none), (((0, 412), 0), .inr (3, (0, 411))), (((0, 412), 6), .inr (3, (0, 427)))], 0, 0, 123, [(0, .inr (3, (0, 412))), (1, .inr (0, (8, 0))), (2, .inr (0, (9, 0))), (3, .inr (0, (10, 0)))], [.inr (0, (12, 0))])
def rxIRPC_23 (S0 : Nat → Int → Int) (ws : List Int) (S : Nat → Int → Int) (st cu hu : Int) : Prop := rzAt (rzPH (rzCut (S0 411)) (S0 412 1) (rzWs S0) (S0 412 2) (S0 412 7)) S0 S (rzPG (rzCut (S0 411)) (S0 412 1) (rzWs S0))
def rxmRPC_23 (S0 : Nat → Int → Int) (ws : List Int) (S : Nat → Int → Int) (st cu hu : Int) : Nat := 680
def rxzRPC_23 : rx_Z := ([(0, 0), (0, 0), (0, 0), (0, 0), (0, 0), (0, 0), (0, 0), (0, 0), (0, 6), (0, 6), (0, 1)], [], [(((0, 412), 0), .inr (3, (0, 411))), (((0, 412), 6), .inr (3, (0, 427)))], 0, 0, 131, [(0, .inr (3, (0, 412))), (1, .inr (0, (8, 0))), (2, .inr (0, (9, 0))), (3, .inr (0, (10, 0)))], [.inr (3, (0, 529)), .inr (3, (0, 412))])
def rxIRPC_24 (S0 : Nat → Int → Int) (ws : List Int) (S : Nat → Int → Int) (st cu hu r : Int) : Prop := rzAt (rzPH (rzCut (S0 411)) (S0 412 1) (rzWs S0) (S0 412 2) (S0 412 7)) S0 S (rzPG (rzCut (S0 411)) (S0 412 1) (rzWs S0)) ∧ r = (if rzIs (rzCut (S 411)) (S 412 1) rzW_go (S 412 2) = true then 1 else 0)
def rxmRPC_24 (S0 : Nat → Int → Int) (ws : List Int) (S : Nat → Int → Int) (st cu hu r : Int) : Nat := 670
def rxzRPC_24 : rx_Z := ([(0, 0), (0, 0), (0, 0), (0, 0), (0, 0), (0, 0), (0, 0), (0, 0), (0, 6), (0, 6), (0, 1), (0, 1)], [], [(((0, 412), 0), .inr (3, (0, 411))), (((0, 412), 6), .inr (3, (0, 427)))], 0, 0, 134, [(0, .inr (3, (0, 412))), (1, .inr (0, (8, 0))), (2, .inr (0, (9, 0))), (3, .inr (0, (10, 0)))], [.inr (0, (11, 0))])
def rxIRPC_25 (S0 : Nat → Int → Int) (ws : List Int) (S : Nat → Int → Int) (st cu hu : Int) : Prop := rzAt (rzPH (rzCut (S0 411)) (S0 412 1) (rzWs S0) (S0 412 2) (S0 412 7)) S0 S (rzPG (rzCut (S0 411)) (S0 412 1) (rzWs S0)) ∧ rzIs (rzCut (S0 411)) (S0 412 1) rzW_go (S 412 2) = true
def rxmRPC_25 (S0 : Nat → Int → Int) (ws : List Int) (S : Nat → Int → Int) (st cu hu : Int) : Nat := 660
def rxzRPC_25 : rx_Z := ([(0, 0), (0, 0), (0, 0), (0, 0), (0, 0), (0, 0), (0, 0), (0, 0), (0, 6), (0, 6), (0, 1)], [], [(((0, 412), 0), .inr (3, (0, 411))), (((0, 412), 6), .inr (3, (0, 427)))], 0, 0, 140, [(0, .inr (3, (0, 412))), (1, .inr (0, (8, 0))), (2, .inr (0, (9, 0))), (3, .inr (0, (10, 0)))], [.inr (3, (0, 412))])
def rxIRPC_26 (S0 : Nat → Int → Int) (ws : List Int) (S : Nat → Int → Int) (st cu hu : Int) : Prop := rzAt (rzPH (rzCut (S0 411)) (S0 412 1) (rzWs S0) (S0 412 2) (S0 412 7)) S0 S (rzEx (rzCut (S0 411)) (S0 412 1) (rzWs S0) 0)
def rxmRPC_26 (S0 : Nat → Int → Int) (ws : List Int) (S : Nat → Int → Int) (st cu hu : Int) : Nat := 650
def rxzRPC_26 : rx_Z := ([(0, 0), (0, 0), (0, 0), (0, 0), (0, 0), (0, 0), (0, 0), (0, 0), (0, 6), (0, 6), (0, 1)], [], [(((0, 412), 0), .inr (3, (0, 411))), (((0, 412), 6), .inr (3, (0, 427)))], 0, 0, 143, [(0, .inr (3, (0, 412))), (1, .inr (0, (8, 0))), (2, .inr (0, (9, 0))), (3, .inr (0, (10, 0)))], [])
def rxIRPC_27 (S0 : Nat → Int → Int) (ws : List Int) (S : Nat → Int → Int) (st cu hu sa : Int) : Prop := rzAt (rzPH (rzCut (S0 411)) (S0 412 1) (rzWs S0) (S0 412 2) (S0 412 7)) S0 S (rzEx (rzCut (S0 411)) (S0 412 1) (rzWs S0) 0)
def rxmRPC_27 (S0 : Nat → Int → Int) (ws : List Int) (S : Nat → Int → Int) (st cu hu sa : Int) : Nat := 640
def rxzRPC_27 : rx_Z := ([(0, 0), (0, 0), (0, 0), (0, 0), (0, 0), (0, 0), (0, 0), (0, 0), (0, 6), (0, 6), (0, 1), (0, 1522)], [], [(((11, 0), 1000014), .inl none), (((0, 412), 0), .inr (3, (0, 411))), (((0, 412), 6), .inr (3, (0, 427)))], 0, 0, 152, [(0, .inr (3, (0, 412))), (1, .inr (0, (8, 0))), (2, .inr (0, (9, 0))), (3, .inr (0, (10, 0)))], [.inr (0, (0, 0)), .inr (3, (11, 0)), .inr (3, (0, 412))])
def rxIRPC_28 (S0 : Nat → Int → Int) (ws : List Int) (S : Nat → Int → Int) (st cu hu sa res : Int) : Prop := rzOc (rzPH (rzCut (S0 411)) (S0 412 1) (rzWs S0) (S0 412 2) (S0 412 7)) S0 S (some res)
def rxmRPC_28 (S0 : Nat → Int → Int) (ws : List Int) (S : Nat → Int → Int) (st cu hu sa res : Int) : Nat := 630
def rxzRPC_28 : rx_Z := ([(0, 0), (0, 0), (0, 0), (0, 0), (0, 0), (0, 0), (0, 0), (0, 0), (0, 6), (0, 6), (0, 1), (0, 1522), (0, 1)], [], [(((11, 0), 1000014), .inl none), (((0, 412), 0), .inr (3, (0, 411))), (((0, 412), 6), .inr (3, (0, 427)))], 0, 0, 155, [(0, .inr (3, (0, 412))), (1, .inr (0, (8, 0))), (2, .inr (0, (9, 0))), (3, .inr (0, (10, 0)))], [.inr (0, (12, 0))])
def rxoRPC_0_0 : bx_HO := (([(0, 0), (0, 0), (0, 0), (0, 0), (0, 0), (0, 0), (0, 0), (0, 0)], [], [(((0, 412), 6), .inr (3, (0, 427))), (((0, 412), 0), .inr (3, (0, 411)))], 0, 0, 3, [(0, .inr (3, (0, 412)))], [.inr (3, (0, 533)), .inr (3, (0, 412))]), [], [], [(0, 0), (0, 0), (0, 0), (0, 0), (0, 0), (0, 0), (0, 0), (0, 0)], 1)
def rxoRPC_2_0 : bx_HO := (([(0, 0), (0, 0), (0, 0), (0, 0), (0, 0), (0, 0), (0, 0), (0, 0), (1, 1)], [(3, (8, 0), (0, 0))], [(((0, 412), 0), .inr (3, (0, 411))), (((0, 412), 6), .inr (3, (0, 427)))], 0, 0, 12, [(0, .inr (3, (0, 412)))], [.inr (3, (0, 412))]), [], [], [(0, 0), (0, 0), (0, 0), (0, 0), (0, 0), (0, 0), (0, 0), (0, 0)], 3)
def rxeRPC_2_0 : rx_End × List (Nat × Int × Int) := (([(0, 0), (0, 0), (0, 0), (0, 0), (0, 0), (0, 0), (0, 0), (0, 0), (0, 0)], [], [(((0, 412), 0), .inr (3, (0, 411))), (((0, 412), 6), .inr (3, (0, 427)))], some (.inr (0, (0, 0)))), [])
def rxoRPC_4_0 : bx_HO := (([(0, 0), (0, 0), (0, 0), (0, 0), (0, 0), (0, 0), (0, 0), (0, 0), (0, 6)], [], [(((0, 412), 0), .inr (3, (0, 411))), (((0, 412), 6), .inr (3, (0, 427)))], 0, 0, 26, [(1, .inr (0, (8, 0))), (0, .inr (3, (0, 412)))], [.inr (3, (0, 412))]), [], [], [(0, 0), (0, 0), (0, 0), (0, 0), (0, 0), (0, 0), (0, 0), (0, 0), (8, 0)], 5)
def rxeRPC_4_0 : rx_End × List (Nat × Int × Int) := (([(0, 0), (0, 0), (0, 0), (0, 0), (0, 0), (0, 0), (0, 0), (0, 0), ((-2147483648), (-1)), (0, 400)], [], [(((0, 0), 1851192626986356798227167157524121751206303872841384192011665411000000), .inr (0, (9, 0))), (((0, 412), 4), .inr (0, (9, 0))), (((0, 0), 1851192626986356797825753743950570534658660943933713684904017920000000), .inr (0, (9, 0))), (((0, 412), 2), .inr (0, (9, 0))), (((0, 412), 0), .inr (3, (0, 411))), (((0, 412), 6), .inr (3, (0, 427)))], some (.inr (0, (0, 0)))), [])
def rxoRPC_6_0 : bx_HO := (([(0, 0), (0, 0), (0, 0), (0, 0), (0, 0), (0, 0), (0, 0), (0, 0), (0, 6)], [], [(((0, 412), 0), .inr (3, (0, 411))), (((0, 412), 6), .inr (3, (0, 427)))], 0, 0, 32, [(0, .inr (3, (0, 412))), (1, .inr (0, (8, 0)))], [.inr (3, (0, 524)), .inr (3, (0, 412))]), [], [], [(0, 0), (0, 0), (0, 0), (0, 0), (0, 0), (0, 0), (0, 0), (0, 0), (8, 0)], 7)
def rxoRPC_8_0 : bx_HO := (([(0, 0), (0, 0), (0, 0), (0, 0), (0, 0), (0, 0), (0, 0), (0, 0), (0, 6), (1, 1)], [(3, (9, 0), (0, 0))], [(((0, 412), 0), .inr (3, (0, 411))), (((0, 412), 6), .inr (3, (0, 427)))], 0, 0, 41, [(0, .inr (3, (0, 412))), (1, .inr (0, (8, 0)))], [.inr (3, (0, 412))]), [], [], [(0, 0), (0, 0), (0, 0), (0, 0), (0, 0), (0, 0), (0, 0), (0, 0), (8, 0)], 9)
def rxeRPC_8_0 : rx_End × List (Nat × Int × Int) := (([(0, 0), (0, 0), (0, 0), (0, 0), (0, 0), (0, 0), (0, 0), (0, 0), (0, 6), (0, 0)], [], [(((0, 412), 0), .inr (3, (0, 411))), (((0, 412), 6), .inr (3, (0, 427)))], some (.inr (0, (0, 0)))), [])
def rxoRPC_10_0 : bx_HO := (([(0, 0), (0, 0), (0, 0), (0, 0), (0, 0), (0, 0), (0, 0), (0, 0), (0, 6), (0, 6)], [], [(((0, 412), 0), .inr (3, (0, 411))), (((0, 412), 6), .inr (3, (0, 427)))], 0, 0, 55, [(2, .inr (0, (9, 0))), (0, .inr (3, (0, 412))), (1, .inr (0, (8, 0)))], [.inr (3, (0, 412))]), [], [], [(0, 0), (0, 0), (0, 0), (0, 0), (0, 0), (0, 0), (0, 0), (0, 0), (8, 0), (9, 0)], 11)
def rxeRPC_10_0 : rx_End × List (Nat × Int × Int) := (([(0, 0), (0, 0), (0, 0), (0, 0), (0, 0), (0, 0), (0, 0), (0, 0), (0, 6), ((-2147483648), (-1)), (0, 400)], [], [(((0, 0), 1851192626986356798227167157524121751206303872841384192011665411000000), .inr (0, (10, 0))), (((0, 412), 4), .inr (0, (10, 0))), (((0, 0), 1851192626986356797825753743950570534658660943933713684904017920000000), .inr (0, (10, 0))), (((0, 412), 2), .inr (0, (10, 0))), (((0, 412), 0), .inr (3, (0, 411))), (((0, 412), 6), .inr (3, (0, 427)))], some (.inr (0, (0, 0)))), [])
def rxoRPC_12_0 : bx_HO := (([(0, 0), (0, 0), (0, 0), (0, 0), (0, 0), (0, 0), (0, 0), (0, 0), (0, 6), (0, 6)], [], [(((0, 412), 0), .inr (3, (0, 411))), (((0, 412), 6), .inr (3, (0, 427)))], 0, 0, 61, [(0, .inr (3, (0, 412))), (1, .inr (0, (8, 0))), (2, .inr (0, (9, 0)))], [.inr (3, (0, 531)), .inr (3, (0, 412))]), [], [], [(0, 0), (0, 0), (0, 0), (0, 0), (0, 0), (0, 0), (0, 0), (0, 0), (8, 0), (9, 0)], 13)
def rxoRPC_14_0 : bx_HO := (([(0, 0), (0, 0), (0, 0), (0, 0), (0, 0), (0, 0), (0, 0), (0, 0), (0, 6), (0, 6), (0, 0)], [], [(((0, 412), 0), .inr (3, (0, 411))), (((0, 412), 6), .inr (3, (0, 427)))], 0, 0, 72, [(3, .inr (0, (10, 0))), (0, .inr (3, (0, 412))), (1, .inr (0, (8, 0))), (2, .inr (0, (9, 0)))], [.inr (3, (0, 541)), .inr (3, (0, 412))]), [], [], [(0, 0), (0, 0), (0, 0), (0, 0), (0, 0), (0, 0), (0, 0), (0, 0), (8, 0), (9, 0), (10, 0)], 15)
def rxoRPC_14_1 : bx_HO := (([(0, 0), (0, 0), (0, 0), (0, 0), (0, 0), (0, 0), (0, 0), (0, 0), (0, 6), (0, 6), (1, 1)], [(3, (10, 0), (0, 0))], [(((0, 412), 0), .inr (3, (0, 411))), (((0, 412), 6), .inr (3, (0, 427)))], 0, 0, 84, [(3, .inr (0, (10, 0))), (0, .inr (3, (0, 412))), (1, .inr (0, (8, 0))), (2, .inr (0, (9, 0)))], [.inr (3, (0, 412))]), [], [], [(0, 0), (0, 0), (0, 0), (0, 0), (0, 0), (0, 0), (0, 0), (0, 0), (8, 0), (9, 0), (10, 0)], 17)
def rxoRPC_16_0 : bx_HO := (([(0, 0), (0, 0), (0, 0), (0, 0), (0, 0), (0, 0), (0, 0), (0, 0), (0, 6), (0, 6), (0, 1), (1, 1)], [(3, (11, 0), (0, 0))], [(((0, 412), 0), .inr (3, (0, 411))), (((0, 412), 6), .inr (3, (0, 427)))], 0, 0, 84, [(0, .inr (3, (0, 412))), (1, .inr (0, (8, 0))), (2, .inr (0, (9, 0))), (3, .inr (0, (10, 0)))], [.inr (3, (0, 412))]), [], [], [(0, 0), (0, 0), (0, 0), (0, 0), (0, 0), (0, 0), (0, 0), (0, 0), (8, 0), (9, 0), (10, 0)], 17)
def rxeRPC_16_0 : rx_End × List (Nat × Int × Int) := (([(0, 0), (0, 0), (0, 0), (0, 0), (0, 0), (0, 0), (0, 0), (0, 0), (0, 6), (0, 6), (0, 1), (0, 0), (0, 400)], [], [(((0, 0), 1851192626986356798227167157524121751206303872841384192011665411000000), .inr (0, (12, 0))), (((0, 412), 4), .inr (0, (12, 0))), (((0, 0), 1851192626986356797825753743950570534658660943933713684904017920000000), .inr (0, (12, 0))), (((0, 412), 2), .inr (0, (12, 0))), (((0, 412), 0), .inr (3, (0, 411))), (((0, 412), 6), .inr (3, (0, 427)))], some (.inr (0, (0, 0)))), [])
def rxoRPC_18_0 : bx_HO := (([(0, 0), (0, 0), (0, 0), (0, 0), (0, 0), (0, 0), (0, 0), (0, 0), (0, 6), (0, 6), (1, 1)], [(3, (10, 0), (0, 0))], [(((0, 412), 0), .inr (3, (0, 411))), (((0, 412), 6), .inr (3, (0, 427)))], 0, 0, 102, [(0, .inr (3, (0, 412))), (1, .inr (0, (8, 0))), (2, .inr (0, (9, 0))), (3, .inr (0, (10, 0)))], [.inr (0, (9, 0)), .inr (0, (8, 0)), .inr (0, (0, 4)), .inr (3, (0, 427))]), [], [], [(0, 0), (0, 0), (0, 0), (0, 0), (0, 0), (0, 0), (0, 0), (0, 0), (8, 0), (9, 0), (10, 0), (0, 4)], 19)
def rxoRPC_18_1 : bx_HO := (([(0, 0), (0, 0), (0, 0), (0, 0), (0, 0), (0, 0), (0, 0), (0, 0), (0, 6), (0, 6), (0, 0)], [], [(((0, 412), 0), .inr (3, (0, 411))), (((0, 412), 6), .inr (3, (0, 427)))], 0, 0, 102, [(0, .inr (3, (0, 412))), (1, .inr (0, (8, 0))), (2, .inr (0, (9, 0))), (3, .inr (0, (10, 0)))], [.inr (0, (9, 0)), .inr (0, (8, 0)), .inr (0, (0, 3)), .inr (3, (0, 427))]), [], [], [(0, 0), (0, 0), (0, 0), (0, 0), (0, 0), (0, 0), (0, 0), (0, 0), (8, 0), (9, 0), (10, 0), (0, 3)], 19)
def rxoRPC_20_0 : bx_HO := (([(0, 0), (0, 0), (0, 0), (0, 0), (0, 0), (0, 0), (0, 0), (0, 0), (0, 6), (0, 6), (0, 0), (0, 4), (0, 1522)], [], [(((0, 0), 1851192626986356799029993984671224184301589730656725206235807744000000), .inr (3, (12, 0))), (((0, 427), 8), .inr (3, (12, 0))), (((12, 0), 1000014), .inl none), (((0, 412), 0), .inr (3, (0, 411))), (((0, 412), 6), .inr (3, (0, 427)))], 0, 0, 120, [(0, .inr (3, (0, 412))), (1, .inr (0, (8, 0))), (2, .inr (0, (9, 0))), (3, .inr (0, (10, 0)))], [.inr (0, (0, 0)), .inr (3, (12, 0)), .inr (3, (0, 412))]), [], [], [(0, 0), (0, 0), (0, 0), (0, 0), (0, 0), (0, 0), (0, 0), (0, 0), (8, 0), (9, 0), (10, 0), (12, 0)], 21)
def rxeRPC_20_0 : rx_End × List (Nat × Int × Int) := (([(0, 0), (0, 0), (0, 0), (0, 0), (0, 0), (0, 0), (0, 0), (0, 0), (0, 6), (0, 6), (1, 1), (0, 4)], [(3, (10, 0), (0, 0))], [(((0, 412), 0), .inr (3, (0, 411))), (((0, 412), 6), .inr (3, (0, 427)))], some (.inr (0, (0, 1)))), [])
def rxoRPC_22_0 : bx_HO := (([(0, 0), (0, 0), (0, 0), (0, 0), (0, 0), (0, 0), (0, 0), (0, 0), (0, 6), (0, 6), (0, 1), (0, 1522), (1, 1)], [(3, (12, 0), (0, 0))], [(((11, 0), 1000014), .inl none), (((0, 412), 0), .inr (3, (0, 411))), (((0, 412), 6), .inr (3, (0, 427)))], 0, 0, 131, [(0, .inr (3, (0, 412))), (1, .inr (0, (8, 0))), (2, .inr (0, (9, 0))), (3, .inr (0, (10, 0)))], [.inr (3, (0, 529)), .inr (3, (0, 412))]), [], [], [(0, 0), (0, 0), (0, 0), (0, 0), (0, 0), (0, 0), (0, 0), (0, 0), (8, 0), (9, 0), (10, 0)], 23)
def rxeRPC_22_0 : rx_End × List (Nat × Int × Int) := (([(0, 0), (0, 0), (0, 0), (0, 0), (0, 0), (0, 0), (0, 0), (0, 0), (0, 6), (0, 6), (0, 1), (0, 1522), (0, 0)], [], [(((11, 0), 1000014), .inl none), (((0, 412), 0), .inr (3, (0, 411))), (((0, 412), 6), .inr (3, (0, 427)))], some (.inr (0, (0, 0)))), [])
def rxoRPC_24_0 : bx_HO := (([(0, 0), (0, 0), (0, 0), (0, 0), (0, 0), (0, 0), (0, 0), (0, 0), (0, 6), (0, 6), (0, 1), (1, 1)], [(3, (11, 0), (0, 0))], [(((0, 412), 0), .inr (3, (0, 411))), (((0, 412), 6), .inr (3, (0, 427)))], 0, 0, 140, [(0, .inr (3, (0, 412))), (1, .inr (0, (8, 0))), (2, .inr (0, (9, 0))), (3, .inr (0, (10, 0)))], [.inr (3, (0, 412))]), [], [], [(0, 0), (0, 0), (0, 0), (0, 0), (0, 0), (0, 0), (0, 0), (0, 0), (8, 0), (9, 0), (10, 0)], 25)
def rxeRPC_24_0 : rx_End × List (Nat × Int × Int) := (([(0, 0), (0, 0), (0, 0), (0, 0), (0, 0), (0, 0), (0, 0), (0, 0), (0, 6), (0, 6), (0, 1), (0, 0)], [], [(((0, 412), 0), .inr (3, (0, 411))), (((0, 412), 6), .inr (3, (0, 427)))], some (.inr (0, (0, 1)))), [])
def rxoRPC_26_0 : bx_HO := (([(0, 0), (0, 0), (0, 0), (0, 0), (0, 0), (0, 0), (0, 0), (0, 0), (0, 6), (0, 6), (0, 1), (0, 1522)], [], [(((0, 0), 1851192626986356799230700691457999792575411195110560459789631488000000), .inr (3, (11, 0))), (((0, 427), 9), .inr (3, (11, 0))), (((11, 0), 1000014), .inl none), (((0, 412), 0), .inr (3, (0, 411))), (((0, 412), 6), .inr (3, (0, 427)))], 0, 0, 152, [(0, .inr (3, (0, 412))), (1, .inr (0, (8, 0))), (2, .inr (0, (9, 0))), (3, .inr (0, (10, 0)))], [.inr (0, (0, 0)), .inr (3, (11, 0)), .inr (3, (0, 412))]), [], [], [(0, 0), (0, 0), (0, 0), (0, 0), (0, 0), (0, 0), (0, 0), (0, 0), (8, 0), (9, 0), (10, 0), (11, 0)], 27)
def rxeRPC_28_0 : rx_End × List (Nat × Int × Int) := (([(0, 0), (0, 0), (0, 0), (0, 0), (0, 0), (0, 0), (0, 0), (0, 0), (0, 6), (0, 6), (0, 1), (0, 1522), (0, 1)], [], [(((11, 0), 1000014), .inl none), (((0, 412), 0), .inr (3, (0, 411))), (((0, 412), 6), .inr (3, (0, 427)))], some (.inr (0, (12, 0)))), [])
def rxYRPC : List bx_HE := [(rxzRPC_0, [rxoRPC_0_0], []), (rxzRPC_1, [], []), (rxzRPC_2, [rxoRPC_2_0], [rxeRPC_2_0]), (rxzRPC_3, [], []), (rxzRPC_4, [rxoRPC_4_0], [rxeRPC_4_0]), (rxzRPC_5, [], []), (rxzRPC_6, [rxoRPC_6_0], []), (rxzRPC_7, [], []), (rxzRPC_8, [rxoRPC_8_0], [rxeRPC_8_0]), (rxzRPC_9, [], []), (rxzRPC_10, [rxoRPC_10_0], [rxeRPC_10_0]), (rxzRPC_11, [], []), (rxzRPC_12, [rxoRPC_12_0], []), (rxzRPC_13, [], []), (rxzRPC_14, [rxoRPC_14_0, rxoRPC_14_1], []), (rxzRPC_15, [], []), (rxzRPC_16, [rxoRPC_16_0], [rxeRPC_16_0]), (rxzRPC_17, [], []), (rxzRPC_18, [rxoRPC_18_0, rxoRPC_18_1], []), (rxzRPC_19, [], []), (rxzRPC_20, [rxoRPC_20_0], [rxeRPC_20_0]), (rxzRPC_21, [], []), (rxzRPC_22, [rxoRPC_22_0], [rxeRPC_22_0]), (rxzRPC_23, [], []), (rxzRPC_24, [rxoRPC_24_0], [rxeRPC_24_0]), (rxzRPC_25, [], []), (rxzRPC_26, [rxoRPC_26_0], []), (rxzRPC_27, [], []), (rxzRPC_28, [], [rxeRPC_28_0])]
def rxURPC (q : bx_HE) : Bool := Nat.beq (rx_zpc q.1) 3 || Nat.beq (rx_zpc q.1) 12 || Nat.beq (rx_zpc q.1) 26 || Nat.beq (rx_zpc q.1) 32 || Nat.beq (rx_zpc q.1) 41 || Nat.beq (rx_zpc q.1) 55 || Nat.beq (rx_zpc q.1) 61 || Nat.beq (rx_zpc q.1) 72 || Nat.beq (rx_zpc q.1) 84 || Nat.beq (rx_zpc q.1) 102 || Nat.beq (rx_zpc q.1) 120 || Nat.beq (rx_zpc q.1) 131 || Nat.beq (rx_zpc q.1) 140 || Nat.beq (rx_zpc q.1) 152
def rxYBRPC : bx_B := (rxV, rxNP, rxDmf, bx_mdH rxCRPC.2.2.1)
set_option maxRecDepth 100000 in
theorem rxYcRPC : bx_chkH rxYBRPC rxM85 rxCRPC rxYRPC (rxURPC, fun cut z => rx_ex2 (rxCT rxYBRPC rxCnE) cut 30000 rxCRPC.2.2.2.1 85 z) = true := by decide +kernel
def rxIRPC (S0 : Nat → Int → Int) (ws : List Int) (i : Nat) : bx_SP := fun S r => match i with | 0 => rxIRPC_0 S0 ws S | 1 => rxIRPC_1 S0 ws S | 2 => rxIRPC_2 S0 ws S (r 8) | 3 => rxIRPC_3 S0 ws S | 4 => rxIRPC_4 S0 ws S (r 8) | 5 => rxIRPC_5 S0 ws S (r 8) | 6 => rxIRPC_6 S0 ws S (r 8) | 7 => rxIRPC_7 S0 ws S (r 8) | 8 => rxIRPC_8 S0 ws S (r 8) (r 9) | 9 => rxIRPC_9 S0 ws S (r 8) | 10 => rxIRPC_10 S0 ws S (r 8) (r 9) | 11 => rxIRPC_11 S0 ws S (r 8) (r 9) | 12 => rxIRPC_12 S0 ws S (r 8) (r 9) | 13 => rxIRPC_13 S0 ws S (r 8) (r 9) | 14 => rxIRPC_14 S0 ws S (r 8) (r 9) (r 10) | 15 => rxIRPC_15 S0 ws S (r 8) (r 9) (r 10) | 16 => rxIRPC_16 S0 ws S (r 8) (r 9) (r 10) (r 11) | 17 => rxIRPC_17 S0 ws S (r 8) (r 9) (r 10) | 18 => rxIRPC_18 S0 ws S (r 8) (r 9) (r 10) | 19 => rxIRPC_19 S0 ws S (r 8) (r 9) (r 10) (r 11) | 20 => rxIRPC_20 S0 ws S (r 8) (r 9) (r 10) (r 11) | 21 => rxIRPC_21 S0 ws S (r 8) (r 9) (r 10) (r 11) | 22 => rxIRPC_22 S0 ws S (r 8) (r 9) (r 10) (r 11) (r 12) | 23 => rxIRPC_23 S0 ws S (r 8) (r 9) (r 10) | 24 => rxIRPC_24 S0 ws S (r 8) (r 9) (r 10) (r 11) | 25 => rxIRPC_25 S0 ws S (r 8) (r 9) (r 10) | 26 => rxIRPC_26 S0 ws S (r 8) (r 9) (r 10) | 27 => rxIRPC_27 S0 ws S (r 8) (r 9) (r 10) (r 11) | 28 => rxIRPC_28 S0 ws S (r 8) (r 9) (r 10) (r 11) (r 12) | _ => False
def rxmRPC (S0 : Nat → Int → Int) (ws : List Int) (i : Nat) (S : Nat → Int → Int) (r : Nat → Int) : Nat := match i with | 0 => rxmRPC_0 S0 ws S | 1 => rxmRPC_1 S0 ws S | 2 => rxmRPC_2 S0 ws S (r 8) | 3 => rxmRPC_3 S0 ws S | 4 => rxmRPC_4 S0 ws S (r 8) | 5 => rxmRPC_5 S0 ws S (r 8) | 6 => rxmRPC_6 S0 ws S (r 8) | 7 => rxmRPC_7 S0 ws S (r 8) | 8 => rxmRPC_8 S0 ws S (r 8) (r 9) | 9 => rxmRPC_9 S0 ws S (r 8) | 10 => rxmRPC_10 S0 ws S (r 8) (r 9) | 11 => rxmRPC_11 S0 ws S (r 8) (r 9) | 12 => rxmRPC_12 S0 ws S (r 8) (r 9) | 13 => rxmRPC_13 S0 ws S (r 8) (r 9) | 14 => rxmRPC_14 S0 ws S (r 8) (r 9) (r 10) | 15 => rxmRPC_15 S0 ws S (r 8) (r 9) (r 10) | 16 => rxmRPC_16 S0 ws S (r 8) (r 9) (r 10) (r 11) | 17 => rxmRPC_17 S0 ws S (r 8) (r 9) (r 10) | 18 => rxmRPC_18 S0 ws S (r 8) (r 9) (r 10) | 19 => rxmRPC_19 S0 ws S (r 8) (r 9) (r 10) (r 11) | 20 => rxmRPC_20 S0 ws S (r 8) (r 9) (r 10) (r 11) | 21 => rxmRPC_21 S0 ws S (r 8) (r 9) (r 10) (r 11) | 22 => rxmRPC_22 S0 ws S (r 8) (r 9) (r 10) (r 11) (r 12) | 23 => rxmRPC_23 S0 ws S (r 8) (r 9) (r 10) | 24 => rxmRPC_24 S0 ws S (r 8) (r 9) (r 10) (r 11) | 25 => rxmRPC_25 S0 ws S (r 8) (r 9) (r 10) | 26 => rxmRPC_26 S0 ws S (r 8) (r 9) (r 10) | 27 => rxmRPC_27 S0 ws S (r 8) (r 9) (r 10) (r 11) | 28 => rxmRPC_28 S0 ws S (r 8) (r 9) (r 10) (r 11) (r 12) | _ => 0
def rxPRPC (S0 : Nat → Int → Int) (ws : List Int) : Prop := rzDt S0
def rxPSRPC (S0 : Nat → Int → Int) (ws : List Int) (S : Nat → Int → Int) (w : Option Int) : Prop := rzOc (rzPH (rzCut (S0 411)) (S0 412 1) (rzWs S0) (S0 412 2) (S0 412 7)) S0 S w
theorem rxkRPC_1 {S0 : Nat → Int → Int} {ws : List Int} {S : Nat → Int → Int} (hP : rxPRPC S0 ws) (hin : bx_same rxL (bx_mdl rxCRPC.2.2.1) S0 S) (I0 : bx_Inv rxL S) (hinv : rxIRPC_1 S0 ws S)  : rxPTKW S [412, 533] ∧ ∀ (S_p : Nat → Int → Int) (r : Int), 0 ≤ r → r ≤ 1 → rxPSTKW S [412, 533] S_p (some r) → bx_Inv rxL S_p → bx_same rxL (bx_mdl rxC90.2.2.1) S S_p → rxIRPC_2 S0 ws S_p r ∧ rxmRPC_2 S0 ws S_p r < rxmRPC_1 S0 ws S := by
  have hA : rzAt (rzPH (rzCut (S0 411)) (S0 412 1) (rzWs S0) (S0 412 2) (S0 412 7)) S0 S (rzPH (rzCut (S0 411)) (S0 412 1) (rzWs S0)) := hinv
  refine ⟨⟨hA.2.1, 533, rfl, by omega, by omega⟩, fun S_p r _ _ hq _ hsm => ⟨?_, by unfold rxmRPC_1 rxmRPC_2; omega⟩⟩
  obtain ⟨k, hk, hq⟩ := hq
  have hk : (533 : Int) = k := Option.some.inj (congrArg (fun l : List Int => l[1]?) hk)
  subst hk
  rw [hA.1.1, hA.1.2.1] at hq
  rcases hq with ⟨b, e, d, e2, kp⟩ | ⟨b, e, e4⟩
  · refine Or.inl ⟨Option.some.inj e, rzAt_tk hA kp d (hsm 412 7 (by decide) (by decide) (by decide +kernel)) ?_ (fun r q => rzAlt_y b q)⟩
    rw [hA.1.1, hA.1.2.1]
    exact e2
  · exact Or.inr ⟨Option.some.inj e, rzAt_no hA (rzAlt_n b rfl) e4⟩
theorem rxsRPC_1 {X : (Nat → Int → Int) → Prop} {S0 : Nat → Int → Int} {ws : List Int} (hP : rxPRPC S0 ws) : rx_obK X S0 rxCRPC.2.2.1 rxC90.2.2.1 (rxIRPC S0 ws) (rxmRPC S0 ws) 1 2 rxzRPC_1 rxzRPC_2 [.inr (3, (0, 412)), .inr (3, (0, 533))] (some 8) rxPTKW rxPSTKW := by
  intro S r hinv hXS I0 hin hs_ hf_
  have b_ := bx_bds_sat hs_
  have f_ := bx_fcl_ok hs_.1 hf_
  have g := rxkRPC_1 hP hin I0 hinv 
  have ea : List.map (bx_num r) [.inr (3, (0, 412)), .inr (3, (0, 533))] = [412, 533] := by
    simp only [List.map_cons, List.map_nil, bx_xv_ok hs_.1]
    rfl
  rw [ea]
  refine ⟨g.1, fun S_p w r_p hPS hX_p I1 hsm hr hw hs_p => ?_⟩
  have hw := hw _ rfl
  subst hw
  have b_p := hs_p.2.2 8 _ _ rfl
  have g2 := g.2 S_p (r_p 8) b_p.1 b_p.2 hPS I1 hsm
  show rxIRPC_2 S0 ws S_p (r_p 8) ∧ rxmRPC_2 S0 ws S_p (r_p 8) < _
  exact g2
theorem rxkRPC_3 {S0 : Nat → Int → Int} {ws : List Int} {S : Nat → Int → Int} (hP : rxPRPC S0 ws) (hin : bx_same rxL (bx_mdl rxCRPC.2.2.1) S0 S) (I0 : bx_Inv rxL S) (hinv : rxIRPC_3 S0 ws S)  : rxPPLH S [412] ∧ ∀ (S_p : Nat → Int → Int) (pl : Int), (-2147483648) ≤ pl → pl ≤ 6 → rxPSPLH S [412] S_p (some pl) → bx_Inv rxL S_p → bx_same rxL (bx_mdl rxC91.2.2.1) S S_p → rxIRPC_4 S0 ws S_p pl ∧ rxmRPC_4 S0 ws S_p pl < rxmRPC_3 S0 ws S := by
  have hA : rzAt (rzPH (rzCut (S0 411)) (S0 412 1) (rzWs S0) (S0 412 2) (S0 412 7)) S0 S (rzPH1 (rzCut (S0 411)) (S0 412 1) (rzWs S0)) := hinv
  refine ⟨hA.2.1, fun S_p pl _ _ hq _ _ => ⟨?_, by unfold rxmRPC_3 rxmRPC_4; omega⟩⟩
  obtain ⟨rfl, hr⟩ := hq
  have hr := Option.some.inj hr
  rw [hA.1.1, hA.1.2.1] at hr
  exact ⟨hA, hr⟩
theorem rxsRPC_3 {X : (Nat → Int → Int) → Prop} {S0 : Nat → Int → Int} {ws : List Int} (hP : rxPRPC S0 ws) : rx_obK X S0 rxCRPC.2.2.1 rxC91.2.2.1 (rxIRPC S0 ws) (rxmRPC S0 ws) 3 4 rxzRPC_3 rxzRPC_4 [.inr (3, (0, 412))] (some 8) rxPPLH rxPSPLH := by
  intro S r hinv hXS I0 hin hs_ hf_
  have b_ := bx_bds_sat hs_
  have f_ := bx_fcl_ok hs_.1 hf_
  have g := rxkRPC_3 hP hin I0 hinv 
  have ea : List.map (bx_num r) [.inr (3, (0, 412))] = [412] := by
    simp only [List.map_cons, List.map_nil, bx_xv_ok hs_.1]
    rfl
  rw [ea]
  refine ⟨g.1, fun S_p w r_p hPS hX_p I1 hsm hr hw hs_p => ?_⟩
  have hw := hw _ rfl
  subst hw
  have b_p := hs_p.2.2 8 _ _ rfl
  have g2 := g.2 S_p (r_p 8) b_p.1 b_p.2 hPS I1 hsm
  show rxIRPC_4 S0 ws S_p (r_p 8) ∧ rxmRPC_4 S0 ws S_p (r_p 8) < _
  exact g2
theorem rxkRPC_5 {S0 : Nat → Int → Int} {ws : List Int} {S : Nat → Int → Int} {st : Int} (hP : rxPRPC S0 ws) (hin : bx_same rxL (bx_mdl rxCRPC.2.2.1) S0 S) (I0 : bx_Inv rxL S) (hinv : rxIRPC_5 S0 ws S st) (l8 : 0 ≤ st) (u8 : st ≤ 6) : rxPAD S [412] ∧ ∀ (S_p : Nat → Int → Int), rxPSAD S [412] S_p none → bx_Inv rxL S_p → bx_same rxL (bx_mdl rxC84.2.2.1) S S_p → rxIRPC_6 S0 ws S_p st ∧ rxmRPC_6 S0 ws S_p st < rxmRPC_5 S0 ws S st := by
  obtain ⟨hA, hb⟩ := hinv
  refine ⟨trivial, fun S_p hq _ hsm => ⟨rzAt_ad hA hsm (by decide +kernel) (by decide +kernel) (by decide +kernel) (by decide +kernel) (by decide +kernel) hq.2.1 hq.2.2 (fun r q => rzAlt_y hb q), by unfold rxmRPC_5 rxmRPC_6; omega⟩⟩
theorem rxsRPC_5 {X : (Nat → Int → Int) → Prop} {S0 : Nat → Int → Int} {ws : List Int} (hP : rxPRPC S0 ws) : rx_obK X S0 rxCRPC.2.2.1 rxC84.2.2.1 (rxIRPC S0 ws) (rxmRPC S0 ws) 5 6 rxzRPC_5 rxzRPC_6 [.inr (3, (0, 412))] none rxPAD rxPSAD := by
  intro S r hinv hXS I0 hin hs_ hf_
  have b_ := bx_bds_sat hs_
  have f_ := bx_fcl_ok hs_.1 hf_
  obtain ⟨⟨l8, u8⟩, -⟩ := b_
  have g := rxkRPC_5 hP hin I0 hinv l8 u8
  have ea : List.map (bx_num r) [.inr (3, (0, 412))] = [412] := by
    simp only [List.map_cons, List.map_nil, bx_xv_ok hs_.1]
    rfl
  rw [ea]
  refine ⟨g.1, fun S_p w r_p hPS hX_p I1 hsm hr hw hs_p => ?_⟩
  have hw : w = none := hPS.1
  subst hw
  have g2 := g.2 S_p hPS I1 hsm
  show rxIRPC_6 S0 ws S_p (r_p 8) ∧ rxmRPC_6 S0 ws S_p (r_p 8) < _
  rw [hr 8 (by decide)]
  exact g2
theorem rxkRPC_7 {S0 : Nat → Int → Int} {ws : List Int} {S : Nat → Int → Int} {st : Int} (hP : rxPRPC S0 ws) (hin : bx_same rxL (bx_mdl rxCRPC.2.2.1) S0 S) (I0 : bx_Inv rxL S) (hinv : rxIRPC_7 S0 ws S st) (l8 : 0 ≤ st) (u8 : st ≤ 6) : rxPTKW S [412, 524] ∧ ∀ (S_p : Nat → Int → Int) (r : Int), 0 ≤ r → r ≤ 1 → rxPSTKW S [412, 524] S_p (some r) → bx_Inv rxL S_p → bx_same rxL (bx_mdl rxC90.2.2.1) S S_p → rxIRPC_8 S0 ws S_p st r ∧ rxmRPC_8 S0 ws S_p st r < rxmRPC_7 S0 ws S st := by
  have hA : rzAt (rzPH (rzCut (S0 411)) (S0 412 1) (rzWs S0) (S0 412 2) (S0 412 7)) S0 S (rzPH2 (rzCut (S0 411)) (S0 412 1) (rzWs S0)) := hinv
  refine ⟨⟨hA.2.1, 524, rfl, by omega, by omega⟩, fun S_p r _ _ hq _ hsm => ⟨?_, by unfold rxmRPC_7 rxmRPC_8; omega⟩⟩
  obtain ⟨k, hk, hq⟩ := hq
  have hk : (524 : Int) = k := Option.some.inj (congrArg (fun l : List Int => l[1]?) hk)
  subst hk
  rw [hA.1.1, hA.1.2.1] at hq
  rcases hq with ⟨b, e, d, e2, kp⟩ | ⟨b, e, e4⟩
  · refine Or.inl ⟨Option.some.inj e, rzAt_tk hA kp d (hsm 412 7 (by decide) (by decide) (by decide +kernel)) ?_ (fun r q => rzAlt_y b q)⟩
    rw [hA.1.1, hA.1.2.1]
    exact e2
  · exact Or.inr ⟨Option.some.inj e, rzAt_no hA (rzAlt_n b rfl) e4⟩
theorem rxsRPC_7 {X : (Nat → Int → Int) → Prop} {S0 : Nat → Int → Int} {ws : List Int} (hP : rxPRPC S0 ws) : rx_obK X S0 rxCRPC.2.2.1 rxC90.2.2.1 (rxIRPC S0 ws) (rxmRPC S0 ws) 7 8 rxzRPC_7 rxzRPC_8 [.inr (3, (0, 412)), .inr (3, (0, 524))] (some 9) rxPTKW rxPSTKW := by
  intro S r hinv hXS I0 hin hs_ hf_
  have b_ := bx_bds_sat hs_
  have f_ := bx_fcl_ok hs_.1 hf_
  obtain ⟨⟨l8, u8⟩, -⟩ := b_
  have g := rxkRPC_7 hP hin I0 hinv l8 u8
  have ea : List.map (bx_num r) [.inr (3, (0, 412)), .inr (3, (0, 524))] = [412, 524] := by
    simp only [List.map_cons, List.map_nil, bx_xv_ok hs_.1]
    rfl
  rw [ea]
  refine ⟨g.1, fun S_p w r_p hPS hX_p I1 hsm hr hw hs_p => ?_⟩
  have hw := hw _ rfl
  subst hw
  have b_p := hs_p.2.2 9 _ _ rfl
  have g2 := g.2 S_p (r_p 9) b_p.1 b_p.2 hPS I1 hsm
  show rxIRPC_8 S0 ws S_p (r_p 8) (r_p 9) ∧ rxmRPC_8 S0 ws S_p (r_p 8) (r_p 9) < _
  rw [hr 8 (by decide)]
  exact g2
theorem rxkRPC_9 {S0 : Nat → Int → Int} {ws : List Int} {S : Nat → Int → Int} {st : Int} (hP : rxPRPC S0 ws) (hin : bx_same rxL (bx_mdl rxCRPC.2.2.1) S0 S) (I0 : bx_Inv rxL S) (hinv : rxIRPC_9 S0 ws S st) (l8 : 0 ≤ st) (u8 : st ≤ 6) : rxPPLH S [412] ∧ ∀ (S_p : Nat → Int → Int) (pl : Int), (-2147483648) ≤ pl → pl ≤ 6 → rxPSPLH S [412] S_p (some pl) → bx_Inv rxL S_p → bx_same rxL (bx_mdl rxC91.2.2.1) S S_p → rxIRPC_10 S0 ws S_p st pl ∧ rxmRPC_10 S0 ws S_p st pl < rxmRPC_9 S0 ws S st := by
  have hA : rzAt (rzPH (rzCut (S0 411)) (S0 412 1) (rzWs S0) (S0 412 2) (S0 412 7)) S0 S (rzPH3 (rzCut (S0 411)) (S0 412 1) (rzWs S0)) := hinv
  refine ⟨hA.2.1, fun S_p pl _ _ hq _ _ => ⟨?_, by unfold rxmRPC_9 rxmRPC_10; omega⟩⟩
  obtain ⟨rfl, hr⟩ := hq
  have hr := Option.some.inj hr
  rw [hA.1.1, hA.1.2.1] at hr
  exact ⟨hA, hr⟩
theorem rxsRPC_9 {X : (Nat → Int → Int) → Prop} {S0 : Nat → Int → Int} {ws : List Int} (hP : rxPRPC S0 ws) : rx_obK X S0 rxCRPC.2.2.1 rxC91.2.2.1 (rxIRPC S0 ws) (rxmRPC S0 ws) 9 10 rxzRPC_9 rxzRPC_10 [.inr (3, (0, 412))] (some 9) rxPPLH rxPSPLH := by
  intro S r hinv hXS I0 hin hs_ hf_
  have b_ := bx_bds_sat hs_
  have f_ := bx_fcl_ok hs_.1 hf_
  obtain ⟨⟨l8, u8⟩, -⟩ := b_
  have g := rxkRPC_9 hP hin I0 hinv l8 u8
  have ea : List.map (bx_num r) [.inr (3, (0, 412))] = [412] := by
    simp only [List.map_cons, List.map_nil, bx_xv_ok hs_.1]
    rfl
  rw [ea]
  refine ⟨g.1, fun S_p w r_p hPS hX_p I1 hsm hr hw hs_p => ?_⟩
  have hw := hw _ rfl
  subst hw
  have b_p := hs_p.2.2 9 _ _ rfl
  have g2 := g.2 S_p (r_p 9) b_p.1 b_p.2 hPS I1 hsm
  show rxIRPC_10 S0 ws S_p (r_p 8) (r_p 9) ∧ rxmRPC_10 S0 ws S_p (r_p 8) (r_p 9) < _
  rw [hr 8 (by decide)]
  exact g2
theorem rxkRPC_11 {S0 : Nat → Int → Int} {ws : List Int} {S : Nat → Int → Int} {st cu : Int} (hP : rxPRPC S0 ws) (hin : bx_same rxL (bx_mdl rxCRPC.2.2.1) S0 S) (I0 : bx_Inv rxL S) (hinv : rxIRPC_11 S0 ws S st cu) (l8 : 0 ≤ st) (u8 : st ≤ 6) (l9 : 0 ≤ cu) (u9 : cu ≤ 6) : rxPAD S [412] ∧ ∀ (S_p : Nat → Int → Int), rxPSAD S [412] S_p none → bx_Inv rxL S_p → bx_same rxL (bx_mdl rxC84.2.2.1) S S_p → rxIRPC_12 S0 ws S_p st cu ∧ rxmRPC_12 S0 ws S_p st cu < rxmRPC_11 S0 ws S st cu := by
  obtain ⟨hA, hb⟩ := hinv
  refine ⟨trivial, fun S_p hq _ hsm => ⟨rzAt_ad hA hsm (by decide +kernel) (by decide +kernel) (by decide +kernel) (by decide +kernel) (by decide +kernel) hq.2.1 hq.2.2 (fun r q => rzAlt_y hb q), by unfold rxmRPC_11 rxmRPC_12; omega⟩⟩
theorem rxsRPC_11 {X : (Nat → Int → Int) → Prop} {S0 : Nat → Int → Int} {ws : List Int} (hP : rxPRPC S0 ws) : rx_obK X S0 rxCRPC.2.2.1 rxC84.2.2.1 (rxIRPC S0 ws) (rxmRPC S0 ws) 11 12 rxzRPC_11 rxzRPC_12 [.inr (3, (0, 412))] none rxPAD rxPSAD := by
  intro S r hinv hXS I0 hin hs_ hf_
  have b_ := bx_bds_sat hs_
  have f_ := bx_fcl_ok hs_.1 hf_
  obtain ⟨⟨l8, u8⟩, ⟨l9, u9⟩, -⟩ := b_
  have g := rxkRPC_11 hP hin I0 hinv l8 u8 l9 u9
  have ea : List.map (bx_num r) [.inr (3, (0, 412))] = [412] := by
    simp only [List.map_cons, List.map_nil, bx_xv_ok hs_.1]
    rfl
  rw [ea]
  refine ⟨g.1, fun S_p w r_p hPS hX_p I1 hsm hr hw hs_p => ?_⟩
  have hw : w = none := hPS.1
  subst hw
  have g2 := g.2 S_p hPS I1 hsm
  show rxIRPC_12 S0 ws S_p (r_p 8) (r_p 9) ∧ rxmRPC_12 S0 ws S_p (r_p 8) (r_p 9) < _
  rw [hr 8 (by decide), hr 9 (by decide)]
  exact g2
theorem rxkRPC_13 {S0 : Nat → Int → Int} {ws : List Int} {S : Nat → Int → Int} {st cu : Int} (hP : rxPRPC S0 ws) (hin : bx_same rxL (bx_mdl rxCRPC.2.2.1) S0 S) (I0 : bx_Inv rxL S) (hinv : rxIRPC_13 S0 ws S st cu) (l8 : 0 ≤ st) (u8 : st ≤ 6) (l9 : 0 ≤ cu) (u9 : cu ≤ 6) : rxPIWX S [412, 531] ∧ ∀ (S_p : Nat → Int → Int) (r : Int), 0 ≤ r → r ≤ 1 → rxPSIWX S [412, 531] S_p (some r) → bx_Inv rxL S_p → bx_same rxL (bx_mdl rxC59.2.2.1) S S_p → rxIRPC_14 S0 ws S_p st cu r ∧ rxmRPC_14 S0 ws S_p st cu r < rxmRPC_13 S0 ws S st cu := by
  have hA : rzAt (rzPH (rzCut (S0 411)) (S0 412 1) (rzWs S0) (S0 412 2) (S0 412 7)) S0 S (rzPH4 (rzCut (S0 411)) (S0 412 1) (rzWs S0)) := hinv
  have hD := hA.2.1
  refine ⟨⟨rzDt.s3 hD, 531, rfl, by omega, by omega⟩, fun S_p r _ _ hq _ _ => ⟨?_, by unfold rxmRPC_13 rxmRPC_14; omega⟩⟩
  obtain ⟨rfl, k, hk, hr⟩ := hq
  have hk : (531 : Int) = k := Option.some.inj (congrArg (fun l : List Int => l[1]?) hk)
  subst hk
  have hr := Option.some.inj hr
  rw [hD.1] at hr
  exact ⟨hA, hr⟩
theorem rxsRPC_13 {X : (Nat → Int → Int) → Prop} {S0 : Nat → Int → Int} {ws : List Int} (hP : rxPRPC S0 ws) : rx_obK X S0 rxCRPC.2.2.1 rxC59.2.2.1 (rxIRPC S0 ws) (rxmRPC S0 ws) 13 14 rxzRPC_13 rxzRPC_14 [.inr (3, (0, 412)), .inr (3, (0, 531))] (some 10) rxPIWX rxPSIWX := by
  intro S r hinv hXS I0 hin hs_ hf_
  have b_ := bx_bds_sat hs_
  have f_ := bx_fcl_ok hs_.1 hf_
  obtain ⟨⟨l8, u8⟩, ⟨l9, u9⟩, -⟩ := b_
  have g := rxkRPC_13 hP hin I0 hinv l8 u8 l9 u9
  have ea : List.map (bx_num r) [.inr (3, (0, 412)), .inr (3, (0, 531))] = [412, 531] := by
    simp only [List.map_cons, List.map_nil, bx_xv_ok hs_.1]
    rfl
  rw [ea]
  refine ⟨g.1, fun S_p w r_p hPS hX_p I1 hsm hr hw hs_p => ?_⟩
  have hw := hw _ rfl
  subst hw
  have b_p := hs_p.2.2 10 _ _ rfl
  have g2 := g.2 S_p (r_p 10) b_p.1 b_p.2 hPS I1 hsm
  show rxIRPC_14 S0 ws S_p (r_p 8) (r_p 9) (r_p 10) ∧ rxmRPC_14 S0 ws S_p (r_p 8) (r_p 9) (r_p 10) < _
  rw [hr 8 (by decide), hr 9 (by decide)]
  exact g2
theorem rxkRPC_15 {S0 : Nat → Int → Int} {ws : List Int} {S : Nat → Int → Int} {st cu hu : Int} (hP : rxPRPC S0 ws) (hin : bx_same rxL (bx_mdl rxCRPC.2.2.1) S0 S) (I0 : bx_Inv rxL S) (hinv : rxIRPC_15 S0 ws S st cu hu) (l8 : 0 ≤ st) (u8 : st ≤ 6) (l9 : 0 ≤ cu) (u9 : cu ≤ 6) (l10 : 0 ≤ hu) (u10 : hu ≤ 1) : rxPIWX S [412, 541] ∧ ∀ (S_p : Nat → Int → Int) (r : Int), 0 ≤ r → r ≤ 1 → rxPSIWX S [412, 541] S_p (some r) → bx_Inv rxL S_p → bx_same rxL (bx_mdl rxC59.2.2.1) S S_p → rxIRPC_16 S0 ws S_p st cu hu r ∧ rxmRPC_16 S0 ws S_p st cu hu r < rxmRPC_15 S0 ws S st cu hu := by
  obtain ⟨hA, h0, h1⟩ := hinv
  have hD := hA.2.1
  refine ⟨⟨rzDt.s3 hD, 541, rfl, by omega, by omega⟩, fun S_p r _ _ hq _ _ => ⟨?_, by unfold rxmRPC_15 rxmRPC_16; omega⟩⟩
  obtain ⟨rfl, k, hk, hr⟩ := hq
  have hk : (541 : Int) = k := Option.some.inj (congrArg (fun l : List Int => l[1]?) hk)
  subst hk
  have hr := Option.some.inj hr
  rw [hD.1] at hr
  exact ⟨hA, h0, h1, hr⟩
theorem rxsRPC_15 {X : (Nat → Int → Int) → Prop} {S0 : Nat → Int → Int} {ws : List Int} (hP : rxPRPC S0 ws) : rx_obK X S0 rxCRPC.2.2.1 rxC59.2.2.1 (rxIRPC S0 ws) (rxmRPC S0 ws) 15 16 rxzRPC_15 rxzRPC_16 [.inr (3, (0, 412)), .inr (3, (0, 541))] (some 11) rxPIWX rxPSIWX := by
  intro S r hinv hXS I0 hin hs_ hf_
  have b_ := bx_bds_sat hs_
  have f_ := bx_fcl_ok hs_.1 hf_
  obtain ⟨⟨l8, u8⟩, ⟨l9, u9⟩, ⟨l10, u10⟩, -⟩ := b_
  have g := rxkRPC_15 hP hin I0 hinv l8 u8 l9 u9 l10 u10
  have ea : List.map (bx_num r) [.inr (3, (0, 412)), .inr (3, (0, 541))] = [412, 541] := by
    simp only [List.map_cons, List.map_nil, bx_xv_ok hs_.1]
    rfl
  rw [ea]
  refine ⟨g.1, fun S_p w r_p hPS hX_p I1 hsm hr hw hs_p => ?_⟩
  have hw := hw _ rfl
  subst hw
  have b_p := hs_p.2.2 11 _ _ rfl
  have g2 := g.2 S_p (r_p 11) b_p.1 b_p.2 hPS I1 hsm
  show rxIRPC_16 S0 ws S_p (r_p 8) (r_p 9) (r_p 10) (r_p 11) ∧ rxmRPC_16 S0 ws S_p (r_p 8) (r_p 9) (r_p 10) (r_p 11) < _
  rw [hr 8 (by decide), hr 9 (by decide), hr 10 (by decide)]
  exact g2
theorem rxkRPC_17 {S0 : Nat → Int → Int} {ws : List Int} {S : Nat → Int → Int} {st cu hu : Int} (hP : rxPRPC S0 ws) (hin : bx_same rxL (bx_mdl rxCRPC.2.2.1) S0 S) (I0 : bx_Inv rxL S) (hinv : rxIRPC_17 S0 ws S st cu hu) (l8 : 0 ≤ st) (u8 : st ≤ 6) (l9 : 0 ≤ cu) (u9 : cu ≤ 6) (l10 : 0 ≤ hu) (u10 : hu ≤ 1) : rxPAD S [412] ∧ ∀ (S_p : Nat → Int → Int), rxPSAD S [412] S_p none → bx_Inv rxL S_p → bx_same rxL (bx_mdl rxC84.2.2.1) S S_p → rxIRPC_18 S0 ws S_p st cu hu ∧ rxmRPC_18 S0 ws S_p st cu hu < rxmRPC_17 S0 ws S st cu hu := by
  obtain ⟨hA, hc⟩ := hinv
  refine ⟨trivial, fun S_p hq _ hsm => ⟨rzAt_ad hA hsm (by decide +kernel) (by decide +kernel) (by decide +kernel) (by decide +kernel) (by decide +kernel) hq.2.1 hq.2.2 (fun r q => ?_), by unfold rxmRPC_17 rxmRPC_18; omega⟩⟩
  rcases hc with ⟨b1, b2⟩ | ⟨b1, b2, b3⟩
  · rcases q with ⟨c1, c2⟩ | ⟨c1, c2⟩
    · exact rzAlt_y b2 c2
    · exact absurd b1 (of_decide_eq_false c1)
  · rcases q with ⟨c1, c2⟩ | ⟨c1, c2⟩
    · have c3 := of_decide_eq_true c1
      omega
    · exact rzAlt_n b2 (rzAlt_y b3 c2)
theorem rxsRPC_17 {X : (Nat → Int → Int) → Prop} {S0 : Nat → Int → Int} {ws : List Int} (hP : rxPRPC S0 ws) : rx_obK X S0 rxCRPC.2.2.1 rxC84.2.2.1 (rxIRPC S0 ws) (rxmRPC S0 ws) 17 18 rxzRPC_17 rxzRPC_18 [.inr (3, (0, 412))] none rxPAD rxPSAD := by
  intro S r hinv hXS I0 hin hs_ hf_
  have b_ := bx_bds_sat hs_
  have f_ := bx_fcl_ok hs_.1 hf_
  obtain ⟨⟨l8, u8⟩, ⟨l9, u9⟩, ⟨l10, u10⟩, -⟩ := b_
  have g := rxkRPC_17 hP hin I0 hinv l8 u8 l9 u9 l10 u10
  have ea : List.map (bx_num r) [.inr (3, (0, 412))] = [412] := by
    simp only [List.map_cons, List.map_nil, bx_xv_ok hs_.1]
    rfl
  rw [ea]
  refine ⟨g.1, fun S_p w r_p hPS hX_p I1 hsm hr hw hs_p => ?_⟩
  have hw : w = none := hPS.1
  subst hw
  have g2 := g.2 S_p hPS I1 hsm
  show rxIRPC_18 S0 ws S_p (r_p 8) (r_p 9) (r_p 10) ∧ rxmRPC_18 S0 ws S_p (r_p 8) (r_p 9) (r_p 10) < _
  rw [hr 8 (by decide), hr 9 (by decide), hr 10 (by decide)]
  exact g2
theorem rxkRPC_19 {S0 : Nat → Int → Int} {ws : List Int} {S : Nat → Int → Int} {st cu hu ki : Int} (hP : rxPRPC S0 ws) (hin : bx_same rxL (bx_mdl rxCRPC.2.2.1) S0 S) (I0 : bx_Inv rxL S) (hinv : rxIRPC_19 S0 ws S st cu hu ki) (l8 : 0 ≤ st) (u8 : st ≤ 6) (l9 : 0 ≤ cu) (u9 : cu ≤ 6) (l10 : 0 ≤ hu) (u10 : hu ≤ 1) (l11 : 0 ≤ ki) (u11 : ki ≤ 4) : rxPOCD S [427, ki, st, cu] ∧ ∀ (S_p : Nat → Int → Int), rxPSOCD S [427, ki, st, cu] S_p none → bx_Inv rxL S_p → bx_same rxL (bx_mdl rxCOCD.2.2.1) S S_p → rxIRPC_20 S0 ws S_p st cu hu ki ∧ rxmRPC_20 S0 ws S_p st cu hu ki < rxmRPC_19 S0 ws S st cu hu ki := by
  have hA : rzAt (rzPH (rzCut (S0 411)) (S0 412 1) (rzWs S0) (S0 412 2) (S0 412 7)) S0 S (fun f lf r => rzAlt (decide (hu = 1)) (r = (true, f, lf)) (rzThen (rzEx (rzCut (S0 411)) (S0 412 1) (rzWs S0) 0 f lf) (rzPG (rzCut (S0 411)) (S0 412 1) (rzWs S0)) r)) := hinv
  refine ⟨trivial, fun S_p hq _ hsm => ⟨rzAt_sm hA hsm (by decide +kernel) (by decide +kernel) (by decide +kernel) (by decide +kernel) (by decide +kernel) (by decide +kernel) (by decide +kernel), by unfold rxmRPC_19 rxmRPC_20; omega⟩⟩
theorem rxsRPC_19 {X : (Nat → Int → Int) → Prop} {S0 : Nat → Int → Int} {ws : List Int} (hP : rxPRPC S0 ws) : rx_obK X S0 rxCRPC.2.2.1 rxCOCD.2.2.1 (rxIRPC S0 ws) (rxmRPC S0 ws) 19 20 rxzRPC_19 rxzRPC_20 [.inr (3, (0, 427)), .inr (0, (11, 0)), .inr (0, (8, 0)), .inr (0, (9, 0))] none rxPOCD rxPSOCD := by
  intro S r hinv hXS I0 hin hs_ hf_
  have b_ := bx_bds_sat hs_
  have f_ := bx_fcl_ok hs_.1 hf_
  obtain ⟨⟨l8, u8⟩, ⟨l9, u9⟩, ⟨l10, u10⟩, ⟨l11, u11⟩, -⟩ := b_
  have g := rxkRPC_19 hP hin I0 hinv l8 u8 l9 u9 l10 u10 l11 u11
  have ea : List.map (bx_num r) [.inr (3, (0, 427)), .inr (0, (11, 0)), .inr (0, (8, 0)), .inr (0, (9, 0))] = [427, (r 11), (r 8), (r 9)] := by
    simp only [List.map_cons, List.map_nil, bx_xv_ok hs_.1]
    rfl
  rw [ea]
  refine ⟨g.1, fun S_p w r_p hPS hX_p I1 hsm hr hw hs_p => ?_⟩
  have hw : w = none := hPS.1
  subst hw
  have g2 := g.2 S_p hPS I1 hsm
  show rxIRPC_20 S0 ws S_p (r_p 8) (r_p 9) (r_p 10) (r_p 11) ∧ rxmRPC_20 S0 ws S_p (r_p 8) (r_p 9) (r_p 10) (r_p 11) < _
  rw [hr 8 (by decide), hr 9 (by decide), hr 10 (by decide), hr 11 (by decide)]
  exact g2
theorem rxkRPC_21 {S0 : Nat → Int → Int} {ws : List Int} {S : Nat → Int → Int} {st cu hu sa : Int} (hP : rxPRPC S0 ws) (hin : bx_same rxL (bx_mdl rxCRPC.2.2.1) S0 S) (I0 : bx_Inv rxL S) (hinv : rxIRPC_21 S0 ws S st cu hu sa) (l8 : 0 ≤ st) (u8 : st ≤ 6) (l9 : 0 ≤ cu) (u9 : cu ≤ 6) (l10 : 0 ≤ hu) (u10 : hu ≤ 1) (l11 : 0 ≤ sa) (u11 : sa ≤ 1522) : rxPRED S [412, sa, 0] ∧ ∀ (S_p : Nat → Int → Int) (res : Int), 0 ≤ res → res ≤ 1 → rxPSRED S [412, sa, 0] S_p (some res) → bx_Inv rxL S_p → bx_same rxL (bx_mdl rxCRED.2.2.1) S S_p → rxIRPC_22 S0 ws S_p st cu hu sa res ∧ rxmRPC_22 S0 ws S_p st cu hu sa res < rxmRPC_21 S0 ws S st cu hu sa := by
  have hA : rzAt (rzPH (rzCut (S0 411)) (S0 412 1) (rzWs S0) (S0 412 2) (S0 412 7)) S0 S (fun f lf => rzThen (rzEx (rzCut (S0 411)) (S0 412 1) (rzWs S0) 0 f lf) (rzPG (rzCut (S0 411)) (S0 412 1) (rzWs S0))) := hinv
  refine ⟨hA.2.1, fun S_p res _ _ hq _ _ => ⟨?_, by unfold rxmRPC_21 rxmRPC_22; omega⟩⟩
  obtain ⟨sa, sg, hk, hq⟩ := hq
  have hk : (0 : Int) = sg := Option.some.inj (congrArg (fun l : List Int => l[2]?) hk)
  subst hk
  have hw : rzWs S = rzWs S0 := rzKp.ws hA.1
  rw [hA.1.1, hA.1.2.1, hw] at hq
  have q : rzOc (rzEx (rzCut (S0 411)) (S0 412 1) (rzWs S0) 0 (S 412 2) (S 412 7)) S S_p (some res) := by
    rcases hq with ⟨q1, r, q2, q3, q4, q5, q6, q7⟩ | ⟨q1, r, q2, q3, q4⟩
    · exact ⟨r, q2, Or.inl ⟨q1, q3, q4, q5, q6, q7⟩⟩
    · exact ⟨r, q2, Or.inr ⟨q1, q3, q4⟩⟩
  exact rzAt_call hA (fun r q => q) q
theorem rxsRPC_21 {X : (Nat → Int → Int) → Prop} {S0 : Nat → Int → Int} {ws : List Int} (hP : rxPRPC S0 ws) : rx_obK X S0 rxCRPC.2.2.1 rxCRED.2.2.1 (rxIRPC S0 ws) (rxmRPC S0 ws) 21 22 rxzRPC_21 rxzRPC_22 [.inr (3, (0, 412)), .inr (3, (11, 0)), .inr (0, (0, 0))] (some 12) rxPRED rxPSRED := by
  intro S r hinv hXS I0 hin hs_ hf_
  have b_ := bx_bds_sat hs_
  have f_ := bx_fcl_ok hs_.1 hf_
  obtain ⟨⟨l8, u8⟩, ⟨l9, u9⟩, ⟨l10, u10⟩, ⟨l11, u11⟩, -⟩ := b_
  have g := rxkRPC_21 hP hin I0 hinv l8 u8 l9 u9 l10 u10 l11 u11
  have ea : List.map (bx_num r) [.inr (3, (0, 412)), .inr (3, (11, 0)), .inr (0, (0, 0))] = [412, (r 11), 0] := by
    simp only [List.map_cons, List.map_nil, bx_xv_ok hs_.1]
    rfl
  rw [ea]
  refine ⟨g.1, fun S_p w r_p hPS hX_p I1 hsm hr hw hs_p => ?_⟩
  have hw := hw _ rfl
  subst hw
  have b_p := hs_p.2.2 12 _ _ rfl
  have g2 := g.2 S_p (r_p 12) b_p.1 b_p.2 hPS I1 hsm
  show rxIRPC_22 S0 ws S_p (r_p 8) (r_p 9) (r_p 10) (r_p 11) (r_p 12) ∧ rxmRPC_22 S0 ws S_p (r_p 8) (r_p 9) (r_p 10) (r_p 11) (r_p 12) < _
  rw [hr 8 (by decide), hr 9 (by decide), hr 10 (by decide), hr 11 (by decide)]
  exact g2
theorem rxkRPC_23 {S0 : Nat → Int → Int} {ws : List Int} {S : Nat → Int → Int} {st cu hu : Int} (hP : rxPRPC S0 ws) (hin : bx_same rxL (bx_mdl rxCRPC.2.2.1) S0 S) (I0 : bx_Inv rxL S) (hinv : rxIRPC_23 S0 ws S st cu hu) (l8 : 0 ≤ st) (u8 : st ≤ 6) (l9 : 0 ≤ cu) (u9 : cu ≤ 6) (l10 : 0 ≤ hu) (u10 : hu ≤ 1) : rxPIWX S [412, 529] ∧ ∀ (S_p : Nat → Int → Int) (r : Int), 0 ≤ r → r ≤ 1 → rxPSIWX S [412, 529] S_p (some r) → bx_Inv rxL S_p → bx_same rxL (bx_mdl rxC59.2.2.1) S S_p → rxIRPC_24 S0 ws S_p st cu hu r ∧ rxmRPC_24 S0 ws S_p st cu hu r < rxmRPC_23 S0 ws S st cu hu := by
  have hA : rzAt (rzPH (rzCut (S0 411)) (S0 412 1) (rzWs S0) (S0 412 2) (S0 412 7)) S0 S (rzPG (rzCut (S0 411)) (S0 412 1) (rzWs S0)) := hinv
  have hD := hA.2.1
  refine ⟨⟨rzDt.s3 hD, 529, rfl, by omega, by omega⟩, fun S_p r _ _ hq _ _ => ⟨?_, by unfold rxmRPC_23 rxmRPC_24; omega⟩⟩
  obtain ⟨rfl, k, hk, hr⟩ := hq
  have hk : (529 : Int) = k := Option.some.inj (congrArg (fun l : List Int => l[1]?) hk)
  subst hk
  have hr := Option.some.inj hr
  rw [hD.1] at hr
  exact ⟨hA, hr⟩
theorem rxsRPC_23 {X : (Nat → Int → Int) → Prop} {S0 : Nat → Int → Int} {ws : List Int} (hP : rxPRPC S0 ws) : rx_obK X S0 rxCRPC.2.2.1 rxC59.2.2.1 (rxIRPC S0 ws) (rxmRPC S0 ws) 23 24 rxzRPC_23 rxzRPC_24 [.inr (3, (0, 412)), .inr (3, (0, 529))] (some 11) rxPIWX rxPSIWX := by
  intro S r hinv hXS I0 hin hs_ hf_
  have b_ := bx_bds_sat hs_
  have f_ := bx_fcl_ok hs_.1 hf_
  obtain ⟨⟨l8, u8⟩, ⟨l9, u9⟩, ⟨l10, u10⟩, -⟩ := b_
  have g := rxkRPC_23 hP hin I0 hinv l8 u8 l9 u9 l10 u10
  have ea : List.map (bx_num r) [.inr (3, (0, 412)), .inr (3, (0, 529))] = [412, 529] := by
    simp only [List.map_cons, List.map_nil, bx_xv_ok hs_.1]
    rfl
  rw [ea]
  refine ⟨g.1, fun S_p w r_p hPS hX_p I1 hsm hr hw hs_p => ?_⟩
  have hw := hw _ rfl
  subst hw
  have b_p := hs_p.2.2 11 _ _ rfl
  have g2 := g.2 S_p (r_p 11) b_p.1 b_p.2 hPS I1 hsm
  show rxIRPC_24 S0 ws S_p (r_p 8) (r_p 9) (r_p 10) (r_p 11) ∧ rxmRPC_24 S0 ws S_p (r_p 8) (r_p 9) (r_p 10) (r_p 11) < _
  rw [hr 8 (by decide), hr 9 (by decide), hr 10 (by decide)]
  exact g2
theorem rxkRPC_25 {S0 : Nat → Int → Int} {ws : List Int} {S : Nat → Int → Int} {st cu hu : Int} (hP : rxPRPC S0 ws) (hin : bx_same rxL (bx_mdl rxCRPC.2.2.1) S0 S) (I0 : bx_Inv rxL S) (hinv : rxIRPC_25 S0 ws S st cu hu) (l8 : 0 ≤ st) (u8 : st ≤ 6) (l9 : 0 ≤ cu) (u9 : cu ≤ 6) (l10 : 0 ≤ hu) (u10 : hu ≤ 1) : rxPAD S [412] ∧ ∀ (S_p : Nat → Int → Int), rxPSAD S [412] S_p none → bx_Inv rxL S_p → bx_same rxL (bx_mdl rxC84.2.2.1) S S_p → rxIRPC_26 S0 ws S_p st cu hu ∧ rxmRPC_26 S0 ws S_p st cu hu < rxmRPC_25 S0 ws S st cu hu := by
  obtain ⟨hA, hb⟩ := hinv
  refine ⟨trivial, fun S_p hq _ hsm => ⟨rzAt_ad hA hsm (by decide +kernel) (by decide +kernel) (by decide +kernel) (by decide +kernel) (by decide +kernel) hq.2.1 hq.2.2 (fun r q => rzAlt_y hb q), by unfold rxmRPC_25 rxmRPC_26; omega⟩⟩
theorem rxsRPC_25 {X : (Nat → Int → Int) → Prop} {S0 : Nat → Int → Int} {ws : List Int} (hP : rxPRPC S0 ws) : rx_obK X S0 rxCRPC.2.2.1 rxC84.2.2.1 (rxIRPC S0 ws) (rxmRPC S0 ws) 25 26 rxzRPC_25 rxzRPC_26 [.inr (3, (0, 412))] none rxPAD rxPSAD := by
  intro S r hinv hXS I0 hin hs_ hf_
  have b_ := bx_bds_sat hs_
  have f_ := bx_fcl_ok hs_.1 hf_
  obtain ⟨⟨l8, u8⟩, ⟨l9, u9⟩, ⟨l10, u10⟩, -⟩ := b_
  have g := rxkRPC_25 hP hin I0 hinv l8 u8 l9 u9 l10 u10
  have ea : List.map (bx_num r) [.inr (3, (0, 412))] = [412] := by
    simp only [List.map_cons, List.map_nil, bx_xv_ok hs_.1]
    rfl
  rw [ea]
  refine ⟨g.1, fun S_p w r_p hPS hX_p I1 hsm hr hw hs_p => ?_⟩
  have hw : w = none := hPS.1
  subst hw
  have g2 := g.2 S_p hPS I1 hsm
  show rxIRPC_26 S0 ws S_p (r_p 8) (r_p 9) (r_p 10) ∧ rxmRPC_26 S0 ws S_p (r_p 8) (r_p 9) (r_p 10) < _
  rw [hr 8 (by decide), hr 9 (by decide), hr 10 (by decide)]
  exact g2
theorem rxkRPC_27 {S0 : Nat → Int → Int} {ws : List Int} {S : Nat → Int → Int} {st cu hu sa : Int} (hP : rxPRPC S0 ws) (hin : bx_same rxL (bx_mdl rxCRPC.2.2.1) S0 S) (I0 : bx_Inv rxL S) (hinv : rxIRPC_27 S0 ws S st cu hu sa) (l8 : 0 ≤ st) (u8 : st ≤ 6) (l9 : 0 ≤ cu) (u9 : cu ≤ 6) (l10 : 0 ≤ hu) (u10 : hu ≤ 1) (l11 : 0 ≤ sa) (u11 : sa ≤ 1522) : rxPRED S [412, sa, 0] ∧ ∀ (S_p : Nat → Int → Int) (res : Int), 0 ≤ res → res ≤ 1 → rxPSRED S [412, sa, 0] S_p (some res) → bx_Inv rxL S_p → bx_same rxL (bx_mdl rxCRED.2.2.1) S S_p → rxIRPC_28 S0 ws S_p st cu hu sa res ∧ rxmRPC_28 S0 ws S_p st cu hu sa res < rxmRPC_27 S0 ws S st cu hu sa := by
  have hA : rzAt (rzPH (rzCut (S0 411)) (S0 412 1) (rzWs S0) (S0 412 2) (S0 412 7)) S0 S (rzEx (rzCut (S0 411)) (S0 412 1) (rzWs S0) 0) := hinv
  refine ⟨hA.2.1, fun S_p res _ _ hq _ _ => ⟨?_, by unfold rxmRPC_27 rxmRPC_28; omega⟩⟩
  obtain ⟨sa, sg, hk, hq⟩ := hq
  have hk : (0 : Int) = sg := Option.some.inj (congrArg (fun l : List Int => l[2]?) hk)
  subst hk
  have hw : rzWs S = rzWs S0 := rzKp.ws hA.1
  rw [hA.1.1, hA.1.2.1, hw] at hq
  have q : rzOc (rzEx (rzCut (S0 411)) (S0 412 1) (rzWs S0) 0 (S 412 2) (S 412 7)) S S_p (some res) := by
    rcases hq with ⟨q1, r, q2, q3, q4, q5, q6, q7⟩ | ⟨q1, r, q2, q3, q4⟩
    · exact ⟨r, q2, Or.inl ⟨q1, q3, q4, q5, q6, q7⟩⟩
    · exact ⟨r, q2, Or.inr ⟨q1, q3, q4⟩⟩
  exact rzAt_tail hA (fun r q => q) q
theorem rxsRPC_27 {X : (Nat → Int → Int) → Prop} {S0 : Nat → Int → Int} {ws : List Int} (hP : rxPRPC S0 ws) : rx_obK X S0 rxCRPC.2.2.1 rxCRED.2.2.1 (rxIRPC S0 ws) (rxmRPC S0 ws) 27 28 rxzRPC_27 rxzRPC_28 [.inr (3, (0, 412)), .inr (3, (11, 0)), .inr (0, (0, 0))] (some 12) rxPRED rxPSRED := by
  intro S r hinv hXS I0 hin hs_ hf_
  have b_ := bx_bds_sat hs_
  have f_ := bx_fcl_ok hs_.1 hf_
  obtain ⟨⟨l8, u8⟩, ⟨l9, u9⟩, ⟨l10, u10⟩, ⟨l11, u11⟩, -⟩ := b_
  have g := rxkRPC_27 hP hin I0 hinv l8 u8 l9 u9 l10 u10 l11 u11
  have ea : List.map (bx_num r) [.inr (3, (0, 412)), .inr (3, (11, 0)), .inr (0, (0, 0))] = [412, (r 11), 0] := by
    simp only [List.map_cons, List.map_nil, bx_xv_ok hs_.1]
    rfl
  rw [ea]
  refine ⟨g.1, fun S_p w r_p hPS hX_p I1 hsm hr hw hs_p => ?_⟩
  have hw := hw _ rfl
  subst hw
  have b_p := hs_p.2.2 12 _ _ rfl
  have g2 := g.2 S_p (r_p 12) b_p.1 b_p.2 hPS I1 hsm
  show rxIRPC_28 S0 ws S_p (r_p 8) (r_p 9) (r_p 10) (r_p 11) (r_p 12) ∧ rxmRPC_28 S0 ws S_p (r_p 8) (r_p 9) (r_p 10) (r_p 11) (r_p 12) < _
  rw [hr 8 (by decide), hr 9 (by decide), hr 10 (by decide), hr 11 (by decide)]
  exact g2
theorem rxcRPC_0_0 {S0 : Nat → Int → Int} {ws : List Int} {S : Nat → Int → Int} (hP : rxPRPC S0 ws) (hin : bx_same rxL (bx_mdl rxCRPC.2.2.1) S0 S) (I0 : bx_Inv rxL S) (hinv : rxIRPC_0 S0 ws S)  : (True) ∧ (True) ∧ rxIRPC_1 S0 ws S ∧ rxmRPC_1 S0 ws S < rxmRPC_0 S0 ws S := by
  obtain ⟨rfl, hw⟩ := hinv
  exact ⟨trivial, trivial, ⟨rzKp_rf, hP, fun r q => q⟩, by unfold rxmRPC_0 rxmRPC_1; omega⟩
theorem rxgRPC_0_0 {X : (Nat → Int → Int) → Prop} {S0 : Nat → Int → Int} {ws : List Int} (hP : rxPRPC S0 ws) : bx_obC rxL X S0 rxCRPC.2.2.1 (rxIRPC S0 ws) (rxmRPC S0 ws) 0 rxzRPC_0 rxoRPC_0_0 := by
  intro S S_p r r_p hinv hX hin hsm_ hseg
  obtain ⟨I0, I1, h0_, hr_, b_, f_, d_⟩ := bx_cl (evs := []) (fvs := []) hseg (by decide +kernel) (by decide +kernel)
  have hinv : rxIRPC_0 S0 ws S := hinv
  have w_ := d_
  subst w_
  have g := rxcRPC_0_0 hP hin I0 hinv 
  refine ⟨bx_narP_ok (l := []) g.1, bx_nfP_ok h0_ (fvs := []) (by decide +kernel) g.2.1, ?_, ?_⟩
  · show rxIRPC_1 S0 ws S_p
    exact g.2.2.1
  · show rxmRPC_1 S0 ws S_p < rxmRPC_0 S0 ws S_p
    exact g.2.2.2
theorem rxcRPC_2_0 {S0 : Nat → Int → Int} {ws : List Int} {S : Nat → Int → Int} {r : Int} (hP : rxPRPC S0 ws) (hin : bx_same rxL (bx_mdl rxCRPC.2.2.1) S0 S) (I0 : bx_Inv rxL S) (hinv : rxIRPC_2 S0 ws S r) (l8 : 1 ≤ r) (u8 : r ≤ 1) (f0 : r ≠ 0) : (True) ∧ (True) ∧ rxIRPC_3 S0 ws S ∧ rxmRPC_3 S0 ws S < rxmRPC_2 S0 ws S r := by
  rcases hinv with ⟨z, hA⟩ | ⟨z, hA⟩
  · exact ⟨trivial, trivial, hA, by unfold rxmRPC_2 rxmRPC_3; omega⟩
  · exfalso
    omega
theorem rxgRPC_2_0 {X : (Nat → Int → Int) → Prop} {S0 : Nat → Int → Int} {ws : List Int} (hP : rxPRPC S0 ws) : bx_obC rxL X S0 rxCRPC.2.2.1 (rxIRPC S0 ws) (rxmRPC S0 ws) 2 rxzRPC_2 rxoRPC_2_0 := by
  intro S S_p r r_p hinv hX hin hsm_ hseg
  obtain ⟨I0, I1, h0_, hr_, b_, f_, d_⟩ := bx_cl (evs := []) (fvs := [(3, (8, 0), (0, 0), (0, 0))]) hseg (by decide +kernel) (by decide +kernel)
  have hinv : rxIRPC_2 S0 ws S (r 8) := hinv
  rw [← hr_ 8 (by decide)] at hinv
  obtain ⟨⟨l8, u8⟩, -⟩ := b_
  obtain ⟨f0, -⟩ := f_
  have w_ := d_
  subst w_
  have g := rxcRPC_2_0 hP hin I0 hinv l8 u8 f0
  refine ⟨bx_narP_ok (l := []) g.1, bx_nfP_ok h0_ (fvs := []) (by decide +kernel) g.2.1, ?_, ?_⟩
  · show rxIRPC_3 S0 ws S_p
    exact g.2.2.1
  · show rxmRPC_3 S0 ws S_p < rxmRPC_2 S0 ws S_p (r 8)
    rw [← hr_ 8 (by decide)]
    exact g.2.2.2
theorem rxdRPC_2_0 {S0 : Nat → Int → Int} {ws : List Int} {S : Nat → Int → Int} {r : Int} (hP : rxPRPC S0 ws) (hin : bx_same rxL (bx_mdl rxCRPC.2.2.1) S0 S) (hin2 : bx_same rxL (bx_mdl rxCRPC.2.2.1) S S) (I0 : bx_Inv rxL S) (I1 : bx_Inv rxL S) (hinv : rxIRPC_2 S0 ws S r) (l8 : 0 ≤ r) (u8 : r ≤ 0) : (True) ∧ rxPSRPC S0 ws S (some 0) := by
  rcases hinv with ⟨z, hA⟩ | ⟨z, hA⟩
  · exfalso
    omega
  · exact ⟨trivial, hA⟩
theorem rxfRPC_2_0 {X : (Nat → Int → Int) → Prop} {S0 : Nat → Int → Int} {ws : List Int} (hP : rxPRPC S0 ws) : bx_obE rxL X S0 rxCRPC.2.2.1 (rxIRPC S0 ws) (rxPSRPC S0 ws) 2 rxzRPC_2 rxeRPC_2_0 := by
  intro S S_p r r_p hinv hX hin hsm_ hseg
  obtain ⟨I0, I1, h0_, hr_, b_, f_, d_⟩ := bx_cl (evs := []) (fvs := []) hseg (by decide +kernel) (by decide +kernel)
  have hinv : rxIRPC_2 S0 ws S (r 8) := hinv
  rw [← hr_ 8 (by decide)] at hinv
  obtain ⟨⟨l8, u8⟩, -⟩ := b_
  have w_ := d_
  subst w_
  have g := rxdRPC_2_0 hP hin hsm_ I0 I1 hinv l8 u8
  refine ⟨bx_narP_ok (l := []) g.1, ?_⟩
  show rxPSRPC S0 ws S_p (some (bx_num r_p (.inr (0, (0, 0)))))
  rw [bx_xv_ok h0_]
  exact g.2
theorem rxcRPC_4_0 {S0 : Nat → Int → Int} {ws : List Int} {S : Nat → Int → Int} {pl : Int} (hP : rxPRPC S0 ws) (hin : bx_same rxL (bx_mdl rxCRPC.2.2.1) S0 S) (I0 : bx_Inv rxL S) (hinv : rxIRPC_4 S0 ws S pl) (l8 : 0 ≤ pl) (u8 : pl ≤ 6) : (True) ∧ (True) ∧ rxIRPC_5 S0 ws S pl ∧ rxmRPC_5 S0 ws S pl < rxmRPC_4 S0 ws S pl := by
  obtain ⟨hA, hr⟩ := hinv
  have hb : rzPlc (rzCut (S0 411)) (S0 412 1) (S 412 2) = true := by
    rw [rzPlc_v, ← hr]
    exact decide_eq_true (by omega)
  exact ⟨trivial, trivial, ⟨hA, hb⟩, by unfold rxmRPC_4 rxmRPC_5; omega⟩
theorem rxgRPC_4_0 {X : (Nat → Int → Int) → Prop} {S0 : Nat → Int → Int} {ws : List Int} (hP : rxPRPC S0 ws) : bx_obC rxL X S0 rxCRPC.2.2.1 (rxIRPC S0 ws) (rxmRPC S0 ws) 4 rxzRPC_4 rxoRPC_4_0 := by
  intro S S_p r r_p hinv hX hin hsm_ hseg
  obtain ⟨I0, I1, h0_, hr_, b_, f_, d_⟩ := bx_cl (evs := []) (fvs := []) hseg (by decide +kernel) (by decide +kernel)
  have hinv : rxIRPC_4 S0 ws S (r 8) := hinv
  rw [← hr_ 8 (by decide)] at hinv
  obtain ⟨⟨l8, u8⟩, -⟩ := b_
  have w_ := d_
  subst w_
  have g := rxcRPC_4_0 hP hin I0 hinv l8 u8
  refine ⟨bx_narP_ok (l := []) g.1, bx_nfP_ok h0_ (fvs := []) (by decide +kernel) g.2.1, ?_, ?_⟩
  · show rxIRPC_5 S0 ws S_p (bx_val [(0, 0), (0, 0), (0, 0), (0, 0), (0, 0), (0, 0), (0, 0), (0, 0), (8, 0)] r_p 8)
    rw [bx_val_x (n := 8) (e := (8, 0)) h0_ rfl]
    exact g.2.2.1
  · show rxmRPC_5 S0 ws S_p (bx_val [(0, 0), (0, 0), (0, 0), (0, 0), (0, 0), (0, 0), (0, 0), (0, 0), (8, 0)] r_p 8) < rxmRPC_4 S0 ws S_p (r 8)
    rw [bx_val_x (n := 8) (e := (8, 0)) h0_ rfl, ← hr_ 8 (by decide)]
    exact g.2.2.2
theorem rxdRPC_4_0 {S0 : Nat → Int → Int} {ws : List Int} {S : Nat → Int → Int} {pl x9 : Int} (hP : rxPRPC S0 ws) (hin : bx_same rxL (bx_mdl rxCRPC.2.2.1) S0 S) (hin2 : bx_same rxL (bx_mdl rxCRPC.2.2.1) S (bx_up S 412 4 x9)) (I0 : bx_Inv rxL S) (I1 : bx_Inv rxL (bx_up S 412 4 x9)) (hinv : rxIRPC_4 S0 ws S pl) (l8 : (-2147483648) ≤ pl) (u8 : pl ≤ (-1)) (l9 : 0 ≤ x9) (u9 : x9 ≤ 400) (e1 : S 412 2 = x9) : (True) ∧ rxPSRPC S0 ws (bx_up S 412 4 x9) (some 0) := by
  obtain ⟨hA, hr⟩ := hinv
  have hb : rzPlc (rzCut (S0 411)) (S0 412 1) (S 412 2) = false := by
    rw [rzPlc_v, ← hr]
    exact decide_eq_false (by omega)
  exact ⟨trivial, rzAt_no hA (rzAlt_n hb rfl) (bx_up_at.trans e1.symm)⟩
theorem rxfRPC_4_0 {X : (Nat → Int → Int) → Prop} {S0 : Nat → Int → Int} {ws : List Int} (hP : rxPRPC S0 ws) : bx_obE rxL X S0 rxCRPC.2.2.1 (rxIRPC S0 ws) (rxPSRPC S0 ws) 4 rxzRPC_4 rxeRPC_4_0 := by
  intro S S_p r r_p hinv hX hin hsm_ hseg
  obtain ⟨I0, I1, h0_, hr_, b_, f_, d_⟩ := bx_cl (evs := [(1, (0, 412), (0, 4), .inr (0, (9, 0))), (0, (0, 412), (0, 2), .inr (0, (9, 0)))]) (fvs := []) hseg (by decide +kernel) (by decide +kernel)
  have hinv : rxIRPC_4 S0 ws S (r 8) := hinv
  rw [← hr_ 8 (by decide)] at hinv
  obtain ⟨⟨l8, u8⟩, ⟨l9, u9⟩, -⟩ := b_
  obtain ⟨T0, ⟨e1, w_⟩, w0⟩ := d_
  subst w0
  subst w_
  have g := rxdRPC_4_0 hP hin hsm_ I0 I1 hinv l8 u8 l9 u9 e1
  refine ⟨bx_narP_ok (l := []) g.1, ?_⟩
  show rxPSRPC S0 ws (bx_up T0 412 (4) (r_p 9)) (some (bx_num r_p (.inr (0, (0, 0)))))
  rw [bx_xv_ok h0_]
  exact g.2
theorem rxcRPC_6_0 {S0 : Nat → Int → Int} {ws : List Int} {S : Nat → Int → Int} {st : Int} (hP : rxPRPC S0 ws) (hin : bx_same rxL (bx_mdl rxCRPC.2.2.1) S0 S) (I0 : bx_Inv rxL S) (hinv : rxIRPC_6 S0 ws S st) (l8 : 0 ≤ st) (u8 : st ≤ 6) : (True) ∧ (True) ∧ rxIRPC_7 S0 ws S st ∧ rxmRPC_7 S0 ws S st < rxmRPC_6 S0 ws S st := by
  exact ⟨trivial, trivial, hinv, by unfold rxmRPC_6 rxmRPC_7; omega⟩
theorem rxgRPC_6_0 {X : (Nat → Int → Int) → Prop} {S0 : Nat → Int → Int} {ws : List Int} (hP : rxPRPC S0 ws) : bx_obC rxL X S0 rxCRPC.2.2.1 (rxIRPC S0 ws) (rxmRPC S0 ws) 6 rxzRPC_6 rxoRPC_6_0 := by
  intro S S_p r r_p hinv hX hin hsm_ hseg
  obtain ⟨I0, I1, h0_, hr_, b_, f_, d_⟩ := bx_cl (evs := []) (fvs := []) hseg (by decide +kernel) (by decide +kernel)
  have hinv : rxIRPC_6 S0 ws S (r 8) := hinv
  rw [← hr_ 8 (by decide)] at hinv
  obtain ⟨⟨l8, u8⟩, -⟩ := b_
  have w_ := d_
  subst w_
  have g := rxcRPC_6_0 hP hin I0 hinv l8 u8
  refine ⟨bx_narP_ok (l := []) g.1, bx_nfP_ok h0_ (fvs := []) (by decide +kernel) g.2.1, ?_, ?_⟩
  · show rxIRPC_7 S0 ws S_p (bx_val [(0, 0), (0, 0), (0, 0), (0, 0), (0, 0), (0, 0), (0, 0), (0, 0), (8, 0)] r_p 8)
    rw [bx_val_x (n := 8) (e := (8, 0)) h0_ rfl]
    exact g.2.2.1
  · show rxmRPC_7 S0 ws S_p (bx_val [(0, 0), (0, 0), (0, 0), (0, 0), (0, 0), (0, 0), (0, 0), (0, 0), (8, 0)] r_p 8) < rxmRPC_6 S0 ws S_p (r 8)
    rw [bx_val_x (n := 8) (e := (8, 0)) h0_ rfl, ← hr_ 8 (by decide)]
    exact g.2.2.2
theorem rxcRPC_8_0 {S0 : Nat → Int → Int} {ws : List Int} {S : Nat → Int → Int} {st r : Int} (hP : rxPRPC S0 ws) (hin : bx_same rxL (bx_mdl rxCRPC.2.2.1) S0 S) (I0 : bx_Inv rxL S) (hinv : rxIRPC_8 S0 ws S st r) (l8 : 0 ≤ st) (u8 : st ≤ 6) (l9 : 1 ≤ r) (u9 : r ≤ 1) (f0 : r ≠ 0) : (True) ∧ (True) ∧ rxIRPC_9 S0 ws S st ∧ rxmRPC_9 S0 ws S st < rxmRPC_8 S0 ws S st r := by
  rcases hinv with ⟨z, hA⟩ | ⟨z, hA⟩
  · exact ⟨trivial, trivial, hA, by unfold rxmRPC_8 rxmRPC_9; omega⟩
  · exfalso
    omega
theorem rxgRPC_8_0 {X : (Nat → Int → Int) → Prop} {S0 : Nat → Int → Int} {ws : List Int} (hP : rxPRPC S0 ws) : bx_obC rxL X S0 rxCRPC.2.2.1 (rxIRPC S0 ws) (rxmRPC S0 ws) 8 rxzRPC_8 rxoRPC_8_0 := by
  intro S S_p r r_p hinv hX hin hsm_ hseg
  obtain ⟨I0, I1, h0_, hr_, b_, f_, d_⟩ := bx_cl (evs := []) (fvs := [(3, (9, 0), (0, 0), (0, 0))]) hseg (by decide +kernel) (by decide +kernel)
  have hinv : rxIRPC_8 S0 ws S (r 8) (r 9) := hinv
  rw [← hr_ 8 (by decide), ← hr_ 9 (by decide)] at hinv
  obtain ⟨⟨l8, u8⟩, ⟨l9, u9⟩, -⟩ := b_
  obtain ⟨f0, -⟩ := f_
  have w_ := d_
  subst w_
  have g := rxcRPC_8_0 hP hin I0 hinv l8 u8 l9 u9 f0
  refine ⟨bx_narP_ok (l := []) g.1, bx_nfP_ok h0_ (fvs := []) (by decide +kernel) g.2.1, ?_, ?_⟩
  · show rxIRPC_9 S0 ws S_p (bx_val [(0, 0), (0, 0), (0, 0), (0, 0), (0, 0), (0, 0), (0, 0), (0, 0), (8, 0)] r_p 8)
    rw [bx_val_x (n := 8) (e := (8, 0)) h0_ rfl]
    exact g.2.2.1
  · show rxmRPC_9 S0 ws S_p (bx_val [(0, 0), (0, 0), (0, 0), (0, 0), (0, 0), (0, 0), (0, 0), (0, 0), (8, 0)] r_p 8) < rxmRPC_8 S0 ws S_p (r 8) (r 9)
    rw [bx_val_x (n := 8) (e := (8, 0)) h0_ rfl, ← hr_ 8 (by decide), ← hr_ 9 (by decide)]
    exact g.2.2.2
theorem rxdRPC_8_0 {S0 : Nat → Int → Int} {ws : List Int} {S : Nat → Int → Int} {st r : Int} (hP : rxPRPC S0 ws) (hin : bx_same rxL (bx_mdl rxCRPC.2.2.1) S0 S) (hin2 : bx_same rxL (bx_mdl rxCRPC.2.2.1) S S) (I0 : bx_Inv rxL S) (I1 : bx_Inv rxL S) (hinv : rxIRPC_8 S0 ws S st r) (l8 : 0 ≤ st) (u8 : st ≤ 6) (l9 : 0 ≤ r) (u9 : r ≤ 0) : (True) ∧ rxPSRPC S0 ws S (some 0) := by
  rcases hinv with ⟨z, hA⟩ | ⟨z, hA⟩
  · exfalso
    omega
  · exact ⟨trivial, hA⟩
theorem rxfRPC_8_0 {X : (Nat → Int → Int) → Prop} {S0 : Nat → Int → Int} {ws : List Int} (hP : rxPRPC S0 ws) : bx_obE rxL X S0 rxCRPC.2.2.1 (rxIRPC S0 ws) (rxPSRPC S0 ws) 8 rxzRPC_8 rxeRPC_8_0 := by
  intro S S_p r r_p hinv hX hin hsm_ hseg
  obtain ⟨I0, I1, h0_, hr_, b_, f_, d_⟩ := bx_cl (evs := []) (fvs := []) hseg (by decide +kernel) (by decide +kernel)
  have hinv : rxIRPC_8 S0 ws S (r 8) (r 9) := hinv
  rw [← hr_ 8 (by decide), ← hr_ 9 (by decide)] at hinv
  obtain ⟨⟨l8, u8⟩, ⟨l9, u9⟩, -⟩ := b_
  have w_ := d_
  subst w_
  have g := rxdRPC_8_0 hP hin hsm_ I0 I1 hinv l8 u8 l9 u9
  refine ⟨bx_narP_ok (l := []) g.1, ?_⟩
  show rxPSRPC S0 ws S_p (some (bx_num r_p (.inr (0, (0, 0)))))
  rw [bx_xv_ok h0_]
  exact g.2
theorem rxcRPC_10_0 {S0 : Nat → Int → Int} {ws : List Int} {S : Nat → Int → Int} {st pl : Int} (hP : rxPRPC S0 ws) (hin : bx_same rxL (bx_mdl rxCRPC.2.2.1) S0 S) (I0 : bx_Inv rxL S) (hinv : rxIRPC_10 S0 ws S st pl) (l8 : 0 ≤ st) (u8 : st ≤ 6) (l9 : 0 ≤ pl) (u9 : pl ≤ 6) : (True) ∧ (True) ∧ rxIRPC_11 S0 ws S st pl ∧ rxmRPC_11 S0 ws S st pl < rxmRPC_10 S0 ws S st pl := by
  obtain ⟨hA, hr⟩ := hinv
  have hb : rzPlc (rzCut (S0 411)) (S0 412 1) (S 412 2) = true := by
    rw [rzPlc_v, ← hr]
    exact decide_eq_true (by omega)
  exact ⟨trivial, trivial, ⟨hA, hb⟩, by unfold rxmRPC_10 rxmRPC_11; omega⟩
theorem rxgRPC_10_0 {X : (Nat → Int → Int) → Prop} {S0 : Nat → Int → Int} {ws : List Int} (hP : rxPRPC S0 ws) : bx_obC rxL X S0 rxCRPC.2.2.1 (rxIRPC S0 ws) (rxmRPC S0 ws) 10 rxzRPC_10 rxoRPC_10_0 := by
  intro S S_p r r_p hinv hX hin hsm_ hseg
  obtain ⟨I0, I1, h0_, hr_, b_, f_, d_⟩ := bx_cl (evs := []) (fvs := []) hseg (by decide +kernel) (by decide +kernel)
  have hinv : rxIRPC_10 S0 ws S (r 8) (r 9) := hinv
  rw [← hr_ 8 (by decide), ← hr_ 9 (by decide)] at hinv
  obtain ⟨⟨l8, u8⟩, ⟨l9, u9⟩, -⟩ := b_
  have w_ := d_
  subst w_
  have g := rxcRPC_10_0 hP hin I0 hinv l8 u8 l9 u9
  refine ⟨bx_narP_ok (l := []) g.1, bx_nfP_ok h0_ (fvs := []) (by decide +kernel) g.2.1, ?_, ?_⟩
  · show rxIRPC_11 S0 ws S_p (bx_val [(0, 0), (0, 0), (0, 0), (0, 0), (0, 0), (0, 0), (0, 0), (0, 0), (8, 0), (9, 0)] r_p 8) (bx_val [(0, 0), (0, 0), (0, 0), (0, 0), (0, 0), (0, 0), (0, 0), (0, 0), (8, 0), (9, 0)] r_p 9)
    rw [bx_val_x (n := 8) (e := (8, 0)) h0_ rfl, bx_val_x (n := 9) (e := (9, 0)) h0_ rfl]
    exact g.2.2.1
  · show rxmRPC_11 S0 ws S_p (bx_val [(0, 0), (0, 0), (0, 0), (0, 0), (0, 0), (0, 0), (0, 0), (0, 0), (8, 0), (9, 0)] r_p 8) (bx_val [(0, 0), (0, 0), (0, 0), (0, 0), (0, 0), (0, 0), (0, 0), (0, 0), (8, 0), (9, 0)] r_p 9) < rxmRPC_10 S0 ws S_p (r 8) (r 9)
    rw [bx_val_x (n := 8) (e := (8, 0)) h0_ rfl, bx_val_x (n := 9) (e := (9, 0)) h0_ rfl, ← hr_ 8 (by decide), ← hr_ 9 (by decide)]
    exact g.2.2.2
theorem rxdRPC_10_0 {S0 : Nat → Int → Int} {ws : List Int} {S : Nat → Int → Int} {st pl x10 : Int} (hP : rxPRPC S0 ws) (hin : bx_same rxL (bx_mdl rxCRPC.2.2.1) S0 S) (hin2 : bx_same rxL (bx_mdl rxCRPC.2.2.1) S (bx_up S 412 4 x10)) (I0 : bx_Inv rxL S) (I1 : bx_Inv rxL (bx_up S 412 4 x10)) (hinv : rxIRPC_10 S0 ws S st pl) (l8 : 0 ≤ st) (u8 : st ≤ 6) (l9 : (-2147483648) ≤ pl) (u9 : pl ≤ (-1)) (l10 : 0 ≤ x10) (u10 : x10 ≤ 400) (e1 : S 412 2 = x10) : (True) ∧ rxPSRPC S0 ws (bx_up S 412 4 x10) (some 0) := by
  obtain ⟨hA, hr⟩ := hinv
  have hb : rzPlc (rzCut (S0 411)) (S0 412 1) (S 412 2) = false := by
    rw [rzPlc_v, ← hr]
    exact decide_eq_false (by omega)
  exact ⟨trivial, rzAt_no hA (rzAlt_n hb rfl) (bx_up_at.trans e1.symm)⟩
theorem rxfRPC_10_0 {X : (Nat → Int → Int) → Prop} {S0 : Nat → Int → Int} {ws : List Int} (hP : rxPRPC S0 ws) : bx_obE rxL X S0 rxCRPC.2.2.1 (rxIRPC S0 ws) (rxPSRPC S0 ws) 10 rxzRPC_10 rxeRPC_10_0 := by
  intro S S_p r r_p hinv hX hin hsm_ hseg
  obtain ⟨I0, I1, h0_, hr_, b_, f_, d_⟩ := bx_cl (evs := [(1, (0, 412), (0, 4), .inr (0, (10, 0))), (0, (0, 412), (0, 2), .inr (0, (10, 0)))]) (fvs := []) hseg (by decide +kernel) (by decide +kernel)
  have hinv : rxIRPC_10 S0 ws S (r 8) (r 9) := hinv
  rw [← hr_ 8 (by decide), ← hr_ 9 (by decide)] at hinv
  obtain ⟨⟨l8, u8⟩, ⟨l9, u9⟩, ⟨l10, u10⟩, -⟩ := b_
  obtain ⟨T0, ⟨e1, w_⟩, w0⟩ := d_
  subst w0
  subst w_
  have g := rxdRPC_10_0 hP hin hsm_ I0 I1 hinv l8 u8 l9 u9 l10 u10 e1
  refine ⟨bx_narP_ok (l := []) g.1, ?_⟩
  show rxPSRPC S0 ws (bx_up T0 412 (4) (r_p 10)) (some (bx_num r_p (.inr (0, (0, 0)))))
  rw [bx_xv_ok h0_]
  exact g.2
theorem rxcRPC_12_0 {S0 : Nat → Int → Int} {ws : List Int} {S : Nat → Int → Int} {st cu : Int} (hP : rxPRPC S0 ws) (hin : bx_same rxL (bx_mdl rxCRPC.2.2.1) S0 S) (I0 : bx_Inv rxL S) (hinv : rxIRPC_12 S0 ws S st cu) (l8 : 0 ≤ st) (u8 : st ≤ 6) (l9 : 0 ≤ cu) (u9 : cu ≤ 6) : (True) ∧ (True) ∧ rxIRPC_13 S0 ws S st cu ∧ rxmRPC_13 S0 ws S st cu < rxmRPC_12 S0 ws S st cu := by
  exact ⟨trivial, trivial, hinv, by unfold rxmRPC_12 rxmRPC_13; omega⟩
theorem rxgRPC_12_0 {X : (Nat → Int → Int) → Prop} {S0 : Nat → Int → Int} {ws : List Int} (hP : rxPRPC S0 ws) : bx_obC rxL X S0 rxCRPC.2.2.1 (rxIRPC S0 ws) (rxmRPC S0 ws) 12 rxzRPC_12 rxoRPC_12_0 := by
  intro S S_p r r_p hinv hX hin hsm_ hseg
  obtain ⟨I0, I1, h0_, hr_, b_, f_, d_⟩ := bx_cl (evs := []) (fvs := []) hseg (by decide +kernel) (by decide +kernel)
  have hinv : rxIRPC_12 S0 ws S (r 8) (r 9) := hinv
  rw [← hr_ 8 (by decide), ← hr_ 9 (by decide)] at hinv
  obtain ⟨⟨l8, u8⟩, ⟨l9, u9⟩, -⟩ := b_
  have w_ := d_
  subst w_
  have g := rxcRPC_12_0 hP hin I0 hinv l8 u8 l9 u9
  refine ⟨bx_narP_ok (l := []) g.1, bx_nfP_ok h0_ (fvs := []) (by decide +kernel) g.2.1, ?_, ?_⟩
  · show rxIRPC_13 S0 ws S_p (bx_val [(0, 0), (0, 0), (0, 0), (0, 0), (0, 0), (0, 0), (0, 0), (0, 0), (8, 0), (9, 0)] r_p 8) (bx_val [(0, 0), (0, 0), (0, 0), (0, 0), (0, 0), (0, 0), (0, 0), (0, 0), (8, 0), (9, 0)] r_p 9)
    rw [bx_val_x (n := 8) (e := (8, 0)) h0_ rfl, bx_val_x (n := 9) (e := (9, 0)) h0_ rfl]
    exact g.2.2.1
  · show rxmRPC_13 S0 ws S_p (bx_val [(0, 0), (0, 0), (0, 0), (0, 0), (0, 0), (0, 0), (0, 0), (0, 0), (8, 0), (9, 0)] r_p 8) (bx_val [(0, 0), (0, 0), (0, 0), (0, 0), (0, 0), (0, 0), (0, 0), (0, 0), (8, 0), (9, 0)] r_p 9) < rxmRPC_12 S0 ws S_p (r 8) (r 9)
    rw [bx_val_x (n := 8) (e := (8, 0)) h0_ rfl, bx_val_x (n := 9) (e := (9, 0)) h0_ rfl, ← hr_ 8 (by decide), ← hr_ 9 (by decide)]
    exact g.2.2.2
theorem rxcRPC_14_0 {S0 : Nat → Int → Int} {ws : List Int} {S : Nat → Int → Int} {st cu r : Int} (hP : rxPRPC S0 ws) (hin : bx_same rxL (bx_mdl rxCRPC.2.2.1) S0 S) (I0 : bx_Inv rxL S) (hinv : rxIRPC_14 S0 ws S st cu r) (l8 : 0 ≤ st) (u8 : st ≤ 6) (l9 : 0 ≤ cu) (u9 : cu ≤ 6) (l10 : 0 ≤ r) (u10 : r ≤ 0) : (True) ∧ (True) ∧ rxIRPC_15 S0 ws S st cu r ∧ rxmRPC_15 S0 ws S st cu r < rxmRPC_14 S0 ws S st cu r := by
  obtain ⟨hA, hr⟩ := hinv
  rw [hA.1.1, hA.1.2.1] at hr
  have b1 : rzIs (rzCut (S0 411)) (S0 412 1) rzW_hush (S 412 2) = false := by
    cases hb : rzIs (rzCut (S0 411)) (S0 412 1) rzW_hush (S 412 2) with
    | false => rfl
    | true =>
      rw [hb, if_pos rfl] at hr
      omega
  exact ⟨trivial, trivial, ⟨hA, by omega, b1⟩, by unfold rxmRPC_14 rxmRPC_15; omega⟩
theorem rxgRPC_14_0 {X : (Nat → Int → Int) → Prop} {S0 : Nat → Int → Int} {ws : List Int} (hP : rxPRPC S0 ws) : bx_obC rxL X S0 rxCRPC.2.2.1 (rxIRPC S0 ws) (rxmRPC S0 ws) 14 rxzRPC_14 rxoRPC_14_0 := by
  intro S S_p r r_p hinv hX hin hsm_ hseg
  obtain ⟨I0, I1, h0_, hr_, b_, f_, d_⟩ := bx_cl (evs := []) (fvs := []) hseg (by decide +kernel) (by decide +kernel)
  have hinv : rxIRPC_14 S0 ws S (r 8) (r 9) (r 10) := hinv
  rw [← hr_ 8 (by decide), ← hr_ 9 (by decide), ← hr_ 10 (by decide)] at hinv
  obtain ⟨⟨l8, u8⟩, ⟨l9, u9⟩, ⟨l10, u10⟩, -⟩ := b_
  have w_ := d_
  subst w_
  have g := rxcRPC_14_0 hP hin I0 hinv l8 u8 l9 u9 l10 u10
  refine ⟨bx_narP_ok (l := []) g.1, bx_nfP_ok h0_ (fvs := []) (by decide +kernel) g.2.1, ?_, ?_⟩
  · show rxIRPC_15 S0 ws S_p (bx_val [(0, 0), (0, 0), (0, 0), (0, 0), (0, 0), (0, 0), (0, 0), (0, 0), (8, 0), (9, 0), (10, 0)] r_p 8) (bx_val [(0, 0), (0, 0), (0, 0), (0, 0), (0, 0), (0, 0), (0, 0), (0, 0), (8, 0), (9, 0), (10, 0)] r_p 9) (bx_val [(0, 0), (0, 0), (0, 0), (0, 0), (0, 0), (0, 0), (0, 0), (0, 0), (8, 0), (9, 0), (10, 0)] r_p 10)
    rw [bx_val_x (n := 8) (e := (8, 0)) h0_ rfl, bx_val_x (n := 9) (e := (9, 0)) h0_ rfl, bx_val_x (n := 10) (e := (10, 0)) h0_ rfl]
    exact g.2.2.1
  · show rxmRPC_15 S0 ws S_p (bx_val [(0, 0), (0, 0), (0, 0), (0, 0), (0, 0), (0, 0), (0, 0), (0, 0), (8, 0), (9, 0), (10, 0)] r_p 8) (bx_val [(0, 0), (0, 0), (0, 0), (0, 0), (0, 0), (0, 0), (0, 0), (0, 0), (8, 0), (9, 0), (10, 0)] r_p 9) (bx_val [(0, 0), (0, 0), (0, 0), (0, 0), (0, 0), (0, 0), (0, 0), (0, 0), (8, 0), (9, 0), (10, 0)] r_p 10) < rxmRPC_14 S0 ws S_p (r 8) (r 9) (r 10)
    rw [bx_val_x (n := 8) (e := (8, 0)) h0_ rfl, bx_val_x (n := 9) (e := (9, 0)) h0_ rfl, bx_val_x (n := 10) (e := (10, 0)) h0_ rfl, ← hr_ 8 (by decide), ← hr_ 9 (by decide), ← hr_ 10 (by decide)]
    exact g.2.2.2
theorem rxcRPC_14_1 {S0 : Nat → Int → Int} {ws : List Int} {S : Nat → Int → Int} {st cu r : Int} (hP : rxPRPC S0 ws) (hin : bx_same rxL (bx_mdl rxCRPC.2.2.1) S0 S) (I0 : bx_Inv rxL S) (hinv : rxIRPC_14 S0 ws S st cu r) (l8 : 0 ≤ st) (u8 : st ≤ 6) (l9 : 0 ≤ cu) (u9 : cu ≤ 6) (l10 : 1 ≤ r) (u10 : r ≤ 1) (f0 : r ≠ 0) : (True) ∧ (True) ∧ rxIRPC_17 S0 ws S st cu r ∧ rxmRPC_17 S0 ws S st cu r < rxmRPC_14 S0 ws S st cu r := by
  obtain ⟨hA, hr⟩ := hinv
  rw [hA.1.1, hA.1.2.1] at hr
  have b1 : rzIs (rzCut (S0 411)) (S0 412 1) rzW_hush (S 412 2) = true := by
    cases hb : rzIs (rzCut (S0 411)) (S0 412 1) rzW_hush (S 412 2) with
    | true => rfl
    | false =>
      rw [hb, if_neg (by decide)] at hr
      omega
  exact ⟨trivial, trivial, ⟨hA, Or.inl ⟨by omega, b1⟩⟩, by unfold rxmRPC_14 rxmRPC_17; omega⟩
theorem rxgRPC_14_1 {X : (Nat → Int → Int) → Prop} {S0 : Nat → Int → Int} {ws : List Int} (hP : rxPRPC S0 ws) : bx_obC rxL X S0 rxCRPC.2.2.1 (rxIRPC S0 ws) (rxmRPC S0 ws) 14 rxzRPC_14 rxoRPC_14_1 := by
  intro S S_p r r_p hinv hX hin hsm_ hseg
  obtain ⟨I0, I1, h0_, hr_, b_, f_, d_⟩ := bx_cl (evs := []) (fvs := [(3, (10, 0), (0, 0), (0, 0))]) hseg (by decide +kernel) (by decide +kernel)
  have hinv : rxIRPC_14 S0 ws S (r 8) (r 9) (r 10) := hinv
  rw [← hr_ 8 (by decide), ← hr_ 9 (by decide), ← hr_ 10 (by decide)] at hinv
  obtain ⟨⟨l8, u8⟩, ⟨l9, u9⟩, ⟨l10, u10⟩, -⟩ := b_
  obtain ⟨f0, -⟩ := f_
  have w_ := d_
  subst w_
  have g := rxcRPC_14_1 hP hin I0 hinv l8 u8 l9 u9 l10 u10 f0
  refine ⟨bx_narP_ok (l := []) g.1, bx_nfP_ok h0_ (fvs := []) (by decide +kernel) g.2.1, ?_, ?_⟩
  · show rxIRPC_17 S0 ws S_p (bx_val [(0, 0), (0, 0), (0, 0), (0, 0), (0, 0), (0, 0), (0, 0), (0, 0), (8, 0), (9, 0), (10, 0)] r_p 8) (bx_val [(0, 0), (0, 0), (0, 0), (0, 0), (0, 0), (0, 0), (0, 0), (0, 0), (8, 0), (9, 0), (10, 0)] r_p 9) (bx_val [(0, 0), (0, 0), (0, 0), (0, 0), (0, 0), (0, 0), (0, 0), (0, 0), (8, 0), (9, 0), (10, 0)] r_p 10)
    rw [bx_val_x (n := 8) (e := (8, 0)) h0_ rfl, bx_val_x (n := 9) (e := (9, 0)) h0_ rfl, bx_val_x (n := 10) (e := (10, 0)) h0_ rfl]
    exact g.2.2.1
  · show rxmRPC_17 S0 ws S_p (bx_val [(0, 0), (0, 0), (0, 0), (0, 0), (0, 0), (0, 0), (0, 0), (0, 0), (8, 0), (9, 0), (10, 0)] r_p 8) (bx_val [(0, 0), (0, 0), (0, 0), (0, 0), (0, 0), (0, 0), (0, 0), (0, 0), (8, 0), (9, 0), (10, 0)] r_p 9) (bx_val [(0, 0), (0, 0), (0, 0), (0, 0), (0, 0), (0, 0), (0, 0), (0, 0), (8, 0), (9, 0), (10, 0)] r_p 10) < rxmRPC_14 S0 ws S_p (r 8) (r 9) (r 10)
    rw [bx_val_x (n := 8) (e := (8, 0)) h0_ rfl, bx_val_x (n := 9) (e := (9, 0)) h0_ rfl, bx_val_x (n := 10) (e := (10, 0)) h0_ rfl, ← hr_ 8 (by decide), ← hr_ 9 (by decide), ← hr_ 10 (by decide)]
    exact g.2.2.2
theorem rxcRPC_16_0 {S0 : Nat → Int → Int} {ws : List Int} {S : Nat → Int → Int} {st cu hu r : Int} (hP : rxPRPC S0 ws) (hin : bx_same rxL (bx_mdl rxCRPC.2.2.1) S0 S) (I0 : bx_Inv rxL S) (hinv : rxIRPC_16 S0 ws S st cu hu r) (l8 : 0 ≤ st) (u8 : st ≤ 6) (l9 : 0 ≤ cu) (u9 : cu ≤ 6) (l10 : 0 ≤ hu) (u10 : hu ≤ 1) (l11 : 1 ≤ r) (u11 : r ≤ 1) (f0 : r ≠ 0) : (True) ∧ (True) ∧ rxIRPC_17 S0 ws S st cu hu ∧ rxmRPC_17 S0 ws S st cu hu < rxmRPC_16 S0 ws S st cu hu r := by
  obtain ⟨hA, h0, h1, hr⟩ := hinv
  rw [hA.1.1, hA.1.2.1] at hr
  have b1 : rzIs (rzCut (S0 411)) (S0 412 1) rzW_say (S 412 2) = true := by
    cases hb : rzIs (rzCut (S0 411)) (S0 412 1) rzW_say (S 412 2) with
    | true => rfl
    | false =>
      rw [hb, if_neg (by decide)] at hr
      omega
  exact ⟨trivial, trivial, ⟨hA, Or.inr ⟨h0, h1, b1⟩⟩, by unfold rxmRPC_16 rxmRPC_17; omega⟩
theorem rxgRPC_16_0 {X : (Nat → Int → Int) → Prop} {S0 : Nat → Int → Int} {ws : List Int} (hP : rxPRPC S0 ws) : bx_obC rxL X S0 rxCRPC.2.2.1 (rxIRPC S0 ws) (rxmRPC S0 ws) 16 rxzRPC_16 rxoRPC_16_0 := by
  intro S S_p r r_p hinv hX hin hsm_ hseg
  obtain ⟨I0, I1, h0_, hr_, b_, f_, d_⟩ := bx_cl (evs := []) (fvs := [(3, (11, 0), (0, 0), (0, 0))]) hseg (by decide +kernel) (by decide +kernel)
  have hinv : rxIRPC_16 S0 ws S (r 8) (r 9) (r 10) (r 11) := hinv
  rw [← hr_ 8 (by decide), ← hr_ 9 (by decide), ← hr_ 10 (by decide), ← hr_ 11 (by decide)] at hinv
  obtain ⟨⟨l8, u8⟩, ⟨l9, u9⟩, ⟨l10, u10⟩, ⟨l11, u11⟩, -⟩ := b_
  obtain ⟨f0, -⟩ := f_
  have w_ := d_
  subst w_
  have g := rxcRPC_16_0 hP hin I0 hinv l8 u8 l9 u9 l10 u10 l11 u11 f0
  refine ⟨bx_narP_ok (l := []) g.1, bx_nfP_ok h0_ (fvs := []) (by decide +kernel) g.2.1, ?_, ?_⟩
  · show rxIRPC_17 S0 ws S_p (bx_val [(0, 0), (0, 0), (0, 0), (0, 0), (0, 0), (0, 0), (0, 0), (0, 0), (8, 0), (9, 0), (10, 0)] r_p 8) (bx_val [(0, 0), (0, 0), (0, 0), (0, 0), (0, 0), (0, 0), (0, 0), (0, 0), (8, 0), (9, 0), (10, 0)] r_p 9) (bx_val [(0, 0), (0, 0), (0, 0), (0, 0), (0, 0), (0, 0), (0, 0), (0, 0), (8, 0), (9, 0), (10, 0)] r_p 10)
    rw [bx_val_x (n := 8) (e := (8, 0)) h0_ rfl, bx_val_x (n := 9) (e := (9, 0)) h0_ rfl, bx_val_x (n := 10) (e := (10, 0)) h0_ rfl]
    exact g.2.2.1
  · show rxmRPC_17 S0 ws S_p (bx_val [(0, 0), (0, 0), (0, 0), (0, 0), (0, 0), (0, 0), (0, 0), (0, 0), (8, 0), (9, 0), (10, 0)] r_p 8) (bx_val [(0, 0), (0, 0), (0, 0), (0, 0), (0, 0), (0, 0), (0, 0), (0, 0), (8, 0), (9, 0), (10, 0)] r_p 9) (bx_val [(0, 0), (0, 0), (0, 0), (0, 0), (0, 0), (0, 0), (0, 0), (0, 0), (8, 0), (9, 0), (10, 0)] r_p 10) < rxmRPC_16 S0 ws S_p (r 8) (r 9) (r 10) (r 11)
    rw [bx_val_x (n := 8) (e := (8, 0)) h0_ rfl, bx_val_x (n := 9) (e := (9, 0)) h0_ rfl, bx_val_x (n := 10) (e := (10, 0)) h0_ rfl, ← hr_ 8 (by decide), ← hr_ 9 (by decide), ← hr_ 10 (by decide), ← hr_ 11 (by decide)]
    exact g.2.2.2
theorem rxdRPC_16_0 {S0 : Nat → Int → Int} {ws : List Int} {S : Nat → Int → Int} {st cu hu r x12 : Int} (hP : rxPRPC S0 ws) (hin : bx_same rxL (bx_mdl rxCRPC.2.2.1) S0 S) (hin2 : bx_same rxL (bx_mdl rxCRPC.2.2.1) S (bx_up S 412 4 x12)) (I0 : bx_Inv rxL S) (I1 : bx_Inv rxL (bx_up S 412 4 x12)) (hinv : rxIRPC_16 S0 ws S st cu hu r) (l8 : 0 ≤ st) (u8 : st ≤ 6) (l9 : 0 ≤ cu) (u9 : cu ≤ 6) (l10 : 0 ≤ hu) (u10 : hu ≤ 1) (l11 : 0 ≤ r) (u11 : r ≤ 0) (l12 : 0 ≤ x12) (u12 : x12 ≤ 400) (e1 : S 412 2 = x12) : (True) ∧ rxPSRPC S0 ws (bx_up S 412 4 x12) (some 0) := by
  obtain ⟨hA, h0, h1, hr⟩ := hinv
  rw [hA.1.1, hA.1.2.1] at hr
  have b1 : rzIs (rzCut (S0 411)) (S0 412 1) rzW_say (S 412 2) = false := by
    cases hb : rzIs (rzCut (S0 411)) (S0 412 1) rzW_say (S 412 2) with
    | false => rfl
    | true =>
      rw [hb, if_pos rfl] at hr
      omega
  exact ⟨trivial, rzAt_no hA (rzAlt_n h1 (rzAlt_n b1 rfl)) (bx_up_at.trans e1.symm)⟩
theorem rxfRPC_16_0 {X : (Nat → Int → Int) → Prop} {S0 : Nat → Int → Int} {ws : List Int} (hP : rxPRPC S0 ws) : bx_obE rxL X S0 rxCRPC.2.2.1 (rxIRPC S0 ws) (rxPSRPC S0 ws) 16 rxzRPC_16 rxeRPC_16_0 := by
  intro S S_p r r_p hinv hX hin hsm_ hseg
  obtain ⟨I0, I1, h0_, hr_, b_, f_, d_⟩ := bx_cl (evs := [(1, (0, 412), (0, 4), .inr (0, (12, 0))), (0, (0, 412), (0, 2), .inr (0, (12, 0)))]) (fvs := []) hseg (by decide +kernel) (by decide +kernel)
  have hinv : rxIRPC_16 S0 ws S (r 8) (r 9) (r 10) (r 11) := hinv
  rw [← hr_ 8 (by decide), ← hr_ 9 (by decide), ← hr_ 10 (by decide), ← hr_ 11 (by decide)] at hinv
  obtain ⟨⟨l8, u8⟩, ⟨l9, u9⟩, ⟨l10, u10⟩, ⟨l11, u11⟩, ⟨l12, u12⟩, -⟩ := b_
  obtain ⟨T0, ⟨e1, w_⟩, w0⟩ := d_
  subst w0
  subst w_
  have g := rxdRPC_16_0 hP hin hsm_ I0 I1 hinv l8 u8 l9 u9 l10 u10 l11 u11 l12 u12 e1
  refine ⟨bx_narP_ok (l := []) g.1, ?_⟩
  show rxPSRPC S0 ws (bx_up T0 412 (4) (r_p 12)) (some (bx_num r_p (.inr (0, (0, 0)))))
  rw [bx_xv_ok h0_]
  exact g.2
theorem rxcRPC_18_0 {S0 : Nat → Int → Int} {ws : List Int} {S : Nat → Int → Int} {st cu hu : Int} (hP : rxPRPC S0 ws) (hin : bx_same rxL (bx_mdl rxCRPC.2.2.1) S0 S) (I0 : bx_Inv rxL S) (hinv : rxIRPC_18 S0 ws S st cu hu) (l8 : 0 ≤ st) (u8 : st ≤ 6) (l9 : 0 ≤ cu) (u9 : cu ≤ 6) (l10 : 1 ≤ hu) (u10 : hu ≤ 1) (f0 : hu ≠ 0) : (True) ∧ (True) ∧ rxIRPC_19 S0 ws S st cu hu 4 ∧ rxmRPC_19 S0 ws S st cu hu 4 < rxmRPC_18 S0 ws S st cu hu := by
  exact ⟨trivial, trivial, hinv, by unfold rxmRPC_18 rxmRPC_19; omega⟩
theorem rxgRPC_18_0 {X : (Nat → Int → Int) → Prop} {S0 : Nat → Int → Int} {ws : List Int} (hP : rxPRPC S0 ws) : bx_obC rxL X S0 rxCRPC.2.2.1 (rxIRPC S0 ws) (rxmRPC S0 ws) 18 rxzRPC_18 rxoRPC_18_0 := by
  intro S S_p r r_p hinv hX hin hsm_ hseg
  obtain ⟨I0, I1, h0_, hr_, b_, f_, d_⟩ := bx_cl (evs := []) (fvs := [(3, (10, 0), (0, 0), (0, 0))]) hseg (by decide +kernel) (by decide +kernel)
  have hinv : rxIRPC_18 S0 ws S (r 8) (r 9) (r 10) := hinv
  rw [← hr_ 8 (by decide), ← hr_ 9 (by decide), ← hr_ 10 (by decide)] at hinv
  obtain ⟨⟨l8, u8⟩, ⟨l9, u9⟩, ⟨l10, u10⟩, -⟩ := b_
  obtain ⟨f0, -⟩ := f_
  have w_ := d_
  subst w_
  have g := rxcRPC_18_0 hP hin I0 hinv l8 u8 l9 u9 l10 u10 f0
  refine ⟨bx_narP_ok (l := []) g.1, bx_nfP_ok h0_ (fvs := []) (by decide +kernel) g.2.1, ?_, ?_⟩
  · show rxIRPC_19 S0 ws S_p (bx_val [(0, 0), (0, 0), (0, 0), (0, 0), (0, 0), (0, 0), (0, 0), (0, 0), (8, 0), (9, 0), (10, 0), (0, 4)] r_p 8) (bx_val [(0, 0), (0, 0), (0, 0), (0, 0), (0, 0), (0, 0), (0, 0), (0, 0), (8, 0), (9, 0), (10, 0), (0, 4)] r_p 9) (bx_val [(0, 0), (0, 0), (0, 0), (0, 0), (0, 0), (0, 0), (0, 0), (0, 0), (8, 0), (9, 0), (10, 0), (0, 4)] r_p 10) (bx_val [(0, 0), (0, 0), (0, 0), (0, 0), (0, 0), (0, 0), (0, 0), (0, 0), (8, 0), (9, 0), (10, 0), (0, 4)] r_p 11)
    rw [bx_val_x (n := 8) (e := (8, 0)) h0_ rfl, bx_val_x (n := 9) (e := (9, 0)) h0_ rfl, bx_val_x (n := 10) (e := (10, 0)) h0_ rfl, bx_val_x (n := 11) (e := (0, 4)) h0_ rfl]
    exact g.2.2.1
  · show rxmRPC_19 S0 ws S_p (bx_val [(0, 0), (0, 0), (0, 0), (0, 0), (0, 0), (0, 0), (0, 0), (0, 0), (8, 0), (9, 0), (10, 0), (0, 4)] r_p 8) (bx_val [(0, 0), (0, 0), (0, 0), (0, 0), (0, 0), (0, 0), (0, 0), (0, 0), (8, 0), (9, 0), (10, 0), (0, 4)] r_p 9) (bx_val [(0, 0), (0, 0), (0, 0), (0, 0), (0, 0), (0, 0), (0, 0), (0, 0), (8, 0), (9, 0), (10, 0), (0, 4)] r_p 10) (bx_val [(0, 0), (0, 0), (0, 0), (0, 0), (0, 0), (0, 0), (0, 0), (0, 0), (8, 0), (9, 0), (10, 0), (0, 4)] r_p 11) < rxmRPC_18 S0 ws S_p (r 8) (r 9) (r 10)
    rw [bx_val_x (n := 8) (e := (8, 0)) h0_ rfl, bx_val_x (n := 9) (e := (9, 0)) h0_ rfl, bx_val_x (n := 10) (e := (10, 0)) h0_ rfl, bx_val_x (n := 11) (e := (0, 4)) h0_ rfl, ← hr_ 8 (by decide), ← hr_ 9 (by decide), ← hr_ 10 (by decide)]
    exact g.2.2.2
theorem rxcRPC_18_1 {S0 : Nat → Int → Int} {ws : List Int} {S : Nat → Int → Int} {st cu hu : Int} (hP : rxPRPC S0 ws) (hin : bx_same rxL (bx_mdl rxCRPC.2.2.1) S0 S) (I0 : bx_Inv rxL S) (hinv : rxIRPC_18 S0 ws S st cu hu) (l8 : 0 ≤ st) (u8 : st ≤ 6) (l9 : 0 ≤ cu) (u9 : cu ≤ 6) (l10 : 0 ≤ hu) (u10 : hu ≤ 0) : (True) ∧ (True) ∧ rxIRPC_19 S0 ws S st cu hu 3 ∧ rxmRPC_19 S0 ws S st cu hu 3 < rxmRPC_18 S0 ws S st cu hu := by
  exact ⟨trivial, trivial, hinv, by unfold rxmRPC_18 rxmRPC_19; omega⟩
theorem rxgRPC_18_1 {X : (Nat → Int → Int) → Prop} {S0 : Nat → Int → Int} {ws : List Int} (hP : rxPRPC S0 ws) : bx_obC rxL X S0 rxCRPC.2.2.1 (rxIRPC S0 ws) (rxmRPC S0 ws) 18 rxzRPC_18 rxoRPC_18_1 := by
  intro S S_p r r_p hinv hX hin hsm_ hseg
  obtain ⟨I0, I1, h0_, hr_, b_, f_, d_⟩ := bx_cl (evs := []) (fvs := []) hseg (by decide +kernel) (by decide +kernel)
  have hinv : rxIRPC_18 S0 ws S (r 8) (r 9) (r 10) := hinv
  rw [← hr_ 8 (by decide), ← hr_ 9 (by decide), ← hr_ 10 (by decide)] at hinv
  obtain ⟨⟨l8, u8⟩, ⟨l9, u9⟩, ⟨l10, u10⟩, -⟩ := b_
  have w_ := d_
  subst w_
  have g := rxcRPC_18_1 hP hin I0 hinv l8 u8 l9 u9 l10 u10
  refine ⟨bx_narP_ok (l := []) g.1, bx_nfP_ok h0_ (fvs := []) (by decide +kernel) g.2.1, ?_, ?_⟩
  · show rxIRPC_19 S0 ws S_p (bx_val [(0, 0), (0, 0), (0, 0), (0, 0), (0, 0), (0, 0), (0, 0), (0, 0), (8, 0), (9, 0), (10, 0), (0, 3)] r_p 8) (bx_val [(0, 0), (0, 0), (0, 0), (0, 0), (0, 0), (0, 0), (0, 0), (0, 0), (8, 0), (9, 0), (10, 0), (0, 3)] r_p 9) (bx_val [(0, 0), (0, 0), (0, 0), (0, 0), (0, 0), (0, 0), (0, 0), (0, 0), (8, 0), (9, 0), (10, 0), (0, 3)] r_p 10) (bx_val [(0, 0), (0, 0), (0, 0), (0, 0), (0, 0), (0, 0), (0, 0), (0, 0), (8, 0), (9, 0), (10, 0), (0, 3)] r_p 11)
    rw [bx_val_x (n := 8) (e := (8, 0)) h0_ rfl, bx_val_x (n := 9) (e := (9, 0)) h0_ rfl, bx_val_x (n := 10) (e := (10, 0)) h0_ rfl, bx_val_x (n := 11) (e := (0, 3)) h0_ rfl]
    exact g.2.2.1
  · show rxmRPC_19 S0 ws S_p (bx_val [(0, 0), (0, 0), (0, 0), (0, 0), (0, 0), (0, 0), (0, 0), (0, 0), (8, 0), (9, 0), (10, 0), (0, 3)] r_p 8) (bx_val [(0, 0), (0, 0), (0, 0), (0, 0), (0, 0), (0, 0), (0, 0), (0, 0), (8, 0), (9, 0), (10, 0), (0, 3)] r_p 9) (bx_val [(0, 0), (0, 0), (0, 0), (0, 0), (0, 0), (0, 0), (0, 0), (0, 0), (8, 0), (9, 0), (10, 0), (0, 3)] r_p 10) (bx_val [(0, 0), (0, 0), (0, 0), (0, 0), (0, 0), (0, 0), (0, 0), (0, 0), (8, 0), (9, 0), (10, 0), (0, 3)] r_p 11) < rxmRPC_18 S0 ws S_p (r 8) (r 9) (r 10)
    rw [bx_val_x (n := 8) (e := (8, 0)) h0_ rfl, bx_val_x (n := 9) (e := (9, 0)) h0_ rfl, bx_val_x (n := 10) (e := (10, 0)) h0_ rfl, bx_val_x (n := 11) (e := (0, 3)) h0_ rfl, ← hr_ 8 (by decide), ← hr_ 9 (by decide), ← hr_ 10 (by decide)]
    exact g.2.2.2
theorem rxcRPC_20_0 {S0 : Nat → Int → Int} {ws : List Int} {S : Nat → Int → Int} {st cu hu ki x12 : Int} (hP : rxPRPC S0 ws) (hin : bx_same rxL (bx_mdl rxCRPC.2.2.1) S0 S) (I0 : bx_Inv rxL S) (hinv : rxIRPC_20 S0 ws S st cu hu ki) (l8 : 0 ≤ st) (u8 : st ≤ 6) (l9 : 0 ≤ cu) (u9 : cu ≤ 6) (l10 : 0 ≤ hu) (u10 : hu ≤ 0) (l11 : 0 ≤ ki) (u11 : ki ≤ 4) (l12 : 0 ≤ x12) (u12 : x12 ≤ 1522) (e0 : S 427 8 = x12) : (True) ∧ (True) ∧ rxIRPC_21 S0 ws S st cu hu x12 ∧ rxmRPC_21 S0 ws S st cu hu x12 < rxmRPC_20 S0 ws S st cu hu ki := by
  have hA : rzAt (rzPH (rzCut (S0 411)) (S0 412 1) (rzWs S0) (S0 412 2) (S0 412 7)) S0 S (fun f lf r => rzAlt (decide (hu = 1)) (r = (true, f, lf)) (rzThen (rzEx (rzCut (S0 411)) (S0 412 1) (rzWs S0) 0 f lf) (rzPG (rzCut (S0 411)) (S0 412 1) (rzWs S0)) r)) := hinv
  exact ⟨trivial, trivial, rzAt_im hA fun r q => rzAlt_n (decide_eq_false (by omega)) q, by unfold rxmRPC_20 rxmRPC_21; omega⟩
theorem rxgRPC_20_0 {X : (Nat → Int → Int) → Prop} {S0 : Nat → Int → Int} {ws : List Int} (hP : rxPRPC S0 ws) : bx_obC rxL X S0 rxCRPC.2.2.1 (rxIRPC S0 ws) (rxmRPC S0 ws) 20 rxzRPC_20 rxoRPC_20_0 := by
  intro S S_p r r_p hinv hX hin hsm_ hseg
  obtain ⟨I0, I1, h0_, hr_, b_, f_, d_⟩ := bx_cl (evs := [(0, (0, 427), (0, 8), .inr (3, (12, 0)))]) (fvs := []) hseg (by decide +kernel) (by decide +kernel)
  have hinv : rxIRPC_20 S0 ws S (r 8) (r 9) (r 10) (r 11) := hinv
  rw [← hr_ 8 (by decide), ← hr_ 9 (by decide), ← hr_ 10 (by decide), ← hr_ 11 (by decide)] at hinv
  obtain ⟨⟨l8, u8⟩, ⟨l9, u9⟩, ⟨l10, u10⟩, ⟨l11, u11⟩, ⟨l12, u12⟩, -⟩ := b_
  obtain ⟨e0, w_⟩ := d_
  subst w_
  have g := rxcRPC_20_0 hP hin I0 hinv l8 u8 l9 u9 l10 u10 l11 u11 l12 u12 e0
  refine ⟨bx_narP_ok (l := []) g.1, bx_nfP_ok h0_ (fvs := []) (by decide +kernel) g.2.1, ?_, ?_⟩
  · show rxIRPC_21 S0 ws S_p (bx_val [(0, 0), (0, 0), (0, 0), (0, 0), (0, 0), (0, 0), (0, 0), (0, 0), (8, 0), (9, 0), (10, 0), (12, 0)] r_p 8) (bx_val [(0, 0), (0, 0), (0, 0), (0, 0), (0, 0), (0, 0), (0, 0), (0, 0), (8, 0), (9, 0), (10, 0), (12, 0)] r_p 9) (bx_val [(0, 0), (0, 0), (0, 0), (0, 0), (0, 0), (0, 0), (0, 0), (0, 0), (8, 0), (9, 0), (10, 0), (12, 0)] r_p 10) (bx_val [(0, 0), (0, 0), (0, 0), (0, 0), (0, 0), (0, 0), (0, 0), (0, 0), (8, 0), (9, 0), (10, 0), (12, 0)] r_p 11)
    rw [bx_val_x (n := 8) (e := (8, 0)) h0_ rfl, bx_val_x (n := 9) (e := (9, 0)) h0_ rfl, bx_val_x (n := 10) (e := (10, 0)) h0_ rfl, bx_val_x (n := 11) (e := (12, 0)) h0_ rfl]
    exact g.2.2.1
  · show rxmRPC_21 S0 ws S_p (bx_val [(0, 0), (0, 0), (0, 0), (0, 0), (0, 0), (0, 0), (0, 0), (0, 0), (8, 0), (9, 0), (10, 0), (12, 0)] r_p 8) (bx_val [(0, 0), (0, 0), (0, 0), (0, 0), (0, 0), (0, 0), (0, 0), (0, 0), (8, 0), (9, 0), (10, 0), (12, 0)] r_p 9) (bx_val [(0, 0), (0, 0), (0, 0), (0, 0), (0, 0), (0, 0), (0, 0), (0, 0), (8, 0), (9, 0), (10, 0), (12, 0)] r_p 10) (bx_val [(0, 0), (0, 0), (0, 0), (0, 0), (0, 0), (0, 0), (0, 0), (0, 0), (8, 0), (9, 0), (10, 0), (12, 0)] r_p 11) < rxmRPC_20 S0 ws S_p (r 8) (r 9) (r 10) (r 11)
    rw [bx_val_x (n := 8) (e := (8, 0)) h0_ rfl, bx_val_x (n := 9) (e := (9, 0)) h0_ rfl, bx_val_x (n := 10) (e := (10, 0)) h0_ rfl, bx_val_x (n := 11) (e := (12, 0)) h0_ rfl, ← hr_ 8 (by decide), ← hr_ 9 (by decide), ← hr_ 10 (by decide), ← hr_ 11 (by decide)]
    exact g.2.2.2
theorem rxdRPC_20_0 {S0 : Nat → Int → Int} {ws : List Int} {S : Nat → Int → Int} {st cu hu ki : Int} (hP : rxPRPC S0 ws) (hin : bx_same rxL (bx_mdl rxCRPC.2.2.1) S0 S) (hin2 : bx_same rxL (bx_mdl rxCRPC.2.2.1) S S) (I0 : bx_Inv rxL S) (I1 : bx_Inv rxL S) (hinv : rxIRPC_20 S0 ws S st cu hu ki) (l8 : 0 ≤ st) (u8 : st ≤ 6) (l9 : 0 ≤ cu) (u9 : cu ≤ 6) (l10 : 1 ≤ hu) (u10 : hu ≤ 1) (l11 : 0 ≤ ki) (u11 : ki ≤ 4) (f0 : hu ≠ 0) : (True) ∧ rxPSRPC S0 ws S (some 1) := by
  have hA : rzAt (rzPH (rzCut (S0 411)) (S0 412 1) (rzWs S0) (S0 412 2) (S0 412 7)) S0 S (fun f lf r => rzAlt (decide (hu = 1)) (r = (true, f, lf)) (rzThen (rzEx (rzCut (S0 411)) (S0 412 1) (rzWs S0) 0 f lf) (rzPG (rzCut (S0 411)) (S0 412 1) (rzWs S0)) r)) := hinv
  exact ⟨trivial, rzAt_yes hA (rzAlt_y (decide_eq_true (by omega)) rfl)⟩
theorem rxfRPC_20_0 {X : (Nat → Int → Int) → Prop} {S0 : Nat → Int → Int} {ws : List Int} (hP : rxPRPC S0 ws) : bx_obE rxL X S0 rxCRPC.2.2.1 (rxIRPC S0 ws) (rxPSRPC S0 ws) 20 rxzRPC_20 rxeRPC_20_0 := by
  intro S S_p r r_p hinv hX hin hsm_ hseg
  obtain ⟨I0, I1, h0_, hr_, b_, f_, d_⟩ := bx_cl (evs := []) (fvs := [(3, (10, 0), (0, 0), (0, 0))]) hseg (by decide +kernel) (by decide +kernel)
  have hinv : rxIRPC_20 S0 ws S (r 8) (r 9) (r 10) (r 11) := hinv
  rw [← hr_ 8 (by decide), ← hr_ 9 (by decide), ← hr_ 10 (by decide), ← hr_ 11 (by decide)] at hinv
  obtain ⟨⟨l8, u8⟩, ⟨l9, u9⟩, ⟨l10, u10⟩, ⟨l11, u11⟩, -⟩ := b_
  obtain ⟨f0, -⟩ := f_
  have w_ := d_
  subst w_
  have g := rxdRPC_20_0 hP hin hsm_ I0 I1 hinv l8 u8 l9 u9 l10 u10 l11 u11 f0
  refine ⟨bx_narP_ok (l := []) g.1, ?_⟩
  show rxPSRPC S0 ws S_p (some (bx_num r_p (.inr (0, (0, 1)))))
  rw [bx_xv_ok h0_]
  exact g.2
theorem rxcRPC_22_0 {S0 : Nat → Int → Int} {ws : List Int} {S : Nat → Int → Int} {st cu hu sa res : Int} (hP : rxPRPC S0 ws) (hin : bx_same rxL (bx_mdl rxCRPC.2.2.1) S0 S) (I0 : bx_Inv rxL S) (hinv : rxIRPC_22 S0 ws S st cu hu sa res) (l8 : 0 ≤ st) (u8 : st ≤ 6) (l9 : 0 ≤ cu) (u9 : cu ≤ 6) (l10 : 0 ≤ hu) (u10 : hu ≤ 1) (l11 : 0 ≤ sa) (u11 : sa ≤ 1522) (l12 : 1 ≤ res) (u12 : res ≤ 1) (f0 : res ≠ 0) : (True) ∧ (True) ∧ rxIRPC_23 S0 ws S st cu hu ∧ rxmRPC_23 S0 ws S st cu hu < rxmRPC_22 S0 ws S st cu hu sa res := by
  rcases hinv with ⟨z, hA⟩ | ⟨z, hA⟩
  · exact ⟨trivial, trivial, hA, by unfold rxmRPC_22 rxmRPC_23; omega⟩
  · exfalso
    omega
theorem rxgRPC_22_0 {X : (Nat → Int → Int) → Prop} {S0 : Nat → Int → Int} {ws : List Int} (hP : rxPRPC S0 ws) : bx_obC rxL X S0 rxCRPC.2.2.1 (rxIRPC S0 ws) (rxmRPC S0 ws) 22 rxzRPC_22 rxoRPC_22_0 := by
  intro S S_p r r_p hinv hX hin hsm_ hseg
  obtain ⟨I0, I1, h0_, hr_, b_, f_, d_⟩ := bx_cl (evs := []) (fvs := [(3, (12, 0), (0, 0), (0, 0))]) hseg (by decide +kernel) (by decide +kernel)
  have hinv : rxIRPC_22 S0 ws S (r 8) (r 9) (r 10) (r 11) (r 12) := hinv
  rw [← hr_ 8 (by decide), ← hr_ 9 (by decide), ← hr_ 10 (by decide), ← hr_ 11 (by decide), ← hr_ 12 (by decide)] at hinv
  obtain ⟨⟨l8, u8⟩, ⟨l9, u9⟩, ⟨l10, u10⟩, ⟨l11, u11⟩, ⟨l12, u12⟩, -⟩ := b_
  obtain ⟨f0, -⟩ := f_
  have w_ := d_
  subst w_
  have g := rxcRPC_22_0 hP hin I0 hinv l8 u8 l9 u9 l10 u10 l11 u11 l12 u12 f0
  refine ⟨bx_narP_ok (l := []) g.1, bx_nfP_ok h0_ (fvs := []) (by decide +kernel) g.2.1, ?_, ?_⟩
  · show rxIRPC_23 S0 ws S_p (bx_val [(0, 0), (0, 0), (0, 0), (0, 0), (0, 0), (0, 0), (0, 0), (0, 0), (8, 0), (9, 0), (10, 0)] r_p 8) (bx_val [(0, 0), (0, 0), (0, 0), (0, 0), (0, 0), (0, 0), (0, 0), (0, 0), (8, 0), (9, 0), (10, 0)] r_p 9) (bx_val [(0, 0), (0, 0), (0, 0), (0, 0), (0, 0), (0, 0), (0, 0), (0, 0), (8, 0), (9, 0), (10, 0)] r_p 10)
    rw [bx_val_x (n := 8) (e := (8, 0)) h0_ rfl, bx_val_x (n := 9) (e := (9, 0)) h0_ rfl, bx_val_x (n := 10) (e := (10, 0)) h0_ rfl]
    exact g.2.2.1
  · show rxmRPC_23 S0 ws S_p (bx_val [(0, 0), (0, 0), (0, 0), (0, 0), (0, 0), (0, 0), (0, 0), (0, 0), (8, 0), (9, 0), (10, 0)] r_p 8) (bx_val [(0, 0), (0, 0), (0, 0), (0, 0), (0, 0), (0, 0), (0, 0), (0, 0), (8, 0), (9, 0), (10, 0)] r_p 9) (bx_val [(0, 0), (0, 0), (0, 0), (0, 0), (0, 0), (0, 0), (0, 0), (0, 0), (8, 0), (9, 0), (10, 0)] r_p 10) < rxmRPC_22 S0 ws S_p (r 8) (r 9) (r 10) (r 11) (r 12)
    rw [bx_val_x (n := 8) (e := (8, 0)) h0_ rfl, bx_val_x (n := 9) (e := (9, 0)) h0_ rfl, bx_val_x (n := 10) (e := (10, 0)) h0_ rfl, ← hr_ 8 (by decide), ← hr_ 9 (by decide), ← hr_ 10 (by decide), ← hr_ 11 (by decide), ← hr_ 12 (by decide)]
    exact g.2.2.2
theorem rxdRPC_22_0 {S0 : Nat → Int → Int} {ws : List Int} {S : Nat → Int → Int} {st cu hu sa res : Int} (hP : rxPRPC S0 ws) (hin : bx_same rxL (bx_mdl rxCRPC.2.2.1) S0 S) (hin2 : bx_same rxL (bx_mdl rxCRPC.2.2.1) S S) (I0 : bx_Inv rxL S) (I1 : bx_Inv rxL S) (hinv : rxIRPC_22 S0 ws S st cu hu sa res) (l8 : 0 ≤ st) (u8 : st ≤ 6) (l9 : 0 ≤ cu) (u9 : cu ≤ 6) (l10 : 0 ≤ hu) (u10 : hu ≤ 1) (l11 : 0 ≤ sa) (u11 : sa ≤ 1522) (l12 : 0 ≤ res) (u12 : res ≤ 0) : (True) ∧ rxPSRPC S0 ws S (some 0) := by
  rcases hinv with ⟨z, hA⟩ | ⟨z, hA⟩
  · exfalso
    omega
  · exact ⟨trivial, hA⟩
theorem rxfRPC_22_0 {X : (Nat → Int → Int) → Prop} {S0 : Nat → Int → Int} {ws : List Int} (hP : rxPRPC S0 ws) : bx_obE rxL X S0 rxCRPC.2.2.1 (rxIRPC S0 ws) (rxPSRPC S0 ws) 22 rxzRPC_22 rxeRPC_22_0 := by
  intro S S_p r r_p hinv hX hin hsm_ hseg
  obtain ⟨I0, I1, h0_, hr_, b_, f_, d_⟩ := bx_cl (evs := []) (fvs := []) hseg (by decide +kernel) (by decide +kernel)
  have hinv : rxIRPC_22 S0 ws S (r 8) (r 9) (r 10) (r 11) (r 12) := hinv
  rw [← hr_ 8 (by decide), ← hr_ 9 (by decide), ← hr_ 10 (by decide), ← hr_ 11 (by decide), ← hr_ 12 (by decide)] at hinv
  obtain ⟨⟨l8, u8⟩, ⟨l9, u9⟩, ⟨l10, u10⟩, ⟨l11, u11⟩, ⟨l12, u12⟩, -⟩ := b_
  have w_ := d_
  subst w_
  have g := rxdRPC_22_0 hP hin hsm_ I0 I1 hinv l8 u8 l9 u9 l10 u10 l11 u11 l12 u12
  refine ⟨bx_narP_ok (l := []) g.1, ?_⟩
  show rxPSRPC S0 ws S_p (some (bx_num r_p (.inr (0, (0, 0)))))
  rw [bx_xv_ok h0_]
  exact g.2
theorem rxcRPC_24_0 {S0 : Nat → Int → Int} {ws : List Int} {S : Nat → Int → Int} {st cu hu r : Int} (hP : rxPRPC S0 ws) (hin : bx_same rxL (bx_mdl rxCRPC.2.2.1) S0 S) (I0 : bx_Inv rxL S) (hinv : rxIRPC_24 S0 ws S st cu hu r) (l8 : 0 ≤ st) (u8 : st ≤ 6) (l9 : 0 ≤ cu) (u9 : cu ≤ 6) (l10 : 0 ≤ hu) (u10 : hu ≤ 1) (l11 : 1 ≤ r) (u11 : r ≤ 1) (f0 : r ≠ 0) : (True) ∧ (True) ∧ rxIRPC_25 S0 ws S st cu hu ∧ rxmRPC_25 S0 ws S st cu hu < rxmRPC_24 S0 ws S st cu hu r := by
  obtain ⟨hA, hr⟩ := hinv
  rw [hA.1.1, hA.1.2.1] at hr
  have b1 : rzIs (rzCut (S0 411)) (S0 412 1) rzW_go (S 412 2) = true := by
    cases hb : rzIs (rzCut (S0 411)) (S0 412 1) rzW_go (S 412 2) with
    | true => rfl
    | false =>
      rw [hb, if_neg (by decide)] at hr
      omega
  exact ⟨trivial, trivial, ⟨hA, b1⟩, by unfold rxmRPC_24 rxmRPC_25; omega⟩
theorem rxgRPC_24_0 {X : (Nat → Int → Int) → Prop} {S0 : Nat → Int → Int} {ws : List Int} (hP : rxPRPC S0 ws) : bx_obC rxL X S0 rxCRPC.2.2.1 (rxIRPC S0 ws) (rxmRPC S0 ws) 24 rxzRPC_24 rxoRPC_24_0 := by
  intro S S_p r r_p hinv hX hin hsm_ hseg
  obtain ⟨I0, I1, h0_, hr_, b_, f_, d_⟩ := bx_cl (evs := []) (fvs := [(3, (11, 0), (0, 0), (0, 0))]) hseg (by decide +kernel) (by decide +kernel)
  have hinv : rxIRPC_24 S0 ws S (r 8) (r 9) (r 10) (r 11) := hinv
  rw [← hr_ 8 (by decide), ← hr_ 9 (by decide), ← hr_ 10 (by decide), ← hr_ 11 (by decide)] at hinv
  obtain ⟨⟨l8, u8⟩, ⟨l9, u9⟩, ⟨l10, u10⟩, ⟨l11, u11⟩, -⟩ := b_
  obtain ⟨f0, -⟩ := f_
  have w_ := d_
  subst w_
  have g := rxcRPC_24_0 hP hin I0 hinv l8 u8 l9 u9 l10 u10 l11 u11 f0
  refine ⟨bx_narP_ok (l := []) g.1, bx_nfP_ok h0_ (fvs := []) (by decide +kernel) g.2.1, ?_, ?_⟩
  · show rxIRPC_25 S0 ws S_p (bx_val [(0, 0), (0, 0), (0, 0), (0, 0), (0, 0), (0, 0), (0, 0), (0, 0), (8, 0), (9, 0), (10, 0)] r_p 8) (bx_val [(0, 0), (0, 0), (0, 0), (0, 0), (0, 0), (0, 0), (0, 0), (0, 0), (8, 0), (9, 0), (10, 0)] r_p 9) (bx_val [(0, 0), (0, 0), (0, 0), (0, 0), (0, 0), (0, 0), (0, 0), (0, 0), (8, 0), (9, 0), (10, 0)] r_p 10)
    rw [bx_val_x (n := 8) (e := (8, 0)) h0_ rfl, bx_val_x (n := 9) (e := (9, 0)) h0_ rfl, bx_val_x (n := 10) (e := (10, 0)) h0_ rfl]
    exact g.2.2.1
  · show rxmRPC_25 S0 ws S_p (bx_val [(0, 0), (0, 0), (0, 0), (0, 0), (0, 0), (0, 0), (0, 0), (0, 0), (8, 0), (9, 0), (10, 0)] r_p 8) (bx_val [(0, 0), (0, 0), (0, 0), (0, 0), (0, 0), (0, 0), (0, 0), (0, 0), (8, 0), (9, 0), (10, 0)] r_p 9) (bx_val [(0, 0), (0, 0), (0, 0), (0, 0), (0, 0), (0, 0), (0, 0), (0, 0), (8, 0), (9, 0), (10, 0)] r_p 10) < rxmRPC_24 S0 ws S_p (r 8) (r 9) (r 10) (r 11)
    rw [bx_val_x (n := 8) (e := (8, 0)) h0_ rfl, bx_val_x (n := 9) (e := (9, 0)) h0_ rfl, bx_val_x (n := 10) (e := (10, 0)) h0_ rfl, ← hr_ 8 (by decide), ← hr_ 9 (by decide), ← hr_ 10 (by decide), ← hr_ 11 (by decide)]
    exact g.2.2.2
theorem rxdRPC_24_0 {S0 : Nat → Int → Int} {ws : List Int} {S : Nat → Int → Int} {st cu hu r : Int} (hP : rxPRPC S0 ws) (hin : bx_same rxL (bx_mdl rxCRPC.2.2.1) S0 S) (hin2 : bx_same rxL (bx_mdl rxCRPC.2.2.1) S S) (I0 : bx_Inv rxL S) (I1 : bx_Inv rxL S) (hinv : rxIRPC_24 S0 ws S st cu hu r) (l8 : 0 ≤ st) (u8 : st ≤ 6) (l9 : 0 ≤ cu) (u9 : cu ≤ 6) (l10 : 0 ≤ hu) (u10 : hu ≤ 1) (l11 : 0 ≤ r) (u11 : r ≤ 0) : (True) ∧ rxPSRPC S0 ws S (some 1) := by
  obtain ⟨hA, hr⟩ := hinv
  rw [hA.1.1, hA.1.2.1] at hr
  have b1 : rzIs (rzCut (S0 411)) (S0 412 1) rzW_go (S 412 2) = false := by
    cases hb : rzIs (rzCut (S0 411)) (S0 412 1) rzW_go (S 412 2) with
    | false => rfl
    | true =>
      rw [hb, if_pos rfl] at hr
      omega
  exact ⟨trivial, rzAt_yes hA (rzAlt_n b1 rfl)⟩
theorem rxfRPC_24_0 {X : (Nat → Int → Int) → Prop} {S0 : Nat → Int → Int} {ws : List Int} (hP : rxPRPC S0 ws) : bx_obE rxL X S0 rxCRPC.2.2.1 (rxIRPC S0 ws) (rxPSRPC S0 ws) 24 rxzRPC_24 rxeRPC_24_0 := by
  intro S S_p r r_p hinv hX hin hsm_ hseg
  obtain ⟨I0, I1, h0_, hr_, b_, f_, d_⟩ := bx_cl (evs := []) (fvs := []) hseg (by decide +kernel) (by decide +kernel)
  have hinv : rxIRPC_24 S0 ws S (r 8) (r 9) (r 10) (r 11) := hinv
  rw [← hr_ 8 (by decide), ← hr_ 9 (by decide), ← hr_ 10 (by decide), ← hr_ 11 (by decide)] at hinv
  obtain ⟨⟨l8, u8⟩, ⟨l9, u9⟩, ⟨l10, u10⟩, ⟨l11, u11⟩, -⟩ := b_
  have w_ := d_
  subst w_
  have g := rxdRPC_24_0 hP hin hsm_ I0 I1 hinv l8 u8 l9 u9 l10 u10 l11 u11
  refine ⟨bx_narP_ok (l := []) g.1, ?_⟩
  show rxPSRPC S0 ws S_p (some (bx_num r_p (.inr (0, (0, 1)))))
  rw [bx_xv_ok h0_]
  exact g.2
theorem rxcRPC_26_0 {S0 : Nat → Int → Int} {ws : List Int} {S : Nat → Int → Int} {st cu hu x11 : Int} (hP : rxPRPC S0 ws) (hin : bx_same rxL (bx_mdl rxCRPC.2.2.1) S0 S) (I0 : bx_Inv rxL S) (hinv : rxIRPC_26 S0 ws S st cu hu) (l8 : 0 ≤ st) (u8 : st ≤ 6) (l9 : 0 ≤ cu) (u9 : cu ≤ 6) (l10 : 0 ≤ hu) (u10 : hu ≤ 1) (l11 : 0 ≤ x11) (u11 : x11 ≤ 1522) (e0 : S 427 9 = x11) : (True) ∧ (True) ∧ rxIRPC_27 S0 ws S st cu hu x11 ∧ rxmRPC_27 S0 ws S st cu hu x11 < rxmRPC_26 S0 ws S st cu hu := by
  exact ⟨trivial, trivial, hinv, by unfold rxmRPC_26 rxmRPC_27; omega⟩
theorem rxgRPC_26_0 {X : (Nat → Int → Int) → Prop} {S0 : Nat → Int → Int} {ws : List Int} (hP : rxPRPC S0 ws) : bx_obC rxL X S0 rxCRPC.2.2.1 (rxIRPC S0 ws) (rxmRPC S0 ws) 26 rxzRPC_26 rxoRPC_26_0 := by
  intro S S_p r r_p hinv hX hin hsm_ hseg
  obtain ⟨I0, I1, h0_, hr_, b_, f_, d_⟩ := bx_cl (evs := [(0, (0, 427), (0, 9), .inr (3, (11, 0)))]) (fvs := []) hseg (by decide +kernel) (by decide +kernel)
  have hinv : rxIRPC_26 S0 ws S (r 8) (r 9) (r 10) := hinv
  rw [← hr_ 8 (by decide), ← hr_ 9 (by decide), ← hr_ 10 (by decide)] at hinv
  obtain ⟨⟨l8, u8⟩, ⟨l9, u9⟩, ⟨l10, u10⟩, ⟨l11, u11⟩, -⟩ := b_
  obtain ⟨e0, w_⟩ := d_
  subst w_
  have g := rxcRPC_26_0 hP hin I0 hinv l8 u8 l9 u9 l10 u10 l11 u11 e0
  refine ⟨bx_narP_ok (l := []) g.1, bx_nfP_ok h0_ (fvs := []) (by decide +kernel) g.2.1, ?_, ?_⟩
  · show rxIRPC_27 S0 ws S_p (bx_val [(0, 0), (0, 0), (0, 0), (0, 0), (0, 0), (0, 0), (0, 0), (0, 0), (8, 0), (9, 0), (10, 0), (11, 0)] r_p 8) (bx_val [(0, 0), (0, 0), (0, 0), (0, 0), (0, 0), (0, 0), (0, 0), (0, 0), (8, 0), (9, 0), (10, 0), (11, 0)] r_p 9) (bx_val [(0, 0), (0, 0), (0, 0), (0, 0), (0, 0), (0, 0), (0, 0), (0, 0), (8, 0), (9, 0), (10, 0), (11, 0)] r_p 10) (bx_val [(0, 0), (0, 0), (0, 0), (0, 0), (0, 0), (0, 0), (0, 0), (0, 0), (8, 0), (9, 0), (10, 0), (11, 0)] r_p 11)
    rw [bx_val_x (n := 8) (e := (8, 0)) h0_ rfl, bx_val_x (n := 9) (e := (9, 0)) h0_ rfl, bx_val_x (n := 10) (e := (10, 0)) h0_ rfl, bx_val_x (n := 11) (e := (11, 0)) h0_ rfl]
    exact g.2.2.1
  · show rxmRPC_27 S0 ws S_p (bx_val [(0, 0), (0, 0), (0, 0), (0, 0), (0, 0), (0, 0), (0, 0), (0, 0), (8, 0), (9, 0), (10, 0), (11, 0)] r_p 8) (bx_val [(0, 0), (0, 0), (0, 0), (0, 0), (0, 0), (0, 0), (0, 0), (0, 0), (8, 0), (9, 0), (10, 0), (11, 0)] r_p 9) (bx_val [(0, 0), (0, 0), (0, 0), (0, 0), (0, 0), (0, 0), (0, 0), (0, 0), (8, 0), (9, 0), (10, 0), (11, 0)] r_p 10) (bx_val [(0, 0), (0, 0), (0, 0), (0, 0), (0, 0), (0, 0), (0, 0), (0, 0), (8, 0), (9, 0), (10, 0), (11, 0)] r_p 11) < rxmRPC_26 S0 ws S_p (r 8) (r 9) (r 10)
    rw [bx_val_x (n := 8) (e := (8, 0)) h0_ rfl, bx_val_x (n := 9) (e := (9, 0)) h0_ rfl, bx_val_x (n := 10) (e := (10, 0)) h0_ rfl, bx_val_x (n := 11) (e := (11, 0)) h0_ rfl, ← hr_ 8 (by decide), ← hr_ 9 (by decide), ← hr_ 10 (by decide)]
    exact g.2.2.2
theorem rxdRPC_28_0 {S0 : Nat → Int → Int} {ws : List Int} {S : Nat → Int → Int} {st cu hu sa res : Int} (hP : rxPRPC S0 ws) (hin : bx_same rxL (bx_mdl rxCRPC.2.2.1) S0 S) (hin2 : bx_same rxL (bx_mdl rxCRPC.2.2.1) S S) (I0 : bx_Inv rxL S) (I1 : bx_Inv rxL S) (hinv : rxIRPC_28 S0 ws S st cu hu sa res) (l8 : 0 ≤ st) (u8 : st ≤ 6) (l9 : 0 ≤ cu) (u9 : cu ≤ 6) (l10 : 0 ≤ hu) (u10 : hu ≤ 1) (l11 : 0 ≤ sa) (u11 : sa ≤ 1522) (l12 : 0 ≤ res) (u12 : res ≤ 1) : (True) ∧ rxPSRPC S0 ws S (some res) := by
  have hx : rzOc (rzPH (rzCut (S0 411)) (S0 412 1) (rzWs S0) (S0 412 2) (S0 412 7)) S0 S (some res) := hinv
  exact ⟨trivial, hx⟩
theorem rxfRPC_28_0 {X : (Nat → Int → Int) → Prop} {S0 : Nat → Int → Int} {ws : List Int} (hP : rxPRPC S0 ws) : bx_obE rxL X S0 rxCRPC.2.2.1 (rxIRPC S0 ws) (rxPSRPC S0 ws) 28 rxzRPC_28 rxeRPC_28_0 := by
  intro S S_p r r_p hinv hX hin hsm_ hseg
  obtain ⟨I0, I1, h0_, hr_, b_, f_, d_⟩ := bx_cl (evs := []) (fvs := []) hseg (by decide +kernel) (by decide +kernel)
  have hinv : rxIRPC_28 S0 ws S (r 8) (r 9) (r 10) (r 11) (r 12) := hinv
  rw [← hr_ 8 (by decide), ← hr_ 9 (by decide), ← hr_ 10 (by decide), ← hr_ 11 (by decide), ← hr_ 12 (by decide)] at hinv
  obtain ⟨⟨l8, u8⟩, ⟨l9, u9⟩, ⟨l10, u10⟩, ⟨l11, u11⟩, ⟨l12, u12⟩, -⟩ := b_
  have w_ := d_
  subst w_
  have g := rxdRPC_28_0 hP hin hsm_ I0 I1 hinv l8 u8 l9 u9 l10 u10 l11 u11 l12 u12
  refine ⟨bx_narP_ok (l := []) g.1, ?_⟩
  show rxPSRPC S0 ws S_p (some (bx_num r_p (.inr (0, (12, 0)))))
  rw [bx_xv_ok h0_]
  exact g.2
theorem rxgCRPC {X : (Nat → Int → Int) → Prop} {S0 : Nat → Int → Int} {ws : List Int} (hP : rxPRPC S0 ws) : bx_allI (fun i q => rxURPC q = true ∨ bx_allP (fun o => bx_obC rxL X S0 rxCRPC.2.2.1 (rxIRPC S0 ws) (rxmRPC S0 ws) i q.1 o) q.2.1) 0 rxYRPC := ⟨Or.inr ⟨rxgRPC_0_0 hP, trivial⟩, Or.inl rfl, Or.inr ⟨rxgRPC_2_0 hP, trivial⟩, Or.inl rfl, Or.inr ⟨rxgRPC_4_0 hP, trivial⟩, Or.inl rfl, Or.inr ⟨rxgRPC_6_0 hP, trivial⟩, Or.inl rfl, Or.inr ⟨rxgRPC_8_0 hP, trivial⟩, Or.inl rfl, Or.inr ⟨rxgRPC_10_0 hP, trivial⟩, Or.inl rfl, Or.inr ⟨rxgRPC_12_0 hP, trivial⟩, Or.inl rfl, Or.inr ⟨rxgRPC_14_0 hP, rxgRPC_14_1 hP, trivial⟩, Or.inl rfl, Or.inr ⟨rxgRPC_16_0 hP, trivial⟩, Or.inl rfl, Or.inr ⟨rxgRPC_18_0 hP, rxgRPC_18_1 hP, trivial⟩, Or.inl rfl, Or.inr ⟨rxgRPC_20_0 hP, trivial⟩, Or.inl rfl, Or.inr ⟨rxgRPC_22_0 hP, trivial⟩, Or.inl rfl, Or.inr ⟨rxgRPC_24_0 hP, trivial⟩, Or.inl rfl, Or.inr ⟨rxgRPC_26_0 hP, trivial⟩, Or.inl rfl, Or.inr trivial, trivial⟩
theorem rxgERPC {X : (Nat → Int → Int) → Prop} {S0 : Nat → Int → Int} {ws : List Int} (hP : rxPRPC S0 ws) : bx_allI (fun i q => rxURPC q = true ∨ bx_allP (fun E => bx_obE rxL X S0 rxCRPC.2.2.1 (rxIRPC S0 ws) (rxPSRPC S0 ws) i q.1 E) q.2.2) 0 rxYRPC := ⟨Or.inr trivial, Or.inl rfl, Or.inr ⟨rxfRPC_2_0 hP, trivial⟩, Or.inl rfl, Or.inr ⟨rxfRPC_4_0 hP, trivial⟩, Or.inl rfl, Or.inr trivial, Or.inl rfl, Or.inr ⟨rxfRPC_8_0 hP, trivial⟩, Or.inl rfl, Or.inr ⟨rxfRPC_10_0 hP, trivial⟩, Or.inl rfl, Or.inr trivial, Or.inl rfl, Or.inr trivial, Or.inl rfl, Or.inr ⟨rxfRPC_16_0 hP, trivial⟩, Or.inl rfl, Or.inr trivial, Or.inl rfl, Or.inr ⟨rxfRPC_20_0 hP, trivial⟩, Or.inl rfl, Or.inr ⟨rxfRPC_22_0 hP, trivial⟩, Or.inl rfl, Or.inr ⟨rxfRPC_24_0 hP, trivial⟩, Or.inl rfl, Or.inr trivial, Or.inl rfl, Or.inr ⟨rxfRPC_28_0 hP, trivial⟩, trivial⟩
theorem rxuRPC {PX : State → Prop} {Dg : va_G} {A : Nat → Prop} {ad xa : Nat → Nat} {l : Launch} {X : (Nat → Int → Int) → Prop} (hPX : rx_PXOK rxNW A PX) (hX : ∀ S S1 : Nat → Int → Int, X S → bx_same rxL (bx_mdl rxCRPC.2.2.1) S S1 → X S1) (hQTKW : bx_ConP rxG rxNW rxAO PX Dg rxL X vwCl A ad l rxM90 rxC90 rxPTKW rxPSTKW) (hQPLH : bx_ConP rxG rxNW rxAO PX Dg rxL X vwCl A ad l rxM91 rxC91 rxPPLH rxPSPLH) (hQAD : bx_ConP rxG rxNW rxAO PX Dg rxL X vwCl A ad l rxM84 rxC84 rxPAD rxPSAD) (hQIWX : bx_ConP rxG rxNW rxAO PX Dg rxL X vwCl A ad l rxM59 rxC59 rxPIWX rxPSIWX) (hQOCD : bx_ConP rxG rxNW rxAO PX Dg rxL X vwCl A ad l rxM60 rxCOCD rxPOCD rxPSOCD) (hQRED : bx_ConP rxG rxNW rxAO PX Dg rxL X vwCl A ad l rxM61 rxCRED rxPRED rxPSRED) {S0 : Nat → Int → Int} {ws : List Int} (hP : rxPRPC S0 ws) : ∀ (i : Nat) (q : bx_HE), rxYRPC[i]? = some q → rxURPC q = true → ∀ {p : Program} {e : Env} {R : Room} {s : State} {m : MethodId} {args : Array Value} {below : List Frame} {meth : Method} {c : Code} {Q : State → Prop} {H0 : Heap}, rx_Fr rxG rxNW rxAO PX p s m args meth c rxM85 → (∀ q, H0.size ≤ q → A q) → H0 = s.heap → rxM85.2.2.2.2.2.2.1 ≤ R.cells → rxM85.2.2.2.2.2.2.2 ≤ R.slots → rxCRPC.2.2.2.1 ≤ R.frames → rxCRPC.2.2.2.1 * 40 ≤ R.locals → bx_Step p l e R s m args below meth c Q Dg rxL X vwCl A xa H0 ad rxM85 rxYRPC (rxIRPC S0 ws) (rxmRPC S0 ws) S0 rxCRPC.2.2.1 i q := by
  intro i q hq hus p e R s m args below meth c Q H0 hF hA hH0 hmc hms hd hdl
  match i, hq with
  | 0, hq =>
    cases hq
    exact absurd (show false = true from hus) Bool.false_ne_true
  | 1, hq =>
    cases hq
    exact rx_stepC (ins := .invokevirtual 88) (len := 3) (i_p := 2) (M_p := rxM90) (d := rxCRPC.2.2.2.1) (as := [.inr (3, (0, 412)), .inr (3, (0, 533))]) (t := []) (ct := rxC90) hPX hF rfl hA hH0 hmc hms hd hdl (by decide +kernel) rfl rfl (by decide +kernel) (by decide +kernel) hQTKW (by decide +kernel) rfl (Or.inr ⟨_, _, _, 1, rfl, rfl, by omega, rfl, rfl, rfl⟩) (rxsRPC_1 hP)
  | 2, hq =>
    cases hq
    exact absurd (show false = true from hus) Bool.false_ne_true
  | 3, hq =>
    cases hq
    exact rx_stepC (ins := .invokevirtual 92) (len := 3) (i_p := 4) (M_p := rxM91) (d := rxCRPC.2.2.2.1) (as := [.inr (3, (0, 412))]) (t := []) (ct := rxC91) hPX hF rfl hA hH0 hmc hms hd hdl (by decide +kernel) rfl rfl (by decide +kernel) (by decide +kernel) hQPLH (by decide +kernel) rfl (Or.inr ⟨_, _, _, 1, rfl, rfl, by omega, rfl, rfl, rfl⟩) (rxsRPC_3 hP)
  | 4, hq =>
    cases hq
    exact absurd (show false = true from hus) Bool.false_ne_true
  | 5, hq =>
    cases hq
    exact rx_stepC (ins := .invokevirtual 66) (len := 3) (i_p := 6) (M_p := rxM84) (d := rxCRPC.2.2.2.1) (as := [.inr (3, (0, 412))]) (t := []) (ct := rxC84) hPX hF rfl hA hH0 hmc hms hd hdl (by decide +kernel) rfl rfl (by decide +kernel) (by decide +kernel) hQAD (by decide +kernel) rfl (Or.inl ⟨rfl, rfl, rfl⟩) (rxsRPC_5 hP)
  | 6, hq =>
    cases hq
    exact absurd (show false = true from hus) Bool.false_ne_true
  | 7, hq =>
    cases hq
    exact rx_stepC (ins := .invokevirtual 88) (len := 3) (i_p := 8) (M_p := rxM90) (d := rxCRPC.2.2.2.1) (as := [.inr (3, (0, 412)), .inr (3, (0, 524))]) (t := []) (ct := rxC90) hPX hF rfl hA hH0 hmc hms hd hdl (by decide +kernel) rfl rfl (by decide +kernel) (by decide +kernel) hQTKW (by decide +kernel) rfl (Or.inr ⟨_, _, _, 1, rfl, rfl, by omega, rfl, rfl, rfl⟩) (rxsRPC_7 hP)
  | 8, hq =>
    cases hq
    exact absurd (show false = true from hus) Bool.false_ne_true
  | 9, hq =>
    cases hq
    exact rx_stepC (ins := .invokevirtual 92) (len := 3) (i_p := 10) (M_p := rxM91) (d := rxCRPC.2.2.2.1) (as := [.inr (3, (0, 412))]) (t := []) (ct := rxC91) hPX hF rfl hA hH0 hmc hms hd hdl (by decide +kernel) rfl rfl (by decide +kernel) (by decide +kernel) hQPLH (by decide +kernel) rfl (Or.inr ⟨_, _, _, 1, rfl, rfl, by omega, rfl, rfl, rfl⟩) (rxsRPC_9 hP)
  | 10, hq =>
    cases hq
    exact absurd (show false = true from hus) Bool.false_ne_true
  | 11, hq =>
    cases hq
    exact rx_stepC (ins := .invokevirtual 66) (len := 3) (i_p := 12) (M_p := rxM84) (d := rxCRPC.2.2.2.1) (as := [.inr (3, (0, 412))]) (t := []) (ct := rxC84) hPX hF rfl hA hH0 hmc hms hd hdl (by decide +kernel) rfl rfl (by decide +kernel) (by decide +kernel) hQAD (by decide +kernel) rfl (Or.inl ⟨rfl, rfl, rfl⟩) (rxsRPC_11 hP)
  | 12, hq =>
    cases hq
    exact absurd (show false = true from hus) Bool.false_ne_true
  | 13, hq =>
    cases hq
    exact rx_stepC (ins := .invokevirtual 100) (len := 3) (i_p := 14) (M_p := rxM59) (d := rxCRPC.2.2.2.1) (as := [.inr (3, (0, 412)), .inr (3, (0, 531))]) (t := []) (ct := rxC59) hPX hF rfl hA hH0 hmc hms hd hdl (by decide +kernel) rfl rfl (by decide +kernel) (by decide +kernel) hQIWX (by decide +kernel) rfl (Or.inr ⟨_, _, _, 1, rfl, rfl, by omega, rfl, rfl, rfl⟩) (rxsRPC_13 hP)
  | 14, hq =>
    cases hq
    exact absurd (show false = true from hus) Bool.false_ne_true
  | 15, hq =>
    cases hq
    exact rx_stepC (ins := .invokevirtual 100) (len := 3) (i_p := 16) (M_p := rxM59) (d := rxCRPC.2.2.2.1) (as := [.inr (3, (0, 412)), .inr (3, (0, 541))]) (t := []) (ct := rxC59) hPX hF rfl hA hH0 hmc hms hd hdl (by decide +kernel) rfl rfl (by decide +kernel) (by decide +kernel) hQIWX (by decide +kernel) rfl (Or.inr ⟨_, _, _, 1, rfl, rfl, by omega, rfl, rfl, rfl⟩) (rxsRPC_15 hP)
  | 16, hq =>
    cases hq
    exact absurd (show false = true from hus) Bool.false_ne_true
  | 17, hq =>
    cases hq
    exact rx_stepC (ins := .invokevirtual 66) (len := 3) (i_p := 18) (M_p := rxM84) (d := rxCRPC.2.2.2.1) (as := [.inr (3, (0, 412))]) (t := []) (ct := rxC84) hPX hF rfl hA hH0 hmc hms hd hdl (by decide +kernel) rfl rfl (by decide +kernel) (by decide +kernel) hQAD (by decide +kernel) rfl (Or.inl ⟨rfl, rfl, rfl⟩) (rxsRPC_17 hP)
  | 18, hq =>
    cases hq
    exact absurd (show false = true from hus) Bool.false_ne_true
  | 19, hq =>
    cases hq
    exact rx_stepC (ins := .invokevirtual 105) (len := 3) (i_p := 20) (M_p := rxM60) (d := rxCRPC.2.2.2.1) (as := [.inr (3, (0, 427)), .inr (0, (11, 0)), .inr (0, (8, 0)), .inr (0, (9, 0))]) (t := []) (ct := rxCOCD) hPX hF rfl hA hH0 hmc hms hd hdl (by decide +kernel) rfl rfl (by decide +kernel) (by decide +kernel) hQOCD (by decide +kernel) rfl (Or.inl ⟨rfl, rfl, rfl⟩) (rxsRPC_19 hP)
  | 20, hq =>
    cases hq
    exact absurd (show false = true from hus) Bool.false_ne_true
  | 21, hq =>
    cases hq
    exact rx_stepC (ins := .invokevirtual 112) (len := 3) (i_p := 22) (M_p := rxM61) (d := rxCRPC.2.2.2.1) (as := [.inr (3, (0, 412)), .inr (3, (11, 0)), .inr (0, (0, 0))]) (t := []) (ct := rxCRED) hPX hF rfl hA hH0 hmc hms hd hdl (by decide +kernel) rfl rfl (by decide +kernel) (by decide +kernel) hQRED (by decide +kernel) rfl (Or.inr ⟨_, _, _, 1, rfl, rfl, by omega, rfl, rfl, rfl⟩) (rxsRPC_21 hP)
  | 22, hq =>
    cases hq
    exact absurd (show false = true from hus) Bool.false_ne_true
  | 23, hq =>
    cases hq
    exact rx_stepC (ins := .invokevirtual 100) (len := 3) (i_p := 24) (M_p := rxM59) (d := rxCRPC.2.2.2.1) (as := [.inr (3, (0, 412)), .inr (3, (0, 529))]) (t := []) (ct := rxC59) hPX hF rfl hA hH0 hmc hms hd hdl (by decide +kernel) rfl rfl (by decide +kernel) (by decide +kernel) hQIWX (by decide +kernel) rfl (Or.inr ⟨_, _, _, 1, rfl, rfl, by omega, rfl, rfl, rfl⟩) (rxsRPC_23 hP)
  | 24, hq =>
    cases hq
    exact absurd (show false = true from hus) Bool.false_ne_true
  | 25, hq =>
    cases hq
    exact rx_stepC (ins := .invokevirtual 66) (len := 3) (i_p := 26) (M_p := rxM84) (d := rxCRPC.2.2.2.1) (as := [.inr (3, (0, 412))]) (t := []) (ct := rxC84) hPX hF rfl hA hH0 hmc hms hd hdl (by decide +kernel) rfl rfl (by decide +kernel) (by decide +kernel) hQAD (by decide +kernel) rfl (Or.inl ⟨rfl, rfl, rfl⟩) (rxsRPC_25 hP)
  | 26, hq =>
    cases hq
    exact absurd (show false = true from hus) Bool.false_ne_true
  | 27, hq =>
    cases hq
    exact rx_stepC (ins := .invokevirtual 112) (len := 3) (i_p := 28) (M_p := rxM61) (d := rxCRPC.2.2.2.1) (as := [.inr (3, (0, 412)), .inr (3, (11, 0)), .inr (0, (0, 0))]) (t := []) (ct := rxCRED) hPX hF rfl hA hH0 hmc hms hd hdl (by decide +kernel) rfl rfl (by decide +kernel) (by decide +kernel) hQRED (by decide +kernel) rfl (Or.inr ⟨_, _, _, 1, rfl, rfl, by omega, rfl, rfl, rfl⟩) (rxsRPC_27 hP)
  | 28, hq =>
    cases hq
    exact absurd (show false = true from hus) Bool.false_ne_true
  | n + 29, hq => cases hq
theorem rxQRPC {PX : State → Prop} {Dg : va_G} {A : Nat → Prop} {ad xa : Nat → Nat} {l : Launch} {X : (Nat → Int → Int) → Prop} (hPX : rx_PXOK rxNW A PX) (hsl : ∀ s : State, PX s → ∀ o idx n : Nat, rxSl o idx = some n → ∃ tx : String, vk_R (rxNm o) idx tx (ad n) s)
    (hX : ∀ S S_p : Nat → Int → Int, X S → bx_same rxL (bx_mdl rxCRPC.2.2.1) S S_p → X S_p)
    (ih : ∀ (j2 : Nat) (ct2 : bx_Ct) (M2 : rx_Mt), ct2 ∈ rxCnE j2 → ct2.2.2.2.1 + 1 ≤ rxCRPC.2.2.2.1 → rxT.2.2.2.2.2 j2 = some M2 → bx_Con rxG rxNW rxAO PX Dg rxL X vwCl A ad l M2 ct2) (hQTKW : bx_ConP rxG rxNW rxAO PX Dg rxL X vwCl A ad l rxM90 rxC90 rxPTKW rxPSTKW) (hQPLH : bx_ConP rxG rxNW rxAO PX Dg rxL X vwCl A ad l rxM91 rxC91 rxPPLH rxPSPLH) (hQAD : bx_ConP rxG rxNW rxAO PX Dg rxL X vwCl A ad l rxM84 rxC84 rxPAD rxPSAD) (hQIWX : bx_ConP rxG rxNW rxAO PX Dg rxL X vwCl A ad l rxM59 rxC59 rxPIWX rxPSIWX) (hQOCD : bx_ConP rxG rxNW rxAO PX Dg rxL X vwCl A ad l rxM60 rxCOCD rxPOCD rxPSOCD) (hQRED : bx_ConP rxG rxNW rxAO PX Dg rxL X vwCl A ad l rxM61 rxCRED rxPRED rxPSRED) : bx_ConP rxG rxNW rxAO PX Dg rxL X vwCl A ad l rxM85 rxCRPC rxPRPC rxPSRPC :=
  rxQof (xa := xa) (Cn := rxCnE) (f := 30000) (j := 85) (tab := rxYRPC) (us := rxURPC) hPX hsl hX ih rfl rxYcRPC rxIRPC rxmRPC
    (fun S0 ws r I0 I ht0 ht as he he1 hX0 hI0 hP hs ha => by
      have e := he.symm.trans (show bx_ent0 rxNP rxCRPC.1 bx_I0 [] = some ([(0, 0), (0, 0), (0, 0), (0, 0), (0, 0), (0, 0), (0, 0), (0, 0)], [], [.inr (3, (0, 412))]) from rfl)
      cases e
      subst ha
      have h0 : r 0 = 0 := hs.1
      show rxIRPC_0 S0 _ S0
      refine ⟨rfl, ?_⟩
      simp only [List.map_cons, List.map_nil, bx_xv_ok h0]
      rfl)
    (fun S0 ws hP => rxuRPC (xa := xa) hPX hX hQTKW hQPLH hQAD hQIWX hQOCD hQRED hP) (fun S0 ws hP => rxgCRPC hP) (fun S0 ws hP => rxgERPC hP)

def rzCl (play : Bool) (T : Int → Int) (n : Int) : Int → Int → rzR → Prop := if play = true then rzPC T n else rzLC T n
def rzNx (play : Bool) (T : Int → Int) (n : Int) (c : Nat) (g lg : Int) (r : rzR) : Prop := rzAlt (rzSg T n 59 g) (rzTx (rzCl play T n) T n c (rzN T n g) lg r) (rzAlt (decide (n ≤ g)) (r = (true, g, lg)) (r = (false, g, lg)))
theorem rzThen_assoc {a : rzR → Prop} {b c : Int → Int → rzR → Prop} {r : rzR} (h : rzThen a (fun f lf => rzThen (b f lf) c) r) : rzThen (rzThen a b) c r := by
  obtain ⟨r1, h1, h2⟩ := h
  rcases h2 with ⟨q, e⟩ | ⟨q, r2, h3, h4⟩
  · exact ⟨r1, ⟨r1, h1, Or.inl ⟨q, rfl⟩⟩, Or.inl ⟨q, e⟩⟩
  · exact ⟨r2, ⟨r1, h1, Or.inr ⟨q, h3⟩⟩, h4⟩
theorem rzThen_map {a a' : rzR → Prop} {b : Int → Int → rzR → Prop} {r : rzR} (k : ∀ r : rzR, a r → a' r) (h : rzThen a b r) : rzThen a' b r := by
  obtain ⟨r1, h1, h2⟩ := h
  exact ⟨r1, k _ h1, h2⟩
/-- what a text's reader sees: the text, its length, the language -/
def rzRd (S0 S : Nat → Int → Int) (nb ap : Int) : Prop := rzCut (S 411) = rzCut (S0 411) ∧ S 412 1 = nb ∧ S 412 5 = ap ∧ S 412 4 = -1
def rzRi (S0 S : Nat → Int → Int) (nb ap : Int) (C : Int → Int → rzR → Prop) : Prop := ∃ S1 : Nat → Int → Int, rzRd S0 S1 nb ap ∧ rzAt (rzText (decide (ap = 1)) (rzCut (S0 411)) nb) S1 S C
def rzRo (S0 S : Nat → Int → Int) (nb ap : Int) (w : Option Int) : Prop := ∃ r : rzR, rzText (decide (ap = 1)) (rzCut (S0 411)) nb r ∧ ((w = some 1 ∧ r.1 = true ∧ S 412 4 = -1) ∨ (w = some 0 ∧ r.1 = false ∧ S 412 4 = r.2.1))
theorem rzRi_ok {S0 S1 S : Nat → Int → Int} {nb ap : Int} {w : Option Int} (h : rzRd S0 S1 nb ap) (q : rzOc (rzText (decide (ap = 1)) (rzCut (S0 411)) nb) S1 S w) : rzRo S0 S nb ap w := by
  obtain ⟨r, q1, q2⟩ := q
  refine ⟨r, q1, ?_⟩
  rcases q2 with ⟨a1, a2, a3, a4⟩ | q3
  · exact Or.inl ⟨a1, a2, a3.2.2.2.trans h.2.2.2⟩
  · exact Or.inr q3
/-! CONTRACT BY HAND, by program (wip/sim/genhand.py): DeadUnderstudies$Reader.read -/
def rxCRDX : bx_Ct := ([(3, (1, 412, 0)), (3, (1, 411, 0)), (0, (0, 0, 400)), (0, (0, 0, 1)), (3, (1, 427, 0))], some (0, (0, 0, 1)), [(6, 0), (6, 4), (7, 0), (7, 1), (7, 2), (7, 3), (7, 4), (7, 5), (7, 6), (7, 7), (7, 8), (7, 10), (1021, 0), (1022, 0), (1024, 0), (1025, 0), (1026, 0), (1027, 0), (1034, 0), (1035, 0), (1036, 0)], 9, [])
def rxIRDX_0 (S0 : Nat → Int → Int) (ws : List Int) (S : Nat → Int → Int) (nb ap : Int) : Prop := S = S0 ∧ ws = [412, 411, nb, ap, 427]
def rxmRDX_0 (S0 : Nat → Int → Int) (ws : List Int) (S : Nat → Int → Int) (nb ap : Int) : Nat := 10000
def rxzRDX_0 : rx_Z := ([(0, 0), (0, 0), (0, 0), (0, 0), (0, 0), (0, 0), (0, 0), (0, 0), (0, 400), (0, 1)], [], [], 0, 0, 0, [(0, .inr (3, (0, 412))), (1, .inr (3, (0, 411))), (2, .inr (0, (8, 0))), (3, .inr (0, (9, 0))), (4, .inr (3, (0, 427)))], [])
def rxIRDX_1 (S0 : Nat → Int → Int) (ws : List Int) (S : Nat → Int → Int) (nb ap : Int) : Prop := ws = [412, 411, nb, ap, 427] ∧ rzRd S0 S nb ap ∧ S 412 3 = 0 ∧ S 412 7 = 0
def rxmRDX_1 (S0 : Nat → Int → Int) (ws : List Int) (S : Nat → Int → Int) (nb ap : Int) : Nat := 9000
def rxzRDX_1 : rx_Z := ([(0, 0), (0, 0), (0, 0), (0, 0), (0, 0), (0, 0), (0, 0), (0, 0), (0, 400), (0, 1)], [], [(((0, 412), 0), .inr (3, (0, 411))), (((0, 412), 6), .inr (3, (0, 427)))], 0, 0, 52, [(0, .inr (3, (0, 412))), (2, .inr (0, (8, 0))), (3, .inr (0, (9, 0)))], [.inr (3, (0, 412))])
def rxIRDX_2 (S0 : Nat → Int → Int) (ws : List Int) (S : Nat → Int → Int) (nb ap : Int) : Prop := ws = [412, 411, nb, ap, 427] ∧ rzRi S0 S nb ap (rzTx (rzCl (decide (ap = 1)) (rzCut (S0 411)) nb) (rzCut (S0 411)) nb 12)
def rxmRDX_2 (S0 : Nat → Int → Int) (ws : List Int) (S : Nat → Int → Int) (nb ap : Int) : Nat := 8000
def rxzRDX_2 : rx_Z := ([(0, 0), (0, 0), (0, 0), (0, 0), (0, 0), (0, 0), (0, 0), (0, 0), (0, 400), (0, 1)], [], [(((0, 412), 0), .inr (3, (0, 411))), (((0, 412), 6), .inr (3, (0, 427)))], 0, 0, 55, [(0, .inr (3, (0, 412))), (2, .inr (0, (8, 0))), (3, .inr (0, (9, 0)))], [])
def rxIRDX_3 (S0 : Nat → Int → Int) (ws : List Int) (S : Nat → Int → Int) (nb ap cl : Int) : Prop := ws = [412, 411, nb, ap, 427] ∧ rzRi S0 S nb ap (rzTx (rzCl (decide (ap = 1)) (rzCut (S0 411)) nb) (rzCut (S0 411)) nb (12 - cl).toNat)
def rxmRDX_3 (S0 : Nat → Int → Int) (ws : List Int) (S : Nat → Int → Int) (nb ap cl : Int) : Nat := (20 - cl).toNat * 100 + 90
def rxzRDX_3 : rx_Z := ([(0, 0), (0, 0), (0, 0), (0, 0), (0, 0), (0, 0), (0, 0), (0, 0), (0, 400), (0, 1), (0, 12)], [], [(((0, 412), 0), .inr (3, (0, 411))), (((0, 412), 6), .inr (3, (0, 427)))], 0, 0, 58, [(0, .inr (3, (0, 412))), (2, .inr (0, (8, 0))), (3, .inr (0, (9, 0))), (5, .inr (0, (10, 0)))], [])
def rxIRDX_4 (S0 : Nat → Int → Int) (ws : List Int) (S : Nat → Int → Int) (nb ap cl : Int) : Prop := ap = 1 ∧ ws = [412, 411, nb, ap, 427] ∧ rzRi S0 S nb ap (rzTx (rzCl (decide (ap = 1)) (rzCut (S0 411)) nb) (rzCut (S0 411)) nb (12 - cl).toNat)
def rxmRDX_4 (S0 : Nat → Int → Int) (ws : List Int) (S : Nat → Int → Int) (nb ap cl : Int) : Nat := (20 - cl).toNat * 100 + 80
def rxzRDX_4 : rx_Z := ([(0, 0), (0, 0), (0, 0), (0, 0), (0, 0), (0, 0), (0, 0), (0, 0), (0, 400), (0, 1), (0, 11)], [], [(((0, 412), 0), .inr (3, (0, 411))), (((0, 412), 6), .inr (3, (0, 427)))], 0, 0, 73, [(0, .inr (3, (0, 412))), (2, .inr (0, (8, 0))), (3, .inr (0, (9, 0))), (5, .inr (0, (10, 0)))], [.inr (3, (0, 412))])
def rxIRDX_5 (S0 : Nat → Int → Int) (ws : List Int) (S : Nat → Int → Int) (nb ap cl res : Int) : Prop := ws = [412, 411, nb, ap, 427] ∧ ((res = 1 ∧ rzRi S0 S nb ap (fun f lf => rzThen (rzIf (rzCut (S0 411)) nb (if ap = 1 then rzPn else rzLn_) f lf) (rzNx (decide (ap = 1)) (rzCut (S0 411)) nb (11 - cl).toNat))) ∨ (res = 0 ∧ rzRo S0 S nb ap (some 0)))
def rxmRDX_5 (S0 : Nat → Int → Int) (ws : List Int) (S : Nat → Int → Int) (nb ap cl res : Int) : Nat := (20 - cl).toNat * 100 + 75
def rxzRDX_5 : rx_Z := ([(0, 0), (0, 0), (0, 0), (0, 0), (0, 0), (0, 0), (0, 0), (0, 0), (0, 400), (0, 1), (0, 11), (0, 1)], [], [(((0, 412), 0), .inr (3, (0, 411))), (((0, 412), 6), .inr (3, (0, 427)))], 0, 0, 76, [(0, .inr (3, (0, 412))), (2, .inr (0, (8, 0))), (3, .inr (0, (9, 0))), (5, .inr (0, (10, 0)))], [.inr (0, (11, 0))])
def rxIRDX_6 (S0 : Nat → Int → Int) (ws : List Int) (S : Nat → Int → Int) (nb ap cl : Int) : Prop := ap = 0 ∧ ws = [412, 411, nb, ap, 427] ∧ rzRi S0 S nb ap (rzTx (rzCl (decide (ap = 1)) (rzCut (S0 411)) nb) (rzCut (S0 411)) nb (12 - cl).toNat)
def rxmRDX_6 (S0 : Nat → Int → Int) (ws : List Int) (S : Nat → Int → Int) (nb ap cl : Int) : Nat := (20 - cl).toNat * 100 + 80
def rxzRDX_6 : rx_Z := ([(0, 0), (0, 0), (0, 0), (0, 0), (0, 0), (0, 0), (0, 0), (0, 0), (0, 400), (0, 1), (0, 11)], [], [(((0, 412), 0), .inr (3, (0, 411))), (((0, 412), 6), .inr (3, (0, 427)))], 0, 0, 80, [(0, .inr (3, (0, 412))), (2, .inr (0, (8, 0))), (3, .inr (0, (9, 0))), (5, .inr (0, (10, 0)))], [.inr (3, (0, 412))])
def rxIRDX_7 (S0 : Nat → Int → Int) (ws : List Int) (S : Nat → Int → Int) (nb ap cl res : Int) : Prop := ws = [412, 411, nb, ap, 427] ∧ ((res = 1 ∧ rzRi S0 S nb ap (fun f lf => rzThen (rzIf (rzCut (S0 411)) nb (if ap = 1 then rzPn else rzLn_) f lf) (rzNx (decide (ap = 1)) (rzCut (S0 411)) nb (11 - cl).toNat))) ∨ (res = 0 ∧ rzRo S0 S nb ap (some 0)))
def rxmRDX_7 (S0 : Nat → Int → Int) (ws : List Int) (S : Nat → Int → Int) (nb ap cl res : Int) : Nat := (20 - cl).toNat * 100 + 75
def rxzRDX_7 : rx_Z := ([(0, 0), (0, 0), (0, 0), (0, 0), (0, 0), (0, 0), (0, 0), (0, 0), (0, 400), (0, 1), (0, 11), (0, 1)], [], [(((0, 412), 0), .inr (3, (0, 411))), (((0, 412), 6), .inr (3, (0, 427)))], 0, 0, 83, [(0, .inr (3, (0, 412))), (2, .inr (0, (8, 0))), (3, .inr (0, (9, 0))), (5, .inr (0, (10, 0)))], [.inr (0, (11, 0))])
def rxIRDX_8 (S0 : Nat → Int → Int) (ws : List Int) (S : Nat → Int → Int) (nb ap cl : Int) : Prop := ws = [412, 411, nb, ap, 427] ∧ rzRi S0 S nb ap (fun f lf => rzThen (rzIf (rzCut (S0 411)) nb (if ap = 1 then rzPn else rzLn_) f lf) (rzNx (decide (ap = 1)) (rzCut (S0 411)) nb (11 - cl).toNat))
def rxmRDX_8 (S0 : Nat → Int → Int) (ws : List Int) (S : Nat → Int → Int) (nb ap cl : Int) : Nat := (20 - cl).toNat * 100 + 70
def rxzRDX_8 : rx_Z := ([(0, 0), (0, 0), (0, 0), (0, 0), (0, 0), (0, 0), (0, 0), (0, 0), (0, 400), (0, 1), (0, 11)], [], [(((0, 412), 0), .inr (3, (0, 411))), (((0, 412), 6), .inr (3, (0, 427)))], 0, 0, 91, [(0, .inr (3, (0, 412))), (2, .inr (0, (8, 0))), (3, .inr (0, (9, 0))), (5, .inr (0, (10, 0)))], [.inr (3, (0, 412))])
def rxIRDX_9 (S0 : Nat → Int → Int) (ws : List Int) (S : Nat → Int → Int) (nb ap cl res : Int) : Prop := ws = [412, 411, nb, ap, 427] ∧ ((res = 1 ∧ rzRi S0 S nb ap (rzNx (decide (ap = 1)) (rzCut (S0 411)) nb (11 - cl).toNat)) ∨ (res = 0 ∧ rzRo S0 S nb ap (some 0)))
def rxmRDX_9 (S0 : Nat → Int → Int) (ws : List Int) (S : Nat → Int → Int) (nb ap cl res : Int) : Nat := (20 - cl).toNat * 100 + 65
def rxzRDX_9 : rx_Z := ([(0, 0), (0, 0), (0, 0), (0, 0), (0, 0), (0, 0), (0, 0), (0, 0), (0, 400), (0, 1), (0, 11), (0, 1)], [], [(((0, 412), 0), .inr (3, (0, 411))), (((0, 412), 6), .inr (3, (0, 427)))], 0, 0, 94, [(0, .inr (3, (0, 412))), (2, .inr (0, (8, 0))), (3, .inr (0, (9, 0))), (5, .inr (0, (10, 0)))], [.inr (0, (11, 0))])
def rxIRDX_10 (S0 : Nat → Int → Int) (ws : List Int) (S : Nat → Int → Int) (nb ap cl : Int) : Prop := ws = [412, 411, nb, ap, 427] ∧ ∃ S1 : Nat → Int → Int, rzRd S0 S1 nb ap ∧ rzAt (rzText (decide (ap = 1)) (rzCut (S0 411)) nb) S1 S (rzNx (decide (ap = 1)) (rzCut (S0 411)) nb (11 - cl).toNat) ∧ rzSg (rzCut (S0 411)) nb 59 (S 412 2) = true
def rxmRDX_10 (S0 : Nat → Int → Int) (ws : List Int) (S : Nat → Int → Int) (nb ap cl : Int) : Nat := (20 - cl).toNat * 100 + 60
def rxzRDX_10 : rx_Z := ([(0, 0), (0, 0), (0, 0), (0, 0), (0, 0), (0, 0), (0, 0), (0, 0), (0, 400), (0, 1), (0, 11)], [], [(((0, 412), 0), .inr (3, (0, 411))), (((0, 412), 6), .inr (3, (0, 427)))], 0, 0, 127, [(0, .inr (3, (0, 412))), (2, .inr (0, (8, 0))), (3, .inr (0, (9, 0))), (5, .inr (0, (10, 0)))], [.inr (3, (0, 412))])
def rxIRDX_11 (S0 : Nat → Int → Int) (ws : List Int) (S : Nat → Int → Int) (nb ap cl : Int) : Prop := ws = [412, 411, nb, ap, 427] ∧ rzRi S0 S nb ap (rzTx (rzCl (decide (ap = 1)) (rzCut (S0 411)) nb) (rzCut (S0 411)) nb (11 - cl).toNat)
def rxmRDX_11 (S0 : Nat → Int → Int) (ws : List Int) (S : Nat → Int → Int) (nb ap cl : Int) : Nat := (20 - cl).toNat * 100 + 55
def rxzRDX_11 : rx_Z := ([(0, 0), (0, 0), (0, 0), (0, 0), (0, 0), (0, 0), (0, 0), (0, 0), (0, 400), (0, 1), (0, 11)], [], [(((0, 412), 0), .inr (3, (0, 411))), (((0, 412), 6), .inr (3, (0, 427)))], 0, 0, 130, [(0, .inr (3, (0, 412))), (2, .inr (0, (8, 0))), (3, .inr (0, (9, 0))), (5, .inr (0, (10, 0)))], [])
def rxoRDX_0_0 : bx_HO := (([(0, 0), (0, 0), (0, 0), (0, 0), (0, 0), (0, 0), (0, 0), (0, 0), (0, 400), (0, 1)], [], [(((0, 0), 1851192626986356798829287277884448576027768266202889952673136643000000), .inr (0, (0, 0))), (((0, 412), 7), .inr (0, (0, 0))), (((0, 0), 1851192626986356798227167157524121751206303872841384192020512771000000), .inr (0, (0, 0))), (((0, 427), 4), .inr (0, (0, 0))), (((0, 0), 1851192626986356797424340330377019318111018015026043177805217795000000), .inr (0, (0, 0))), (((0, 427), 0), .inr (0, (0, 0))), (((0, 0), 1851192626986356798628580571097672967753946801749054699119312899000000), .inr (3, (0, 427))), (((0, 412), 6), .inr (3, (0, 427))), (((0, 0), 1851192626986356798427873864310897359480125337295219445565489155000000), .inr (0, (9, 0))), (((0, 412), 5), .inr (0, (9, 0))), (((0, 0), 1851192626986356798227167157524121751206303872841384192011665411000000), .inr (0, (0, (-1)))), (((0, 412), 4), .inr (0, (0, (-1)))), (((0, 0), 1851192626986356798026460450737346142932482408387548938457841667000000), .inr (0, (0, 0))), (((0, 412), 3), .inr (0, (0, 0))), (((0, 0), 1851192626986356797625047037163794926384839479479878431350194179000000), .inr (0, (8, 0))), (((0, 412), 1), .inr (0, (8, 0))), (((0, 0), 1851192626986356797424340330377019318111018015026043177796370435000000), .inr (3, (0, 411))), (((0, 412), 0), .inr (3, (0, 411)))], 0, 0, 52, [(0, .inr (3, (0, 412))), (1, .inr (3, (0, 411))), (2, .inr (0, (8, 0))), (3, .inr (0, (9, 0))), (4, .inr (3, (0, 427)))], [.inr (3, (0, 412))]), [], [], [(0, 0), (0, 0), (0, 0), (0, 0), (0, 0), (0, 0), (0, 0), (0, 0), (8, 0), (9, 0)], 1)
def rxoRDX_2_0 : bx_HO := (([(0, 0), (0, 0), (0, 0), (0, 0), (0, 0), (0, 0), (0, 0), (0, 0), (0, 400), (0, 1)], [], [(((0, 412), 0), .inr (3, (0, 411))), (((0, 412), 6), .inr (3, (0, 427)))], 0, 0, 58, [(5, .inr (0, (0, 0))), (0, .inr (3, (0, 412))), (2, .inr (0, (8, 0))), (3, .inr (0, (9, 0)))], []), [], [], [(0, 0), (0, 0), (0, 0), (0, 0), (0, 0), (0, 0), (0, 0), (0, 0), (8, 0), (9, 0), (0, 0)], 3)
def rxoRDX_3_0 : bx_HO := (([(0, 0), (0, 0), (0, 0), (0, 0), (0, 0), (0, 0), (0, 0), (0, 0), (0, 400), (0, 1), (0, 11), (1, 1)], [(3, (11, 0), (0, 0))], [(((0, 0), 1851192626986356798427873864310897359480125337295219445565489152000000), .inr (0, (11, 0))), (((0, 412), 5), .inr (0, (11, 0))), (((0, 412), 0), .inr (3, (0, 411))), (((0, 412), 6), .inr (3, (0, 427)))], 0, 0, 73, [(0, .inr (3, (0, 412))), (2, .inr (0, (8, 0))), (3, .inr (0, (9, 0))), (5, .inr (0, (10, 0)))], [.inr (3, (0, 412))]), [], [], [(0, 0), (0, 0), (0, 0), (0, 0), (0, 0), (0, 0), (0, 0), (0, 0), (8, 0), (9, 0), (10, 0)], 4)
def rxoRDX_3_1 : bx_HO := (([(0, 0), (0, 0), (0, 0), (0, 0), (0, 0), (0, 0), (0, 0), (0, 0), (0, 400), (0, 1), (0, 11), (0, 0)], [], [(((0, 0), 1851192626986356798427873864310897359480125337295219445565489152000000), .inr (0, (11, 0))), (((0, 412), 5), .inr (0, (11, 0))), (((0, 412), 0), .inr (3, (0, 411))), (((0, 412), 6), .inr (3, (0, 427)))], 0, 0, 80, [(0, .inr (3, (0, 412))), (2, .inr (0, (8, 0))), (3, .inr (0, (9, 0))), (5, .inr (0, (10, 0)))], [.inr (3, (0, 412))]), [], [], [(0, 0), (0, 0), (0, 0), (0, 0), (0, 0), (0, 0), (0, 0), (0, 0), (8, 0), (9, 0), (10, 0)], 6)
def rxeRDX_3_0 : rx_End × List (Nat × Int × Int) := (([(0, 0), (0, 0), (0, 0), (0, 0), (0, 0), (0, 0), (0, 0), (0, 0), (0, 400), (0, 1), (12, 12), (0, 400)], [], [(((0, 0), 1851192626986356798227167157524121751206303872841384192011665411000000), .inr (0, (11, 0))), (((0, 412), 4), .inr (0, (11, 0))), (((0, 0), 1851192626986356797825753743950570534658660943933713684904017920000000), .inr (0, (11, 0))), (((0, 412), 2), .inr (0, (11, 0))), (((0, 412), 0), .inr (3, (0, 411))), (((0, 412), 6), .inr (3, (0, 427)))], some (.inr (0, (0, 0)))), [])
def rxoRDX_5_0 : bx_HO := (([(0, 0), (0, 0), (0, 0), (0, 0), (0, 0), (0, 0), (0, 0), (0, 0), (0, 400), (0, 1), (0, 11), (1, 1)], [(3, (11, 0), (0, 0))], [(((0, 412), 0), .inr (3, (0, 411))), (((0, 412), 6), .inr (3, (0, 427)))], 0, 0, 91, [(6, .inr (0, (11, 0))), (0, .inr (3, (0, 412))), (2, .inr (0, (8, 0))), (3, .inr (0, (9, 0))), (5, .inr (0, (10, 0)))], [.inr (3, (0, 412))]), [], [], [(0, 0), (0, 0), (0, 0), (0, 0), (0, 0), (0, 0), (0, 0), (0, 0), (8, 0), (9, 0), (10, 0)], 8)
def rxeRDX_5_0 : rx_End × List (Nat × Int × Int) := (([(0, 0), (0, 0), (0, 0), (0, 0), (0, 0), (0, 0), (0, 0), (0, 0), (0, 400), (0, 1), (0, 11), (0, 0)], [], [(((0, 412), 0), .inr (3, (0, 411))), (((0, 412), 6), .inr (3, (0, 427)))], some (.inr (0, (0, 0)))), [])
def rxoRDX_7_0 : bx_HO := (([(0, 0), (0, 0), (0, 0), (0, 0), (0, 0), (0, 0), (0, 0), (0, 0), (0, 400), (0, 1), (0, 11), (1, 1)], [(3, (11, 0), (0, 0))], [(((0, 412), 0), .inr (3, (0, 411))), (((0, 412), 6), .inr (3, (0, 427)))], 0, 0, 91, [(6, .inr (0, (11, 0))), (0, .inr (3, (0, 412))), (2, .inr (0, (8, 0))), (3, .inr (0, (9, 0))), (5, .inr (0, (10, 0)))], [.inr (3, (0, 412))]), [], [], [(0, 0), (0, 0), (0, 0), (0, 0), (0, 0), (0, 0), (0, 0), (0, 0), (8, 0), (9, 0), (10, 0)], 8)
def rxeRDX_7_0 : rx_End × List (Nat × Int × Int) := (([(0, 0), (0, 0), (0, 0), (0, 0), (0, 0), (0, 0), (0, 0), (0, 0), (0, 400), (0, 1), (0, 11), (0, 0)], [], [(((0, 412), 0), .inr (3, (0, 411))), (((0, 412), 6), .inr (3, (0, 427)))], some (.inr (0, (0, 0)))), [])
def rxoRDX_9_0 : bx_HO := (([(0, 0), (0, 0), (0, 0), (0, 0), (0, 0), (0, 0), (0, 0), (0, 0), (0, 400), (0, 1), (0, 11), (1, 1), (0, 399), (1, 400), (59, 59)], [(0, (12, 0), (13, 0)), (0, (12, 0), (13, 0)), (3, (11, 0), (0, 0))], [(((0, 0), 1851192626986356797424377080872646779465072059483645808762617856000000), .inr (0, (14, 0))), (((0, 0), 1851192626986356797625047037163794926384839479479878431350194176000000), .inr (0, (13, 0))), (((0, 412), 1), .inr (0, (13, 0))), (((0, 0), 1851192626986356797825753743950570534658660943933713684904017920000000), .inr (0, (12, 0))), (((0, 412), 2), .inr (0, (12, 0))), (((0, 412), 0), .inr (3, (0, 411))), (((0, 412), 6), .inr (3, (0, 427)))], 0, 0, 127, [(0, .inr (3, (0, 412))), (2, .inr (0, (8, 0))), (3, .inr (0, (9, 0))), (5, .inr (0, (10, 0)))], [.inr (3, (0, 412))]), [], [], [(0, 0), (0, 0), (0, 0), (0, 0), (0, 0), (0, 0), (0, 0), (0, 0), (8, 0), (9, 0), (10, 0)], 10)
def rxeRDX_9_0 : rx_End × List (Nat × Int × Int) := (([(0, 0), (0, 0), (0, 0), (0, 0), (0, 0), (0, 0), (0, 0), (0, 0), (0, 400), (0, 1), (0, 11), (0, 0)], [], [(((0, 412), 0), .inr (3, (0, 411))), (((0, 412), 6), .inr (3, (0, 427)))], some (.inr (0, (0, 0)))), [])
def rxeRDX_9_1 : rx_End × List (Nat × Int × Int) := (([(0, 0), (0, 0), (0, 0), (0, 0), (0, 0), (0, 0), (0, 0), (0, 0), (0, 400), (0, 1), (0, 11), (1, 1), (0, 400), (0, 400)], [(1, (13, 0), (12, 0)), (3, (11, 0), (0, 0))], [(((0, 0), 1851192626986356797625047037163794926384839479479878431350194176000000), .inr (0, (13, 0))), (((0, 412), 1), .inr (0, (13, 0))), (((0, 0), 1851192626986356797825753743950570534658660943933713684904017920000000), .inr (0, (12, 0))), (((0, 412), 2), .inr (0, (12, 0))), (((0, 412), 0), .inr (3, (0, 411))), (((0, 412), 6), .inr (3, (0, 427)))], some (.inr (0, (0, 1)))), [])
def rxeRDX_9_2 : rx_End × List (Nat × Int × Int) := (([(0, 0), (0, 0), (0, 0), (0, 0), (0, 0), (0, 0), (0, 0), (0, 0), (0, 400), (0, 1), (0, 11), (1, 1), (0, 399), (1, 400), (0, 255)], [(3, (14, 0), (0, 59)), (0, (12, 0), (13, 0)), (0, (12, 0), (13, 0)), (3, (11, 0), (0, 0))], [(((0, 0), 1851192626986356798227167157524121751206303872841384192011665411000000), .inr (0, (12, 0))), (((0, 412), 4), .inr (0, (12, 0))), (((0, 0), 1851192626986356797424377080872646779465072059483645808762617856000000), .inr (0, (14, 0))), (((0, 0), 1851192626986356797625047037163794926384839479479878431350194176000000), .inr (0, (13, 0))), (((0, 412), 1), .inr (0, (13, 0))), (((0, 0), 1851192626986356797825753743950570534658660943933713684904017920000000), .inr (0, (12, 0))), (((0, 412), 2), .inr (0, (12, 0))), (((0, 412), 0), .inr (3, (0, 411))), (((0, 412), 6), .inr (3, (0, 427)))], some (.inr (0, (0, 0)))), [])
def rxoRDX_11_0 : bx_HO := (([(0, 0), (0, 0), (0, 0), (0, 0), (0, 0), (0, 0), (0, 0), (0, 0), (0, 400), (0, 1), (0, 11)], [], [(((0, 412), 0), .inr (3, (0, 411))), (((0, 412), 6), .inr (3, (0, 427)))], 0, 0, 58, [(5, .inr (0, (10, 1))), (0, .inr (3, (0, 412))), (2, .inr (0, (8, 0))), (3, .inr (0, (9, 0)))], []), [], [], [(0, 0), (0, 0), (0, 0), (0, 0), (0, 0), (0, 0), (0, 0), (0, 0), (8, 0), (9, 0), (10, 1)], 3)
def rxYRDX : List bx_HE := [(rxzRDX_0, [rxoRDX_0_0], []), (rxzRDX_1, [], []), (rxzRDX_2, [rxoRDX_2_0], []), (rxzRDX_3, [rxoRDX_3_0, rxoRDX_3_1], [rxeRDX_3_0]), (rxzRDX_4, [], []), (rxzRDX_5, [rxoRDX_5_0], [rxeRDX_5_0]), (rxzRDX_6, [], []), (rxzRDX_7, [rxoRDX_7_0], [rxeRDX_7_0]), (rxzRDX_8, [], []), (rxzRDX_9, [rxoRDX_9_0], [rxeRDX_9_0, rxeRDX_9_1, rxeRDX_9_2]), (rxzRDX_10, [], []), (rxzRDX_11, [rxoRDX_11_0], [])]
def rxURDX (q : bx_HE) : Bool := Nat.beq (rx_zpc q.1) 52 || Nat.beq (rx_zpc q.1) 73 || Nat.beq (rx_zpc q.1) 80 || Nat.beq (rx_zpc q.1) 91 || Nat.beq (rx_zpc q.1) 127
def rxYBRDX : bx_B := (rxV, rxNP, rxDmf, bx_mdH rxCRDX.2.2.1)
set_option maxRecDepth 100000 in
theorem rxYcRDX : bx_chkH rxYBRDX rxM119 rxCRDX rxYRDX (rxURDX, fun cut z => rx_ex2 (rxCT rxYBRDX rxCnE) cut 30000 rxCRDX.2.2.2.1 119 z) = true := by decide +kernel
def rxIRDX (S0 : Nat → Int → Int) (ws : List Int) (i : Nat) : bx_SP := fun S r => match i with | 0 => rxIRDX_0 S0 ws S (r 8) (r 9) | 1 => rxIRDX_1 S0 ws S (r 8) (r 9) | 2 => rxIRDX_2 S0 ws S (r 8) (r 9) | 3 => rxIRDX_3 S0 ws S (r 8) (r 9) (r 10) | 4 => rxIRDX_4 S0 ws S (r 8) (r 9) (r 10) | 5 => rxIRDX_5 S0 ws S (r 8) (r 9) (r 10) (r 11) | 6 => rxIRDX_6 S0 ws S (r 8) (r 9) (r 10) | 7 => rxIRDX_7 S0 ws S (r 8) (r 9) (r 10) (r 11) | 8 => rxIRDX_8 S0 ws S (r 8) (r 9) (r 10) | 9 => rxIRDX_9 S0 ws S (r 8) (r 9) (r 10) (r 11) | 10 => rxIRDX_10 S0 ws S (r 8) (r 9) (r 10) | 11 => rxIRDX_11 S0 ws S (r 8) (r 9) (r 10) | _ => False
def rxmRDX (S0 : Nat → Int → Int) (ws : List Int) (i : Nat) (S : Nat → Int → Int) (r : Nat → Int) : Nat := match i with | 0 => rxmRDX_0 S0 ws S (r 8) (r 9) | 1 => rxmRDX_1 S0 ws S (r 8) (r 9) | 2 => rxmRDX_2 S0 ws S (r 8) (r 9) | 3 => rxmRDX_3 S0 ws S (r 8) (r 9) (r 10) | 4 => rxmRDX_4 S0 ws S (r 8) (r 9) (r 10) | 5 => rxmRDX_5 S0 ws S (r 8) (r 9) (r 10) (r 11) | 6 => rxmRDX_6 S0 ws S (r 8) (r 9) (r 10) | 7 => rxmRDX_7 S0 ws S (r 8) (r 9) (r 10) (r 11) | 8 => rxmRDX_8 S0 ws S (r 8) (r 9) (r 10) | 9 => rxmRDX_9 S0 ws S (r 8) (r 9) (r 10) (r 11) | 10 => rxmRDX_10 S0 ws S (r 8) (r 9) (r 10) | 11 => rxmRDX_11 S0 ws S (r 8) (r 9) (r 10) | _ => 0
def rxPRDX (S0 : Nat → Int → Int) (ws : List Int) : Prop := True
def rxPSRDX (S0 : Nat → Int → Int) (ws : List Int) (S : Nat → Int → Int) (w : Option Int) : Prop := ∃ nb ap : Int, ws = [412, 411, nb, ap, 427] ∧ rzRo S0 S nb ap w
theorem rxkRDX_1 {S0 : Nat → Int → Int} {ws : List Int} {S : Nat → Int → Int} {nb ap : Int} (hP : rxPRDX S0 ws) (hin : bx_same rxL (bx_mdl rxCRDX.2.2.1) S0 S) (I0 : bx_Inv rxL S) (hinv : rxIRDX_1 S0 ws S nb ap) (l8 : 0 ≤ nb) (u8 : nb ≤ 400) (l9 : 0 ≤ ap) (u9 : ap ≤ 1) : rxPAD S [412] ∧ ∀ (S_p : Nat → Int → Int), rxPSAD S [412] S_p none → bx_Inv rxL S_p → bx_same rxL (bx_mdl rxC84.2.2.1) S S_p → rxIRDX_2 S0 ws S_p nb ap ∧ rxmRDX_2 S0 ws S_p nb ap < rxmRDX_1 S0 ws S nb ap := by
  obtain ⟨hw, hR, h3, h7⟩ := hinv
  refine ⟨trivial, fun S_p hq _ hsm => ⟨⟨hw, S_p, ?_, ?_⟩, by unfold rxmRDX_1 rxmRDX_2; omega⟩⟩
  · have kp := rzKp_of hsm (by decide +kernel) (by decide +kernel) (by decide +kernel) (by decide +kernel)
    exact ⟨kp.1.trans hR.1, kp.2.1.trans hR.2.1, kp.2.2.1.trans hR.2.2.1, kp.2.2.2.trans hR.2.2.2⟩
  · obtain ⟨-, q2, q3⟩ := hq
    have kp := rzKp_of hsm (by decide +kernel) (by decide +kernel) (by decide +kernel) (by decide +kernel)
    have f7 : S_p 412 7 = S 412 7 := hsm 412 7 (by decide) (by decide) (by decide +kernel)
    rw [h3, hR.1, hR.2.1] at q2
    have b := rzF_b (T := rzCut (S0 411)) (n := nb) (k := 0)
    have e1 : S_p 412 1 = nb := kp.2.1.trans hR.2.1
    have eT : rzCut (S_p 411) = rzCut (S0 411) := kp.1.trans hR.1
    refine ⟨rzKp_rf, ⟨?_, by omega, by omega, by omega⟩, fun r hr => ?_⟩
    · rw [kp.1, kp.2.1]
      exact q3
    · rw [q2, f7, h7] at hr
      exact hr
theorem rxsRDX_1 {X : (Nat → Int → Int) → Prop} {S0 : Nat → Int → Int} {ws : List Int} (hP : rxPRDX S0 ws) : rx_obK X S0 rxCRDX.2.2.1 rxC84.2.2.1 (rxIRDX S0 ws) (rxmRDX S0 ws) 1 2 rxzRDX_1 rxzRDX_2 [.inr (3, (0, 412))] none rxPAD rxPSAD := by
  intro S r hinv hXS I0 hin hs_ hf_
  have b_ := bx_bds_sat hs_
  have f_ := bx_fcl_ok hs_.1 hf_
  obtain ⟨⟨l8, u8⟩, ⟨l9, u9⟩, -⟩ := b_
  have g := rxkRDX_1 hP hin I0 hinv l8 u8 l9 u9
  have ea : List.map (bx_num r) [.inr (3, (0, 412))] = [412] := by
    simp only [List.map_cons, List.map_nil, bx_xv_ok hs_.1]
    rfl
  rw [ea]
  refine ⟨g.1, fun S_p w r_p hPS hX_p I1 hsm hr hw hs_p => ?_⟩
  have hw : w = none := hPS.1
  subst hw
  have g2 := g.2 S_p hPS I1 hsm
  show rxIRDX_2 S0 ws S_p (r_p 8) (r_p 9) ∧ rxmRDX_2 S0 ws S_p (r_p 8) (r_p 9) < _
  rw [hr 8 (by decide), hr 9 (by decide)]
  exact g2
theorem rxkRDX_4 {S0 : Nat → Int → Int} {ws : List Int} {S : Nat → Int → Int} {nb ap cl : Int} (hP : rxPRDX S0 ws) (hin : bx_same rxL (bx_mdl rxCRDX.2.2.1) S0 S) (I0 : bx_Inv rxL S) (hinv : rxIRDX_4 S0 ws S nb ap cl) (l8 : 0 ≤ nb) (u8 : nb ≤ 400) (l9 : 0 ≤ ap) (u9 : ap ≤ 1) (l10 : 0 ≤ cl) (u10 : cl ≤ 11) : rxPRPC S [412] ∧ ∀ (S_p : Nat → Int → Int) (res : Int), 0 ≤ res → res ≤ 1 → rxPSRPC S [412] S_p (some res) → bx_Inv rxL S_p → bx_same rxL (bx_mdl rxCRPC.2.2.1) S S_p → rxIRDX_5 S0 ws S_p nb ap cl res ∧ rxmRDX_5 S0 ws S_p nb ap cl res < rxmRDX_4 S0 ws S nb ap cl := by
  obtain ⟨ha, hw, S1, hR, hA⟩ := hinv
  refine ⟨hA.2.1, fun S_p res _ _ hq _ _ => ⟨⟨hw, ?_⟩, by unfold rxmRDX_4 rxmRDX_5; omega⟩⟩
  have e5 : S 412 5 = ap := hA.1.2.2.1.trans hR.2.2.1
  have hW : rzWs S = rzPn := if_pos (by omega)
  have hX : (if ap = 1 then rzPn else rzLn_) = rzPn := if_pos (by omega)
  have hp : (decide (ap = 1)) = true := decide_eq_true (by omega)
  have hC : rzCl (decide (ap = 1)) (rzCut (S0 411)) nb = rzPC (rzCut (S0 411)) nb := by
    rw [hp]
    rfl
  unfold rxPSRPC at hq
  rw [hW, hA.1.1, hA.1.2.1, hR.1, hR.2.1] at hq
  have k : ∀ r : rzR, rzThen (rzPH (rzCut (S0 411)) nb rzPn (S 412 2) (S 412 7)) (fun f lf => rzThen (rzIf (rzCut (S0 411)) nb (if ap = 1 then rzPn else rzLn_) f lf) (rzNx (decide (ap = 1)) (rzCut (S0 411)) nb (11 - cl).toNat)) r → rzTx (rzCl (decide (ap = 1)) (rzCut (S0 411)) nb) (rzCut (S0 411)) nb (12 - cl).toNat (S 412 2) (S 412 7) r := fun r q => by
    rw [show (12 - cl).toNat = (11 - cl).toNat + 1 by omega]
    show rzThen (rzCl (decide (ap = 1)) (rzCut (S0 411)) nb (S 412 2) (S 412 7)) (rzNx (decide (ap = 1)) (rzCut (S0 411)) nb (11 - cl).toNat) r
    rw [hX] at q
    rw [hC]
    exact rzThen_map (fun r z => rzPH_then z) (rzThen_assoc q)
  rcases rzAt_call hA k hq with ⟨c1, c2⟩ | ⟨c1, c2⟩
  · exact Or.inl ⟨c1, S1, hR, c2⟩
  · exact Or.inr ⟨c1, rzRi_ok hR c2⟩
theorem rxsRDX_4 {X : (Nat → Int → Int) → Prop} {S0 : Nat → Int → Int} {ws : List Int} (hP : rxPRDX S0 ws) : rx_obK X S0 rxCRDX.2.2.1 rxCRPC.2.2.1 (rxIRDX S0 ws) (rxmRDX S0 ws) 4 5 rxzRDX_4 rxzRDX_5 [.inr (3, (0, 412))] (some 11) rxPRPC rxPSRPC := by
  intro S r hinv hXS I0 hin hs_ hf_
  have b_ := bx_bds_sat hs_
  have f_ := bx_fcl_ok hs_.1 hf_
  obtain ⟨⟨l8, u8⟩, ⟨l9, u9⟩, ⟨l10, u10⟩, -⟩ := b_
  have g := rxkRDX_4 hP hin I0 hinv l8 u8 l9 u9 l10 u10
  have ea : List.map (bx_num r) [.inr (3, (0, 412))] = [412] := by
    simp only [List.map_cons, List.map_nil, bx_xv_ok hs_.1]
    rfl
  rw [ea]
  refine ⟨g.1, fun S_p w r_p hPS hX_p I1 hsm hr hw hs_p => ?_⟩
  have hw := hw _ rfl
  subst hw
  have b_p := hs_p.2.2 11 _ _ rfl
  have g2 := g.2 S_p (r_p 11) b_p.1 b_p.2 hPS I1 hsm
  show rxIRDX_5 S0 ws S_p (r_p 8) (r_p 9) (r_p 10) (r_p 11) ∧ rxmRDX_5 S0 ws S_p (r_p 8) (r_p 9) (r_p 10) (r_p 11) < _
  rw [hr 8 (by decide), hr 9 (by decide), hr 10 (by decide)]
  exact g2
theorem rxkRDX_6 {S0 : Nat → Int → Int} {ws : List Int} {S : Nat → Int → Int} {nb ap cl : Int} (hP : rxPRDX S0 ws) (hin : bx_same rxL (bx_mdl rxCRDX.2.2.1) S0 S) (I0 : bx_Inv rxL S) (hinv : rxIRDX_6 S0 ws S nb ap cl) (l8 : 0 ≤ nb) (u8 : nb ≤ 400) (l9 : 0 ≤ ap) (u9 : ap ≤ 1) (l10 : 0 ≤ cl) (u10 : cl ≤ 11) : rxPRLC S [412] ∧ ∀ (S_p : Nat → Int → Int) (res : Int), 0 ≤ res → res ≤ 1 → rxPSRLC S [412] S_p (some res) → bx_Inv rxL S_p → bx_same rxL (bx_mdl rxCRLC.2.2.1) S S_p → rxIRDX_7 S0 ws S_p nb ap cl res ∧ rxmRDX_7 S0 ws S_p nb ap cl res < rxmRDX_6 S0 ws S nb ap cl := by
  obtain ⟨ha, hw, S1, hR, hA⟩ := hinv
  refine ⟨hA.2.1, fun S_p res _ _ hq _ _ => ⟨⟨hw, ?_⟩, by unfold rxmRDX_6 rxmRDX_7; omega⟩⟩
  have e5 : S 412 5 = ap := hA.1.2.2.1.trans hR.2.2.1
  have hW : rzWs S = rzLn_ := if_neg (by omega)
  have hX : (if ap = 1 then rzPn else rzLn_) = rzLn_ := if_neg (by omega)
  have hp : (decide (ap = 1)) = false := decide_eq_false (by omega)
  have hC : rzCl (decide (ap = 1)) (rzCut (S0 411)) nb = rzLC (rzCut (S0 411)) nb := by
    rw [hp]
    rfl
  unfold rxPSRLC at hq
  rw [hW, hA.1.1, hA.1.2.1, hR.1, hR.2.1] at hq
  have k : ∀ r : rzR, rzThen (rzLH (rzCut (S0 411)) nb rzLn_ (S 412 2) (S 412 7)) (fun f lf => rzThen (rzIf (rzCut (S0 411)) nb (if ap = 1 then rzPn else rzLn_) f lf) (rzNx (decide (ap = 1)) (rzCut (S0 411)) nb (11 - cl).toNat)) r → rzTx (rzCl (decide (ap = 1)) (rzCut (S0 411)) nb) (rzCut (S0 411)) nb (12 - cl).toNat (S 412 2) (S 412 7) r := fun r q => by
    rw [show (12 - cl).toNat = (11 - cl).toNat + 1 by omega]
    show rzThen (rzCl (decide (ap = 1)) (rzCut (S0 411)) nb (S 412 2) (S 412 7)) (rzNx (decide (ap = 1)) (rzCut (S0 411)) nb (11 - cl).toNat) r
    rw [hX] at q
    rw [hC]
    exact rzThen_map (fun r z => rzLH_then z) (rzThen_assoc q)
  rcases rzAt_call hA k hq with ⟨c1, c2⟩ | ⟨c1, c2⟩
  · exact Or.inl ⟨c1, S1, hR, c2⟩
  · exact Or.inr ⟨c1, rzRi_ok hR c2⟩
theorem rxsRDX_6 {X : (Nat → Int → Int) → Prop} {S0 : Nat → Int → Int} {ws : List Int} (hP : rxPRDX S0 ws) : rx_obK X S0 rxCRDX.2.2.1 rxCRLC.2.2.1 (rxIRDX S0 ws) (rxmRDX S0 ws) 6 7 rxzRDX_6 rxzRDX_7 [.inr (3, (0, 412))] (some 11) rxPRLC rxPSRLC := by
  intro S r hinv hXS I0 hin hs_ hf_
  have b_ := bx_bds_sat hs_
  have f_ := bx_fcl_ok hs_.1 hf_
  obtain ⟨⟨l8, u8⟩, ⟨l9, u9⟩, ⟨l10, u10⟩, -⟩ := b_
  have g := rxkRDX_6 hP hin I0 hinv l8 u8 l9 u9 l10 u10
  have ea : List.map (bx_num r) [.inr (3, (0, 412))] = [412] := by
    simp only [List.map_cons, List.map_nil, bx_xv_ok hs_.1]
    rfl
  rw [ea]
  refine ⟨g.1, fun S_p w r_p hPS hX_p I1 hsm hr hw hs_p => ?_⟩
  have hw := hw _ rfl
  subst hw
  have b_p := hs_p.2.2 11 _ _ rfl
  have g2 := g.2 S_p (r_p 11) b_p.1 b_p.2 hPS I1 hsm
  show rxIRDX_7 S0 ws S_p (r_p 8) (r_p 9) (r_p 10) (r_p 11) ∧ rxmRDX_7 S0 ws S_p (r_p 8) (r_p 9) (r_p 10) (r_p 11) < _
  rw [hr 8 (by decide), hr 9 (by decide), hr 10 (by decide)]
  exact g2
theorem rxkRDX_8 {S0 : Nat → Int → Int} {ws : List Int} {S : Nat → Int → Int} {nb ap cl : Int} (hP : rxPRDX S0 ws) (hin : bx_same rxL (bx_mdl rxCRDX.2.2.1) S0 S) (I0 : bx_Inv rxL S) (hinv : rxIRDX_8 S0 ws S nb ap cl) (l8 : 0 ≤ nb) (u8 : nb ≤ 400) (l9 : 0 ≤ ap) (u9 : ap ≤ 1) (l10 : 0 ≤ cl) (u10 : cl ≤ 11) : rxPRIF S [412] ∧ ∀ (S_p : Nat → Int → Int) (res : Int), 0 ≤ res → res ≤ 1 → rxPSRIF S [412] S_p (some res) → bx_Inv rxL S_p → bx_same rxL (bx_mdl rxCRIF.2.2.1) S S_p → rxIRDX_9 S0 ws S_p nb ap cl res ∧ rxmRDX_9 S0 ws S_p nb ap cl res < rxmRDX_8 S0 ws S nb ap cl := by
  obtain ⟨hw, S1, hR, hA⟩ := hinv
  refine ⟨hA.2.1, fun S_p res _ _ hq _ _ => ⟨⟨hw, ?_⟩, by unfold rxmRDX_8 rxmRDX_9; omega⟩⟩
  have e5 : S 412 5 = ap := hA.1.2.2.1.trans hR.2.2.1
  have hW : rzWs S = (if ap = 1 then rzPn else rzLn_) := by
    unfold rzWs
    rw [e5]
  unfold rxPSRIF at hq
  rw [hW, hA.1.1, hA.1.2.1, hR.1, hR.2.1] at hq
  rcases rzAt_call hA (fun r q => q) hq with ⟨c1, c2⟩ | ⟨c1, c2⟩
  · exact Or.inl ⟨c1, S1, hR, c2⟩
  · exact Or.inr ⟨c1, rzRi_ok hR c2⟩
theorem rxsRDX_8 {X : (Nat → Int → Int) → Prop} {S0 : Nat → Int → Int} {ws : List Int} (hP : rxPRDX S0 ws) : rx_obK X S0 rxCRDX.2.2.1 rxCRIF.2.2.1 (rxIRDX S0 ws) (rxmRDX S0 ws) 8 9 rxzRDX_8 rxzRDX_9 [.inr (3, (0, 412))] (some 11) rxPRIF rxPSRIF := by
  intro S r hinv hXS I0 hin hs_ hf_
  have b_ := bx_bds_sat hs_
  have f_ := bx_fcl_ok hs_.1 hf_
  obtain ⟨⟨l8, u8⟩, ⟨l9, u9⟩, ⟨l10, u10⟩, -⟩ := b_
  have g := rxkRDX_8 hP hin I0 hinv l8 u8 l9 u9 l10 u10
  have ea : List.map (bx_num r) [.inr (3, (0, 412))] = [412] := by
    simp only [List.map_cons, List.map_nil, bx_xv_ok hs_.1]
    rfl
  rw [ea]
  refine ⟨g.1, fun S_p w r_p hPS hX_p I1 hsm hr hw hs_p => ?_⟩
  have hw := hw _ rfl
  subst hw
  have b_p := hs_p.2.2 11 _ _ rfl
  have g2 := g.2 S_p (r_p 11) b_p.1 b_p.2 hPS I1 hsm
  show rxIRDX_9 S0 ws S_p (r_p 8) (r_p 9) (r_p 10) (r_p 11) ∧ rxmRDX_9 S0 ws S_p (r_p 8) (r_p 9) (r_p 10) (r_p 11) < _
  rw [hr 8 (by decide), hr 9 (by decide), hr 10 (by decide)]
  exact g2
theorem rxkRDX_10 {S0 : Nat → Int → Int} {ws : List Int} {S : Nat → Int → Int} {nb ap cl : Int} (hP : rxPRDX S0 ws) (hin : bx_same rxL (bx_mdl rxCRDX.2.2.1) S0 S) (I0 : bx_Inv rxL S) (hinv : rxIRDX_10 S0 ws S nb ap cl) (l8 : 0 ≤ nb) (u8 : nb ≤ 400) (l9 : 0 ≤ ap) (u9 : ap ≤ 1) (l10 : 0 ≤ cl) (u10 : cl ≤ 11) : rxPAD S [412] ∧ ∀ (S_p : Nat → Int → Int), rxPSAD S [412] S_p none → bx_Inv rxL S_p → bx_same rxL (bx_mdl rxC84.2.2.1) S S_p → rxIRDX_11 S0 ws S_p nb ap cl ∧ rxmRDX_11 S0 ws S_p nb ap cl < rxmRDX_10 S0 ws S nb ap cl := by
  obtain ⟨hw, S1, hR, hA, hb⟩ := hinv
  refine ⟨trivial, fun S_p hq _ hsm => ⟨⟨hw, S1, hR, rzAt_ad hA hsm (by decide +kernel) (by decide +kernel) (by decide +kernel) (by decide +kernel) (by decide +kernel) hq.2.1 hq.2.2 fun r q => ?_⟩, by unfold rxmRDX_10 rxmRDX_11; omega⟩⟩
  rw [hR.1, hR.2.1] at q
  exact rzAlt_y hb q
theorem rxsRDX_10 {X : (Nat → Int → Int) → Prop} {S0 : Nat → Int → Int} {ws : List Int} (hP : rxPRDX S0 ws) : rx_obK X S0 rxCRDX.2.2.1 rxC84.2.2.1 (rxIRDX S0 ws) (rxmRDX S0 ws) 10 11 rxzRDX_10 rxzRDX_11 [.inr (3, (0, 412))] none rxPAD rxPSAD := by
  intro S r hinv hXS I0 hin hs_ hf_
  have b_ := bx_bds_sat hs_
  have f_ := bx_fcl_ok hs_.1 hf_
  obtain ⟨⟨l8, u8⟩, ⟨l9, u9⟩, ⟨l10, u10⟩, -⟩ := b_
  have g := rxkRDX_10 hP hin I0 hinv l8 u8 l9 u9 l10 u10
  have ea : List.map (bx_num r) [.inr (3, (0, 412))] = [412] := by
    simp only [List.map_cons, List.map_nil, bx_xv_ok hs_.1]
    rfl
  rw [ea]
  refine ⟨g.1, fun S_p w r_p hPS hX_p I1 hsm hr hw hs_p => ?_⟩
  have hw : w = none := hPS.1
  subst hw
  have g2 := g.2 S_p hPS I1 hsm
  show rxIRDX_11 S0 ws S_p (r_p 8) (r_p 9) (r_p 10) ∧ rxmRDX_11 S0 ws S_p (r_p 8) (r_p 9) (r_p 10) < _
  rw [hr 8 (by decide), hr 9 (by decide), hr 10 (by decide)]
  exact g2
theorem rxcRDX_0_0 {S0 : Nat → Int → Int} {ws : List Int} {S : Nat → Int → Int} {nb ap : Int} (hP : rxPRDX S0 ws) (hin : bx_same rxL (bx_mdl rxCRDX.2.2.1) S0 S) (I0 : bx_Inv rxL S) (hinv : rxIRDX_0 S0 ws S nb ap) (l8 : 0 ≤ nb) (u8 : nb ≤ 400) (l9 : 0 ≤ ap) (u9 : ap ≤ 1) : (True) ∧ (True) ∧ rxIRDX_1 S0 ws (bx_up (bx_up (bx_up (bx_up (bx_up (bx_up (bx_up (bx_up (bx_up S 412 0 411) 412 1 nb) 412 3 0) 412 4 ((-1))) 412 5 ap) 412 6 427) 427 0 0) 427 4 0) 412 7 0) nb ap ∧ rxmRDX_1 S0 ws (bx_up (bx_up (bx_up (bx_up (bx_up (bx_up (bx_up (bx_up (bx_up S 412 0 411) 412 1 nb) 412 3 0) 412 4 ((-1))) 412 5 ap) 412 6 427) 427 0 0) 427 4 0) 412 7 0) nb ap < rxmRDX_0 S0 ws S nb ap := by
  obtain ⟨rfl, hw⟩ := hinv
  refine ⟨trivial, trivial, ⟨hw, ⟨congrArg rzCut (funext fun _ => (bx_up_ne (by omega)).trans ((bx_up_ne (by omega)).trans ((bx_up_ne (by omega)).trans ((bx_up_ne (by omega)).trans ((bx_up_ne (by omega)).trans ((bx_up_ne (by omega)).trans ((bx_up_ne (by omega)).trans ((bx_up_ne (by omega)).trans ((bx_up_ne (by omega))))))))))), ((bx_up_ne (by omega)).trans ((bx_up_ne (by omega)).trans ((bx_up_ne (by omega)).trans ((bx_up_ne (by omega)).trans ((bx_up_ne (by omega)).trans ((bx_up_ne (by omega)).trans ((bx_up_ne (by omega)).trans (bx_up_at)))))))).trans (by omega), ((bx_up_ne (by omega)).trans ((bx_up_ne (by omega)).trans ((bx_up_ne (by omega)).trans ((bx_up_ne (by omega)).trans (bx_up_at))))).trans (by omega), ((bx_up_ne (by omega)).trans ((bx_up_ne (by omega)).trans ((bx_up_ne (by omega)).trans ((bx_up_ne (by omega)).trans ((bx_up_ne (by omega)).trans (bx_up_at)))))).trans (by omega)⟩, ((bx_up_ne (by omega)).trans ((bx_up_ne (by omega)).trans ((bx_up_ne (by omega)).trans ((bx_up_ne (by omega)).trans ((bx_up_ne (by omega)).trans ((bx_up_ne (by omega)).trans (bx_up_at))))))).trans (by omega), bx_up_at⟩, by unfold rxmRDX_0 rxmRDX_1; omega⟩
theorem rxgRDX_0_0 {X : (Nat → Int → Int) → Prop} {S0 : Nat → Int → Int} {ws : List Int} (hP : rxPRDX S0 ws) : bx_obC rxL X S0 rxCRDX.2.2.1 (rxIRDX S0 ws) (rxmRDX S0 ws) 0 rxzRDX_0 rxoRDX_0_0 := by
  intro S S_p r r_p hinv hX hin hsm_ hseg
  obtain ⟨I0, I1, h0_, hr_, b_, f_, d_⟩ := bx_cl (evs := [(1, (0, 412), (0, 7), .inr (0, (0, 0))), (1, (0, 427), (0, 4), .inr (0, (0, 0))), (1, (0, 427), (0, 0), .inr (0, (0, 0))), (1, (0, 412), (0, 6), .inr (3, (0, 427))), (1, (0, 412), (0, 5), .inr (0, (9, 0))), (1, (0, 412), (0, 4), .inr (0, (0, (-1)))), (1, (0, 412), (0, 3), .inr (0, (0, 0))), (1, (0, 412), (0, 1), .inr (0, (8, 0))), (1, (0, 412), (0, 0), .inr (3, (0, 411)))]) (fvs := []) hseg (by decide +kernel) (by decide +kernel)
  have hinv : rxIRDX_0 S0 ws S (r 8) (r 9) := hinv
  rw [← hr_ 8 (by decide), ← hr_ 9 (by decide)] at hinv
  obtain ⟨⟨l8, u8⟩, ⟨l9, u9⟩, -⟩ := b_
  obtain ⟨T0, ⟨T1, ⟨T2, ⟨T3, ⟨T4, ⟨T5, ⟨T6, ⟨T7, ⟨T8, w_, w8⟩, w7⟩, w6⟩, w5⟩, w4⟩, w3⟩, w2⟩, w1⟩, w0⟩ := d_
  subst w0
  subst w1
  subst w2
  subst w3
  subst w4
  subst w5
  subst w6
  subst w7
  subst w8
  subst w_
  have g := rxcRDX_0_0 hP hin I0 hinv l8 u8 l9 u9
  refine ⟨bx_narP_ok (l := []) g.1, bx_nfP_ok h0_ (fvs := []) (by decide +kernel) g.2.1, ?_, ?_⟩
  · show rxIRDX_1 S0 ws (bx_up (bx_up (bx_up (bx_up (bx_up (bx_up (bx_up (bx_up (bx_up T8 412 (0) (411)) 412 (1) (r_p 8)) 412 (3) (0)) 412 (4) ((-1))) 412 (5) (r_p 9)) 412 (6) (427)) 427 (0) (0)) 427 (4) (0)) 412 (7) (0)) (bx_val [(0, 0), (0, 0), (0, 0), (0, 0), (0, 0), (0, 0), (0, 0), (0, 0), (8, 0), (9, 0)] r_p 8) (bx_val [(0, 0), (0, 0), (0, 0), (0, 0), (0, 0), (0, 0), (0, 0), (0, 0), (8, 0), (9, 0)] r_p 9)
    rw [bx_val_x (n := 8) (e := (8, 0)) h0_ rfl, bx_val_x (n := 9) (e := (9, 0)) h0_ rfl]
    exact g.2.2.1
  · show rxmRDX_1 S0 ws (bx_up (bx_up (bx_up (bx_up (bx_up (bx_up (bx_up (bx_up (bx_up T8 412 (0) (411)) 412 (1) (r_p 8)) 412 (3) (0)) 412 (4) ((-1))) 412 (5) (r_p 9)) 412 (6) (427)) 427 (0) (0)) 427 (4) (0)) 412 (7) (0)) (bx_val [(0, 0), (0, 0), (0, 0), (0, 0), (0, 0), (0, 0), (0, 0), (0, 0), (8, 0), (9, 0)] r_p 8) (bx_val [(0, 0), (0, 0), (0, 0), (0, 0), (0, 0), (0, 0), (0, 0), (0, 0), (8, 0), (9, 0)] r_p 9) < rxmRDX_0 S0 ws T8 (r 8) (r 9)
    rw [bx_val_x (n := 8) (e := (8, 0)) h0_ rfl, bx_val_x (n := 9) (e := (9, 0)) h0_ rfl, ← hr_ 8 (by decide), ← hr_ 9 (by decide)]
    exact g.2.2.2
theorem rxcRDX_2_0 {S0 : Nat → Int → Int} {ws : List Int} {S : Nat → Int → Int} {nb ap : Int} (hP : rxPRDX S0 ws) (hin : bx_same rxL (bx_mdl rxCRDX.2.2.1) S0 S) (I0 : bx_Inv rxL S) (hinv : rxIRDX_2 S0 ws S nb ap) (l8 : 0 ≤ nb) (u8 : nb ≤ 400) (l9 : 0 ≤ ap) (u9 : ap ≤ 1) : (True) ∧ (True) ∧ rxIRDX_3 S0 ws S nb ap 0 ∧ rxmRDX_3 S0 ws S nb ap 0 < rxmRDX_2 S0 ws S nb ap := by
  obtain ⟨hw, hR⟩ := hinv
  exact ⟨trivial, trivial, ⟨hw, hR⟩, by unfold rxmRDX_2 rxmRDX_3; omega⟩
theorem rxgRDX_2_0 {X : (Nat → Int → Int) → Prop} {S0 : Nat → Int → Int} {ws : List Int} (hP : rxPRDX S0 ws) : bx_obC rxL X S0 rxCRDX.2.2.1 (rxIRDX S0 ws) (rxmRDX S0 ws) 2 rxzRDX_2 rxoRDX_2_0 := by
  intro S S_p r r_p hinv hX hin hsm_ hseg
  obtain ⟨I0, I1, h0_, hr_, b_, f_, d_⟩ := bx_cl (evs := []) (fvs := []) hseg (by decide +kernel) (by decide +kernel)
  have hinv : rxIRDX_2 S0 ws S (r 8) (r 9) := hinv
  rw [← hr_ 8 (by decide), ← hr_ 9 (by decide)] at hinv
  obtain ⟨⟨l8, u8⟩, ⟨l9, u9⟩, -⟩ := b_
  have w_ := d_
  subst w_
  have g := rxcRDX_2_0 hP hin I0 hinv l8 u8 l9 u9
  refine ⟨bx_narP_ok (l := []) g.1, bx_nfP_ok h0_ (fvs := []) (by decide +kernel) g.2.1, ?_, ?_⟩
  · show rxIRDX_3 S0 ws S_p (bx_val [(0, 0), (0, 0), (0, 0), (0, 0), (0, 0), (0, 0), (0, 0), (0, 0), (8, 0), (9, 0), (0, 0)] r_p 8) (bx_val [(0, 0), (0, 0), (0, 0), (0, 0), (0, 0), (0, 0), (0, 0), (0, 0), (8, 0), (9, 0), (0, 0)] r_p 9) (bx_val [(0, 0), (0, 0), (0, 0), (0, 0), (0, 0), (0, 0), (0, 0), (0, 0), (8, 0), (9, 0), (0, 0)] r_p 10)
    rw [bx_val_x (n := 8) (e := (8, 0)) h0_ rfl, bx_val_x (n := 9) (e := (9, 0)) h0_ rfl, bx_val_x (n := 10) (e := (0, 0)) h0_ rfl]
    exact g.2.2.1
  · show rxmRDX_3 S0 ws S_p (bx_val [(0, 0), (0, 0), (0, 0), (0, 0), (0, 0), (0, 0), (0, 0), (0, 0), (8, 0), (9, 0), (0, 0)] r_p 8) (bx_val [(0, 0), (0, 0), (0, 0), (0, 0), (0, 0), (0, 0), (0, 0), (0, 0), (8, 0), (9, 0), (0, 0)] r_p 9) (bx_val [(0, 0), (0, 0), (0, 0), (0, 0), (0, 0), (0, 0), (0, 0), (0, 0), (8, 0), (9, 0), (0, 0)] r_p 10) < rxmRDX_2 S0 ws S_p (r 8) (r 9)
    rw [bx_val_x (n := 8) (e := (8, 0)) h0_ rfl, bx_val_x (n := 9) (e := (9, 0)) h0_ rfl, bx_val_x (n := 10) (e := (0, 0)) h0_ rfl, ← hr_ 8 (by decide), ← hr_ 9 (by decide)]
    exact g.2.2.2
theorem rxcRDX_3_0 {S0 : Nat → Int → Int} {ws : List Int} {S : Nat → Int → Int} {nb ap cl x11 : Int} (hP : rxPRDX S0 ws) (hin : bx_same rxL (bx_mdl rxCRDX.2.2.1) S0 S) (I0 : bx_Inv rxL S) (hinv : rxIRDX_3 S0 ws S nb ap cl) (l8 : 0 ≤ nb) (u8 : nb ≤ 400) (l9 : 0 ≤ ap) (u9 : ap ≤ 1) (l10 : 0 ≤ cl) (u10 : cl ≤ 11) (l11 : 1 ≤ x11) (u11 : x11 ≤ 1) (f0 : x11 ≠ 0) (e0 : S 412 5 = x11) : (True) ∧ (True) ∧ rxIRDX_4 S0 ws S nb ap cl ∧ rxmRDX_4 S0 ws S nb ap cl < rxmRDX_3 S0 ws S nb ap cl := by
  obtain ⟨hw, S1, hR, hA⟩ := hinv
  have e5 : S 412 5 = ap := hA.1.2.2.1.trans hR.2.2.1
  have e6 := e0
  exact ⟨trivial, trivial, ⟨by omega, hw, S1, hR, hA⟩, by unfold rxmRDX_3 rxmRDX_4; omega⟩
theorem rxgRDX_3_0 {X : (Nat → Int → Int) → Prop} {S0 : Nat → Int → Int} {ws : List Int} (hP : rxPRDX S0 ws) : bx_obC rxL X S0 rxCRDX.2.2.1 (rxIRDX S0 ws) (rxmRDX S0 ws) 3 rxzRDX_3 rxoRDX_3_0 := by
  intro S S_p r r_p hinv hX hin hsm_ hseg
  obtain ⟨I0, I1, h0_, hr_, b_, f_, d_⟩ := bx_cl (evs := [(0, (0, 412), (0, 5), .inr (0, (11, 0)))]) (fvs := [(3, (11, 0), (0, 0), (0, 0))]) hseg (by decide +kernel) (by decide +kernel)
  have hinv : rxIRDX_3 S0 ws S (r 8) (r 9) (r 10) := hinv
  rw [← hr_ 8 (by decide), ← hr_ 9 (by decide), ← hr_ 10 (by decide)] at hinv
  obtain ⟨⟨l8, u8⟩, ⟨l9, u9⟩, ⟨l10, u10⟩, ⟨l11, u11⟩, -⟩ := b_
  obtain ⟨f0, -⟩ := f_
  obtain ⟨e0, w_⟩ := d_
  subst w_
  have g := rxcRDX_3_0 hP hin I0 hinv l8 u8 l9 u9 l10 u10 l11 u11 f0 e0
  refine ⟨bx_narP_ok (l := []) g.1, bx_nfP_ok h0_ (fvs := []) (by decide +kernel) g.2.1, ?_, ?_⟩
  · show rxIRDX_4 S0 ws S_p (bx_val [(0, 0), (0, 0), (0, 0), (0, 0), (0, 0), (0, 0), (0, 0), (0, 0), (8, 0), (9, 0), (10, 0)] r_p 8) (bx_val [(0, 0), (0, 0), (0, 0), (0, 0), (0, 0), (0, 0), (0, 0), (0, 0), (8, 0), (9, 0), (10, 0)] r_p 9) (bx_val [(0, 0), (0, 0), (0, 0), (0, 0), (0, 0), (0, 0), (0, 0), (0, 0), (8, 0), (9, 0), (10, 0)] r_p 10)
    rw [bx_val_x (n := 8) (e := (8, 0)) h0_ rfl, bx_val_x (n := 9) (e := (9, 0)) h0_ rfl, bx_val_x (n := 10) (e := (10, 0)) h0_ rfl]
    exact g.2.2.1
  · show rxmRDX_4 S0 ws S_p (bx_val [(0, 0), (0, 0), (0, 0), (0, 0), (0, 0), (0, 0), (0, 0), (0, 0), (8, 0), (9, 0), (10, 0)] r_p 8) (bx_val [(0, 0), (0, 0), (0, 0), (0, 0), (0, 0), (0, 0), (0, 0), (0, 0), (8, 0), (9, 0), (10, 0)] r_p 9) (bx_val [(0, 0), (0, 0), (0, 0), (0, 0), (0, 0), (0, 0), (0, 0), (0, 0), (8, 0), (9, 0), (10, 0)] r_p 10) < rxmRDX_3 S0 ws S_p (r 8) (r 9) (r 10)
    rw [bx_val_x (n := 8) (e := (8, 0)) h0_ rfl, bx_val_x (n := 9) (e := (9, 0)) h0_ rfl, bx_val_x (n := 10) (e := (10, 0)) h0_ rfl, ← hr_ 8 (by decide), ← hr_ 9 (by decide), ← hr_ 10 (by decide)]
    exact g.2.2.2
theorem rxcRDX_3_1 {S0 : Nat → Int → Int} {ws : List Int} {S : Nat → Int → Int} {nb ap cl x11 : Int} (hP : rxPRDX S0 ws) (hin : bx_same rxL (bx_mdl rxCRDX.2.2.1) S0 S) (I0 : bx_Inv rxL S) (hinv : rxIRDX_3 S0 ws S nb ap cl) (l8 : 0 ≤ nb) (u8 : nb ≤ 400) (l9 : 0 ≤ ap) (u9 : ap ≤ 1) (l10 : 0 ≤ cl) (u10 : cl ≤ 11) (l11 : 0 ≤ x11) (u11 : x11 ≤ 0) (e0 : S 412 5 = x11) : (True) ∧ (True) ∧ rxIRDX_6 S0 ws S nb ap cl ∧ rxmRDX_6 S0 ws S nb ap cl < rxmRDX_3 S0 ws S nb ap cl := by
  obtain ⟨hw, S1, hR, hA⟩ := hinv
  have e5 : S 412 5 = ap := hA.1.2.2.1.trans hR.2.2.1
  have e6 := e0
  exact ⟨trivial, trivial, ⟨by omega, hw, S1, hR, hA⟩, by unfold rxmRDX_3 rxmRDX_6; omega⟩
theorem rxgRDX_3_1 {X : (Nat → Int → Int) → Prop} {S0 : Nat → Int → Int} {ws : List Int} (hP : rxPRDX S0 ws) : bx_obC rxL X S0 rxCRDX.2.2.1 (rxIRDX S0 ws) (rxmRDX S0 ws) 3 rxzRDX_3 rxoRDX_3_1 := by
  intro S S_p r r_p hinv hX hin hsm_ hseg
  obtain ⟨I0, I1, h0_, hr_, b_, f_, d_⟩ := bx_cl (evs := [(0, (0, 412), (0, 5), .inr (0, (11, 0)))]) (fvs := []) hseg (by decide +kernel) (by decide +kernel)
  have hinv : rxIRDX_3 S0 ws S (r 8) (r 9) (r 10) := hinv
  rw [← hr_ 8 (by decide), ← hr_ 9 (by decide), ← hr_ 10 (by decide)] at hinv
  obtain ⟨⟨l8, u8⟩, ⟨l9, u9⟩, ⟨l10, u10⟩, ⟨l11, u11⟩, -⟩ := b_
  obtain ⟨e0, w_⟩ := d_
  subst w_
  have g := rxcRDX_3_1 hP hin I0 hinv l8 u8 l9 u9 l10 u10 l11 u11 e0
  refine ⟨bx_narP_ok (l := []) g.1, bx_nfP_ok h0_ (fvs := []) (by decide +kernel) g.2.1, ?_, ?_⟩
  · show rxIRDX_6 S0 ws S_p (bx_val [(0, 0), (0, 0), (0, 0), (0, 0), (0, 0), (0, 0), (0, 0), (0, 0), (8, 0), (9, 0), (10, 0)] r_p 8) (bx_val [(0, 0), (0, 0), (0, 0), (0, 0), (0, 0), (0, 0), (0, 0), (0, 0), (8, 0), (9, 0), (10, 0)] r_p 9) (bx_val [(0, 0), (0, 0), (0, 0), (0, 0), (0, 0), (0, 0), (0, 0), (0, 0), (8, 0), (9, 0), (10, 0)] r_p 10)
    rw [bx_val_x (n := 8) (e := (8, 0)) h0_ rfl, bx_val_x (n := 9) (e := (9, 0)) h0_ rfl, bx_val_x (n := 10) (e := (10, 0)) h0_ rfl]
    exact g.2.2.1
  · show rxmRDX_6 S0 ws S_p (bx_val [(0, 0), (0, 0), (0, 0), (0, 0), (0, 0), (0, 0), (0, 0), (0, 0), (8, 0), (9, 0), (10, 0)] r_p 8) (bx_val [(0, 0), (0, 0), (0, 0), (0, 0), (0, 0), (0, 0), (0, 0), (0, 0), (8, 0), (9, 0), (10, 0)] r_p 9) (bx_val [(0, 0), (0, 0), (0, 0), (0, 0), (0, 0), (0, 0), (0, 0), (0, 0), (8, 0), (9, 0), (10, 0)] r_p 10) < rxmRDX_3 S0 ws S_p (r 8) (r 9) (r 10)
    rw [bx_val_x (n := 8) (e := (8, 0)) h0_ rfl, bx_val_x (n := 9) (e := (9, 0)) h0_ rfl, bx_val_x (n := 10) (e := (10, 0)) h0_ rfl, ← hr_ 8 (by decide), ← hr_ 9 (by decide), ← hr_ 10 (by decide)]
    exact g.2.2.2
theorem rxdRDX_3_0 {S0 : Nat → Int → Int} {ws : List Int} {S : Nat → Int → Int} {nb ap cl x11 : Int} (hP : rxPRDX S0 ws) (hin : bx_same rxL (bx_mdl rxCRDX.2.2.1) S0 S) (hin2 : bx_same rxL (bx_mdl rxCRDX.2.2.1) S (bx_up S 412 4 x11)) (I0 : bx_Inv rxL S) (I1 : bx_Inv rxL (bx_up S 412 4 x11)) (hinv : rxIRDX_3 S0 ws S nb ap cl) (l8 : 0 ≤ nb) (u8 : nb ≤ 400) (l9 : 0 ≤ ap) (u9 : ap ≤ 1) (l10 : 12 ≤ cl) (u10 : cl ≤ 12) (l11 : 0 ≤ x11) (u11 : x11 ≤ 400) (e1 : S 412 2 = x11) : (True) ∧ rxPSRDX S0 ws (bx_up S 412 4 x11) (some 0) := by
  obtain ⟨hw, S1, hR, hA⟩ := hinv
  refine ⟨trivial, nb, ap, hw, rzRi_ok hR (rzAt_no hA ?_ (bx_up_at.trans e1.symm))⟩
  rw [show (12 - cl).toNat = 0 by omega]
  rfl
theorem rxfRDX_3_0 {X : (Nat → Int → Int) → Prop} {S0 : Nat → Int → Int} {ws : List Int} (hP : rxPRDX S0 ws) : bx_obE rxL X S0 rxCRDX.2.2.1 (rxIRDX S0 ws) (rxPSRDX S0 ws) 3 rxzRDX_3 rxeRDX_3_0 := by
  intro S S_p r r_p hinv hX hin hsm_ hseg
  obtain ⟨I0, I1, h0_, hr_, b_, f_, d_⟩ := bx_cl (evs := [(1, (0, 412), (0, 4), .inr (0, (11, 0))), (0, (0, 412), (0, 2), .inr (0, (11, 0)))]) (fvs := []) hseg (by decide +kernel) (by decide +kernel)
  have hinv : rxIRDX_3 S0 ws S (r 8) (r 9) (r 10) := hinv
  rw [← hr_ 8 (by decide), ← hr_ 9 (by decide), ← hr_ 10 (by decide)] at hinv
  obtain ⟨⟨l8, u8⟩, ⟨l9, u9⟩, ⟨l10, u10⟩, ⟨l11, u11⟩, -⟩ := b_
  obtain ⟨T0, ⟨e1, w_⟩, w0⟩ := d_
  subst w0
  subst w_
  have g := rxdRDX_3_0 hP hin hsm_ I0 I1 hinv l8 u8 l9 u9 l10 u10 l11 u11 e1
  refine ⟨bx_narP_ok (l := []) g.1, ?_⟩
  show rxPSRDX S0 ws (bx_up T0 412 (4) (r_p 11)) (some (bx_num r_p (.inr (0, (0, 0)))))
  rw [bx_xv_ok h0_]
  exact g.2
theorem rxcRDX_5_0 {S0 : Nat → Int → Int} {ws : List Int} {S : Nat → Int → Int} {nb ap cl res : Int} (hP : rxPRDX S0 ws) (hin : bx_same rxL (bx_mdl rxCRDX.2.2.1) S0 S) (I0 : bx_Inv rxL S) (hinv : rxIRDX_5 S0 ws S nb ap cl res) (l8 : 0 ≤ nb) (u8 : nb ≤ 400) (l9 : 0 ≤ ap) (u9 : ap ≤ 1) (l10 : 0 ≤ cl) (u10 : cl ≤ 11) (l11 : 1 ≤ res) (u11 : res ≤ 1) (f0 : res ≠ 0) : (True) ∧ (True) ∧ rxIRDX_8 S0 ws S nb ap cl ∧ rxmRDX_8 S0 ws S nb ap cl < rxmRDX_5 S0 ws S nb ap cl res := by
  obtain ⟨hw, hc⟩ := hinv
  rcases hc with ⟨z, hR⟩ | ⟨z, hR⟩
  · exact ⟨trivial, trivial, ⟨hw, hR⟩, by unfold rxmRDX_5 rxmRDX_8; omega⟩
  · exfalso
    omega
theorem rxgRDX_5_0 {X : (Nat → Int → Int) → Prop} {S0 : Nat → Int → Int} {ws : List Int} (hP : rxPRDX S0 ws) : bx_obC rxL X S0 rxCRDX.2.2.1 (rxIRDX S0 ws) (rxmRDX S0 ws) 5 rxzRDX_5 rxoRDX_5_0 := by
  intro S S_p r r_p hinv hX hin hsm_ hseg
  obtain ⟨I0, I1, h0_, hr_, b_, f_, d_⟩ := bx_cl (evs := []) (fvs := [(3, (11, 0), (0, 0), (0, 0))]) hseg (by decide +kernel) (by decide +kernel)
  have hinv : rxIRDX_5 S0 ws S (r 8) (r 9) (r 10) (r 11) := hinv
  rw [← hr_ 8 (by decide), ← hr_ 9 (by decide), ← hr_ 10 (by decide), ← hr_ 11 (by decide)] at hinv
  obtain ⟨⟨l8, u8⟩, ⟨l9, u9⟩, ⟨l10, u10⟩, ⟨l11, u11⟩, -⟩ := b_
  obtain ⟨f0, -⟩ := f_
  have w_ := d_
  subst w_
  have g := rxcRDX_5_0 hP hin I0 hinv l8 u8 l9 u9 l10 u10 l11 u11 f0
  refine ⟨bx_narP_ok (l := []) g.1, bx_nfP_ok h0_ (fvs := []) (by decide +kernel) g.2.1, ?_, ?_⟩
  · show rxIRDX_8 S0 ws S_p (bx_val [(0, 0), (0, 0), (0, 0), (0, 0), (0, 0), (0, 0), (0, 0), (0, 0), (8, 0), (9, 0), (10, 0)] r_p 8) (bx_val [(0, 0), (0, 0), (0, 0), (0, 0), (0, 0), (0, 0), (0, 0), (0, 0), (8, 0), (9, 0), (10, 0)] r_p 9) (bx_val [(0, 0), (0, 0), (0, 0), (0, 0), (0, 0), (0, 0), (0, 0), (0, 0), (8, 0), (9, 0), (10, 0)] r_p 10)
    rw [bx_val_x (n := 8) (e := (8, 0)) h0_ rfl, bx_val_x (n := 9) (e := (9, 0)) h0_ rfl, bx_val_x (n := 10) (e := (10, 0)) h0_ rfl]
    exact g.2.2.1
  · show rxmRDX_8 S0 ws S_p (bx_val [(0, 0), (0, 0), (0, 0), (0, 0), (0, 0), (0, 0), (0, 0), (0, 0), (8, 0), (9, 0), (10, 0)] r_p 8) (bx_val [(0, 0), (0, 0), (0, 0), (0, 0), (0, 0), (0, 0), (0, 0), (0, 0), (8, 0), (9, 0), (10, 0)] r_p 9) (bx_val [(0, 0), (0, 0), (0, 0), (0, 0), (0, 0), (0, 0), (0, 0), (0, 0), (8, 0), (9, 0), (10, 0)] r_p 10) < rxmRDX_5 S0 ws S_p (r 8) (r 9) (r 10) (r 11)
    rw [bx_val_x (n := 8) (e := (8, 0)) h0_ rfl, bx_val_x (n := 9) (e := (9, 0)) h0_ rfl, bx_val_x (n := 10) (e := (10, 0)) h0_ rfl, ← hr_ 8 (by decide), ← hr_ 9 (by decide), ← hr_ 10 (by decide), ← hr_ 11 (by decide)]
    exact g.2.2.2
theorem rxdRDX_5_0 {S0 : Nat → Int → Int} {ws : List Int} {S : Nat → Int → Int} {nb ap cl res : Int} (hP : rxPRDX S0 ws) (hin : bx_same rxL (bx_mdl rxCRDX.2.2.1) S0 S) (hin2 : bx_same rxL (bx_mdl rxCRDX.2.2.1) S S) (I0 : bx_Inv rxL S) (I1 : bx_Inv rxL S) (hinv : rxIRDX_5 S0 ws S nb ap cl res) (l8 : 0 ≤ nb) (u8 : nb ≤ 400) (l9 : 0 ≤ ap) (u9 : ap ≤ 1) (l10 : 0 ≤ cl) (u10 : cl ≤ 11) (l11 : 0 ≤ res) (u11 : res ≤ 0) : (True) ∧ rxPSRDX S0 ws S (some 0) := by
  obtain ⟨hw, hc⟩ := hinv
  rcases hc with ⟨z, hR⟩ | ⟨z, hR⟩
  · exfalso
    omega
  · exact ⟨trivial, nb, ap, hw, hR⟩
theorem rxfRDX_5_0 {X : (Nat → Int → Int) → Prop} {S0 : Nat → Int → Int} {ws : List Int} (hP : rxPRDX S0 ws) : bx_obE rxL X S0 rxCRDX.2.2.1 (rxIRDX S0 ws) (rxPSRDX S0 ws) 5 rxzRDX_5 rxeRDX_5_0 := by
  intro S S_p r r_p hinv hX hin hsm_ hseg
  obtain ⟨I0, I1, h0_, hr_, b_, f_, d_⟩ := bx_cl (evs := []) (fvs := []) hseg (by decide +kernel) (by decide +kernel)
  have hinv : rxIRDX_5 S0 ws S (r 8) (r 9) (r 10) (r 11) := hinv
  rw [← hr_ 8 (by decide), ← hr_ 9 (by decide), ← hr_ 10 (by decide), ← hr_ 11 (by decide)] at hinv
  obtain ⟨⟨l8, u8⟩, ⟨l9, u9⟩, ⟨l10, u10⟩, ⟨l11, u11⟩, -⟩ := b_
  have w_ := d_
  subst w_
  have g := rxdRDX_5_0 hP hin hsm_ I0 I1 hinv l8 u8 l9 u9 l10 u10 l11 u11
  refine ⟨bx_narP_ok (l := []) g.1, ?_⟩
  show rxPSRDX S0 ws S_p (some (bx_num r_p (.inr (0, (0, 0)))))
  rw [bx_xv_ok h0_]
  exact g.2
theorem rxcRDX_7_0 {S0 : Nat → Int → Int} {ws : List Int} {S : Nat → Int → Int} {nb ap cl res : Int} (hP : rxPRDX S0 ws) (hin : bx_same rxL (bx_mdl rxCRDX.2.2.1) S0 S) (I0 : bx_Inv rxL S) (hinv : rxIRDX_7 S0 ws S nb ap cl res) (l8 : 0 ≤ nb) (u8 : nb ≤ 400) (l9 : 0 ≤ ap) (u9 : ap ≤ 1) (l10 : 0 ≤ cl) (u10 : cl ≤ 11) (l11 : 1 ≤ res) (u11 : res ≤ 1) (f0 : res ≠ 0) : (True) ∧ (True) ∧ rxIRDX_8 S0 ws S nb ap cl ∧ rxmRDX_8 S0 ws S nb ap cl < rxmRDX_7 S0 ws S nb ap cl res := by
  obtain ⟨hw, hc⟩ := hinv
  rcases hc with ⟨z, hR⟩ | ⟨z, hR⟩
  · exact ⟨trivial, trivial, ⟨hw, hR⟩, by unfold rxmRDX_7 rxmRDX_8; omega⟩
  · exfalso
    omega
theorem rxgRDX_7_0 {X : (Nat → Int → Int) → Prop} {S0 : Nat → Int → Int} {ws : List Int} (hP : rxPRDX S0 ws) : bx_obC rxL X S0 rxCRDX.2.2.1 (rxIRDX S0 ws) (rxmRDX S0 ws) 7 rxzRDX_7 rxoRDX_7_0 := by
  intro S S_p r r_p hinv hX hin hsm_ hseg
  obtain ⟨I0, I1, h0_, hr_, b_, f_, d_⟩ := bx_cl (evs := []) (fvs := [(3, (11, 0), (0, 0), (0, 0))]) hseg (by decide +kernel) (by decide +kernel)
  have hinv : rxIRDX_7 S0 ws S (r 8) (r 9) (r 10) (r 11) := hinv
  rw [← hr_ 8 (by decide), ← hr_ 9 (by decide), ← hr_ 10 (by decide), ← hr_ 11 (by decide)] at hinv
  obtain ⟨⟨l8, u8⟩, ⟨l9, u9⟩, ⟨l10, u10⟩, ⟨l11, u11⟩, -⟩ := b_
  obtain ⟨f0, -⟩ := f_
  have w_ := d_
  subst w_
  have g := rxcRDX_7_0 hP hin I0 hinv l8 u8 l9 u9 l10 u10 l11 u11 f0
  refine ⟨bx_narP_ok (l := []) g.1, bx_nfP_ok h0_ (fvs := []) (by decide +kernel) g.2.1, ?_, ?_⟩
  · show rxIRDX_8 S0 ws S_p (bx_val [(0, 0), (0, 0), (0, 0), (0, 0), (0, 0), (0, 0), (0, 0), (0, 0), (8, 0), (9, 0), (10, 0)] r_p 8) (bx_val [(0, 0), (0, 0), (0, 0), (0, 0), (0, 0), (0, 0), (0, 0), (0, 0), (8, 0), (9, 0), (10, 0)] r_p 9) (bx_val [(0, 0), (0, 0), (0, 0), (0, 0), (0, 0), (0, 0), (0, 0), (0, 0), (8, 0), (9, 0), (10, 0)] r_p 10)
    rw [bx_val_x (n := 8) (e := (8, 0)) h0_ rfl, bx_val_x (n := 9) (e := (9, 0)) h0_ rfl, bx_val_x (n := 10) (e := (10, 0)) h0_ rfl]
    exact g.2.2.1
  · show rxmRDX_8 S0 ws S_p (bx_val [(0, 0), (0, 0), (0, 0), (0, 0), (0, 0), (0, 0), (0, 0), (0, 0), (8, 0), (9, 0), (10, 0)] r_p 8) (bx_val [(0, 0), (0, 0), (0, 0), (0, 0), (0, 0), (0, 0), (0, 0), (0, 0), (8, 0), (9, 0), (10, 0)] r_p 9) (bx_val [(0, 0), (0, 0), (0, 0), (0, 0), (0, 0), (0, 0), (0, 0), (0, 0), (8, 0), (9, 0), (10, 0)] r_p 10) < rxmRDX_7 S0 ws S_p (r 8) (r 9) (r 10) (r 11)
    rw [bx_val_x (n := 8) (e := (8, 0)) h0_ rfl, bx_val_x (n := 9) (e := (9, 0)) h0_ rfl, bx_val_x (n := 10) (e := (10, 0)) h0_ rfl, ← hr_ 8 (by decide), ← hr_ 9 (by decide), ← hr_ 10 (by decide), ← hr_ 11 (by decide)]
    exact g.2.2.2
theorem rxdRDX_7_0 {S0 : Nat → Int → Int} {ws : List Int} {S : Nat → Int → Int} {nb ap cl res : Int} (hP : rxPRDX S0 ws) (hin : bx_same rxL (bx_mdl rxCRDX.2.2.1) S0 S) (hin2 : bx_same rxL (bx_mdl rxCRDX.2.2.1) S S) (I0 : bx_Inv rxL S) (I1 : bx_Inv rxL S) (hinv : rxIRDX_7 S0 ws S nb ap cl res) (l8 : 0 ≤ nb) (u8 : nb ≤ 400) (l9 : 0 ≤ ap) (u9 : ap ≤ 1) (l10 : 0 ≤ cl) (u10 : cl ≤ 11) (l11 : 0 ≤ res) (u11 : res ≤ 0) : (True) ∧ rxPSRDX S0 ws S (some 0) := by
  obtain ⟨hw, hc⟩ := hinv
  rcases hc with ⟨z, hR⟩ | ⟨z, hR⟩
  · exfalso
    omega
  · exact ⟨trivial, nb, ap, hw, hR⟩
theorem rxfRDX_7_0 {X : (Nat → Int → Int) → Prop} {S0 : Nat → Int → Int} {ws : List Int} (hP : rxPRDX S0 ws) : bx_obE rxL X S0 rxCRDX.2.2.1 (rxIRDX S0 ws) (rxPSRDX S0 ws) 7 rxzRDX_7 rxeRDX_7_0 := by
  intro S S_p r r_p hinv hX hin hsm_ hseg
  obtain ⟨I0, I1, h0_, hr_, b_, f_, d_⟩ := bx_cl (evs := []) (fvs := []) hseg (by decide +kernel) (by decide +kernel)
  have hinv : rxIRDX_7 S0 ws S (r 8) (r 9) (r 10) (r 11) := hinv
  rw [← hr_ 8 (by decide), ← hr_ 9 (by decide), ← hr_ 10 (by decide), ← hr_ 11 (by decide)] at hinv
  obtain ⟨⟨l8, u8⟩, ⟨l9, u9⟩, ⟨l10, u10⟩, ⟨l11, u11⟩, -⟩ := b_
  have w_ := d_
  subst w_
  have g := rxdRDX_7_0 hP hin hsm_ I0 I1 hinv l8 u8 l9 u9 l10 u10 l11 u11
  refine ⟨bx_narP_ok (l := []) g.1, ?_⟩
  show rxPSRDX S0 ws S_p (some (bx_num r_p (.inr (0, (0, 0)))))
  rw [bx_xv_ok h0_]
  exact g.2
theorem rxcRDX_9_0 {S0 : Nat → Int → Int} {ws : List Int} {S : Nat → Int → Int} {nb ap cl res x12 x13 x14 : Int} (hP : rxPRDX S0 ws) (hin : bx_same rxL (bx_mdl rxCRDX.2.2.1) S0 S) (I0 : bx_Inv rxL S) (hinv : rxIRDX_9 S0 ws S nb ap cl res) (l8 : 0 ≤ nb) (u8 : nb ≤ 400) (l9 : 0 ≤ ap) (u9 : ap ≤ 1) (l10 : 0 ≤ cl) (u10 : cl ≤ 11) (l11 : 1 ≤ res) (u11 : res ≤ 1) (l12 : 0 ≤ x12) (u12 : x12 ≤ 399) (l13 : 1 ≤ x13) (u13 : x13 ≤ 400) (l14 : 59 ≤ x14) (u14 : x14 ≤ 59) (f0 : x12 < x13) (f1 : x12 < x13) (f2 : res ≠ 0) (e2 : S 412 2 = x12) (e1 : S 412 1 = x13) (e0 : S 411 x12 = x14) : (True) ∧ (True) ∧ rxIRDX_10 S0 ws S nb ap cl ∧ rxmRDX_10 S0 ws S nb ap cl < rxmRDX_9 S0 ws S nb ap cl res := by
  obtain ⟨hw, hc⟩ := hinv
  rcases hc with ⟨z, S1, hR, hA⟩ | ⟨z, hR⟩
  · have a1 : S 412 1 = nb := hA.1.2.1.trans hR.2.1
    have eT : rzCut (S 411) = rzCut (S0 411) := hA.1.1.trans hR.1
    refine ⟨trivial, trivial, ⟨hw, S1, hR, hA, ?_⟩, by unfold rxmRDX_9 rxmRDX_10; omega⟩
    rw [← eT]
    refine decide_eq_true ⟨by omega, ?_⟩
    rw [show S 412 2 = x12 from e2]
    exact rzCut_at (e0.trans (by omega)) (by omega) (by omega)
  · exfalso
    omega
theorem rxgRDX_9_0 {X : (Nat → Int → Int) → Prop} {S0 : Nat → Int → Int} {ws : List Int} (hP : rxPRDX S0 ws) : bx_obC rxL X S0 rxCRDX.2.2.1 (rxIRDX S0 ws) (rxmRDX S0 ws) 9 rxzRDX_9 rxoRDX_9_0 := by
  intro S S_p r r_p hinv hX hin hsm_ hseg
  obtain ⟨I0, I1, h0_, hr_, b_, f_, d_⟩ := bx_cl (evs := [(0, (0, 411), (12, 0), .inr (0, (14, 0))), (0, (0, 412), (0, 1), .inr (0, (13, 0))), (0, (0, 412), (0, 2), .inr (0, (12, 0)))]) (fvs := [(0, (12, 0), (13, 0), (0, 0)), (0, (12, 0), (13, 0), (0, 0)), (3, (11, 0), (0, 0), (0, 0))]) hseg (by decide +kernel) (by decide +kernel)
  have hinv : rxIRDX_9 S0 ws S (r 8) (r 9) (r 10) (r 11) := hinv
  rw [← hr_ 8 (by decide), ← hr_ 9 (by decide), ← hr_ 10 (by decide), ← hr_ 11 (by decide)] at hinv
  obtain ⟨⟨l8, u8⟩, ⟨l9, u9⟩, ⟨l10, u10⟩, ⟨l11, u11⟩, ⟨l12, u12⟩, ⟨l13, u13⟩, ⟨l14, u14⟩, -⟩ := b_
  obtain ⟨f0, f1, f2, -⟩ := f_
  obtain ⟨e0, ⟨e1, ⟨e2, w_⟩⟩⟩ := d_
  subst w_
  have g := rxcRDX_9_0 hP hin I0 hinv l8 u8 l9 u9 l10 u10 l11 u11 l12 u12 l13 u13 l14 u14 f0 f1 f2 e2 e1 e0
  refine ⟨bx_narP_ok (l := []) g.1, bx_nfP_ok h0_ (fvs := []) (by decide +kernel) g.2.1, ?_, ?_⟩
  · show rxIRDX_10 S0 ws S_p (bx_val [(0, 0), (0, 0), (0, 0), (0, 0), (0, 0), (0, 0), (0, 0), (0, 0), (8, 0), (9, 0), (10, 0)] r_p 8) (bx_val [(0, 0), (0, 0), (0, 0), (0, 0), (0, 0), (0, 0), (0, 0), (0, 0), (8, 0), (9, 0), (10, 0)] r_p 9) (bx_val [(0, 0), (0, 0), (0, 0), (0, 0), (0, 0), (0, 0), (0, 0), (0, 0), (8, 0), (9, 0), (10, 0)] r_p 10)
    rw [bx_val_x (n := 8) (e := (8, 0)) h0_ rfl, bx_val_x (n := 9) (e := (9, 0)) h0_ rfl, bx_val_x (n := 10) (e := (10, 0)) h0_ rfl]
    exact g.2.2.1
  · show rxmRDX_10 S0 ws S_p (bx_val [(0, 0), (0, 0), (0, 0), (0, 0), (0, 0), (0, 0), (0, 0), (0, 0), (8, 0), (9, 0), (10, 0)] r_p 8) (bx_val [(0, 0), (0, 0), (0, 0), (0, 0), (0, 0), (0, 0), (0, 0), (0, 0), (8, 0), (9, 0), (10, 0)] r_p 9) (bx_val [(0, 0), (0, 0), (0, 0), (0, 0), (0, 0), (0, 0), (0, 0), (0, 0), (8, 0), (9, 0), (10, 0)] r_p 10) < rxmRDX_9 S0 ws S_p (r 8) (r 9) (r 10) (r 11)
    rw [bx_val_x (n := 8) (e := (8, 0)) h0_ rfl, bx_val_x (n := 9) (e := (9, 0)) h0_ rfl, bx_val_x (n := 10) (e := (10, 0)) h0_ rfl, ← hr_ 8 (by decide), ← hr_ 9 (by decide), ← hr_ 10 (by decide), ← hr_ 11 (by decide)]
    exact g.2.2.2
theorem rxdRDX_9_0 {S0 : Nat → Int → Int} {ws : List Int} {S : Nat → Int → Int} {nb ap cl res : Int} (hP : rxPRDX S0 ws) (hin : bx_same rxL (bx_mdl rxCRDX.2.2.1) S0 S) (hin2 : bx_same rxL (bx_mdl rxCRDX.2.2.1) S S) (I0 : bx_Inv rxL S) (I1 : bx_Inv rxL S) (hinv : rxIRDX_9 S0 ws S nb ap cl res) (l8 : 0 ≤ nb) (u8 : nb ≤ 400) (l9 : 0 ≤ ap) (u9 : ap ≤ 1) (l10 : 0 ≤ cl) (u10 : cl ≤ 11) (l11 : 0 ≤ res) (u11 : res ≤ 0) : (True) ∧ rxPSRDX S0 ws S (some 0) := by
  obtain ⟨hw, hc⟩ := hinv
  rcases hc with ⟨z, hR⟩ | ⟨z, hR⟩
  · exfalso
    omega
  · exact ⟨trivial, nb, ap, hw, hR⟩
theorem rxfRDX_9_0 {X : (Nat → Int → Int) → Prop} {S0 : Nat → Int → Int} {ws : List Int} (hP : rxPRDX S0 ws) : bx_obE rxL X S0 rxCRDX.2.2.1 (rxIRDX S0 ws) (rxPSRDX S0 ws) 9 rxzRDX_9 rxeRDX_9_0 := by
  intro S S_p r r_p hinv hX hin hsm_ hseg
  obtain ⟨I0, I1, h0_, hr_, b_, f_, d_⟩ := bx_cl (evs := []) (fvs := []) hseg (by decide +kernel) (by decide +kernel)
  have hinv : rxIRDX_9 S0 ws S (r 8) (r 9) (r 10) (r 11) := hinv
  rw [← hr_ 8 (by decide), ← hr_ 9 (by decide), ← hr_ 10 (by decide), ← hr_ 11 (by decide)] at hinv
  obtain ⟨⟨l8, u8⟩, ⟨l9, u9⟩, ⟨l10, u10⟩, ⟨l11, u11⟩, -⟩ := b_
  have w_ := d_
  subst w_
  have g := rxdRDX_9_0 hP hin hsm_ I0 I1 hinv l8 u8 l9 u9 l10 u10 l11 u11
  refine ⟨bx_narP_ok (l := []) g.1, ?_⟩
  show rxPSRDX S0 ws S_p (some (bx_num r_p (.inr (0, (0, 0)))))
  rw [bx_xv_ok h0_]
  exact g.2
theorem rxdRDX_9_1 {S0 : Nat → Int → Int} {ws : List Int} {S : Nat → Int → Int} {nb ap cl res x12 x13 : Int} (hP : rxPRDX S0 ws) (hin : bx_same rxL (bx_mdl rxCRDX.2.2.1) S0 S) (hin2 : bx_same rxL (bx_mdl rxCRDX.2.2.1) S S) (I0 : bx_Inv rxL S) (I1 : bx_Inv rxL S) (hinv : rxIRDX_9 S0 ws S nb ap cl res) (l8 : 0 ≤ nb) (u8 : nb ≤ 400) (l9 : 0 ≤ ap) (u9 : ap ≤ 1) (l10 : 0 ≤ cl) (u10 : cl ≤ 11) (l11 : 1 ≤ res) (u11 : res ≤ 1) (l12 : 0 ≤ x12) (u12 : x12 ≤ 400) (l13 : 0 ≤ x13) (u13 : x13 ≤ 400) (f0 : x13 ≤ x12) (f1 : res ≠ 0) (e1 : S 412 2 = x12) (e0 : S 412 1 = x13) : (True) ∧ rxPSRDX S0 ws S (some 1) := by
  obtain ⟨hw, hc⟩ := hinv
  rcases hc with ⟨z, S1, hR, hA⟩ | ⟨z, hR⟩
  · have a1 : S 412 1 = nb := hA.1.2.1.trans hR.2.1
    have eT : rzCut (S 411) = rzCut (S0 411) := hA.1.1.trans hR.1
    have a2 : S 412 2 = x12 := e1
    have a3 : S 412 1 = x13 := e0
    exact ⟨trivial, nb, ap, hw, rzRi_ok hR (rzAt_yes hA (rzAlt_n (decide_eq_false fun g => by have := g.1; omega) (rzAlt_y (decide_eq_true (by omega)) rfl)))⟩
  · exfalso
    omega
theorem rxfRDX_9_1 {X : (Nat → Int → Int) → Prop} {S0 : Nat → Int → Int} {ws : List Int} (hP : rxPRDX S0 ws) : bx_obE rxL X S0 rxCRDX.2.2.1 (rxIRDX S0 ws) (rxPSRDX S0 ws) 9 rxzRDX_9 rxeRDX_9_1 := by
  intro S S_p r r_p hinv hX hin hsm_ hseg
  obtain ⟨I0, I1, h0_, hr_, b_, f_, d_⟩ := bx_cl (evs := [(0, (0, 412), (0, 1), .inr (0, (13, 0))), (0, (0, 412), (0, 2), .inr (0, (12, 0)))]) (fvs := [(1, (13, 0), (12, 0), (0, 0)), (3, (11, 0), (0, 0), (0, 0))]) hseg (by decide +kernel) (by decide +kernel)
  have hinv : rxIRDX_9 S0 ws S (r 8) (r 9) (r 10) (r 11) := hinv
  rw [← hr_ 8 (by decide), ← hr_ 9 (by decide), ← hr_ 10 (by decide), ← hr_ 11 (by decide)] at hinv
  obtain ⟨⟨l8, u8⟩, ⟨l9, u9⟩, ⟨l10, u10⟩, ⟨l11, u11⟩, ⟨l12, u12⟩, ⟨l13, u13⟩, -⟩ := b_
  obtain ⟨f0, f1, -⟩ := f_
  obtain ⟨e0, ⟨e1, w_⟩⟩ := d_
  subst w_
  have g := rxdRDX_9_1 hP hin hsm_ I0 I1 hinv l8 u8 l9 u9 l10 u10 l11 u11 l12 u12 l13 u13 f0 f1 e1 e0
  refine ⟨bx_narP_ok (l := []) g.1, ?_⟩
  show rxPSRDX S0 ws S_p (some (bx_num r_p (.inr (0, (0, 1)))))
  rw [bx_xv_ok h0_]
  exact g.2
theorem rxdRDX_9_2 {S0 : Nat → Int → Int} {ws : List Int} {S : Nat → Int → Int} {nb ap cl res x12 x13 x14 : Int} (hP : rxPRDX S0 ws) (hin : bx_same rxL (bx_mdl rxCRDX.2.2.1) S0 S) (hin2 : bx_same rxL (bx_mdl rxCRDX.2.2.1) S (bx_up S 412 4 x12)) (I0 : bx_Inv rxL S) (I1 : bx_Inv rxL (bx_up S 412 4 x12)) (hinv : rxIRDX_9 S0 ws S nb ap cl res) (l8 : 0 ≤ nb) (u8 : nb ≤ 400) (l9 : 0 ≤ ap) (u9 : ap ≤ 1) (l10 : 0 ≤ cl) (u10 : cl ≤ 11) (l11 : 1 ≤ res) (u11 : res ≤ 1) (l12 : 0 ≤ x12) (u12 : x12 ≤ 399) (l13 : 1 ≤ x13) (u13 : x13 ≤ 400) (l14 : 0 ≤ x14) (u14 : x14 ≤ 255) (f0 : x14 ≠ 59) (f1 : x12 < x13) (f2 : x12 < x13) (f3 : res ≠ 0) (e3 : S 412 2 = x12) (e2 : S 412 1 = x13) (e1 : S 411 x12 = x14) : (True) ∧ rxPSRDX S0 ws (bx_up S 412 4 x12) (some 0) := by
  obtain ⟨hw, hc⟩ := hinv
  rcases hc with ⟨z, S1, hR, hA⟩ | ⟨z, hR⟩
  · have a1 : S 412 1 = nb := hA.1.2.1.trans hR.2.1
    have eT : rzCut (S 411) = rzCut (S0 411) := hA.1.1.trans hR.1
    have a2 : S 412 2 = x12 := e3
    have a3 : S 412 1 = x13 := e2
    have a4 : rzCut (S0 411) (S 412 2) = x14 := by
      rw [a2, ← eT]
      exact rzCut_at (e1) (by omega) (by omega)
    exact ⟨trivial, nb, ap, hw, rzRi_ok hR (rzAt_no hA (rzAlt_n (decide_eq_false fun g => by have := g.2; omega) (rzAlt_n (decide_eq_false (by omega)) rfl)) (bx_up_at.trans e3.symm))⟩
  · exfalso
    omega
theorem rxfRDX_9_2 {X : (Nat → Int → Int) → Prop} {S0 : Nat → Int → Int} {ws : List Int} (hP : rxPRDX S0 ws) : bx_obE rxL X S0 rxCRDX.2.2.1 (rxIRDX S0 ws) (rxPSRDX S0 ws) 9 rxzRDX_9 rxeRDX_9_2 := by
  intro S S_p r r_p hinv hX hin hsm_ hseg
  obtain ⟨I0, I1, h0_, hr_, b_, f_, d_⟩ := bx_cl (evs := [(1, (0, 412), (0, 4), .inr (0, (12, 0))), (0, (0, 411), (12, 0), .inr (0, (14, 0))), (0, (0, 412), (0, 1), .inr (0, (13, 0))), (0, (0, 412), (0, 2), .inr (0, (12, 0)))]) (fvs := [(3, (14, 0), (0, 59), (0, 0)), (0, (12, 0), (13, 0), (0, 0)), (0, (12, 0), (13, 0), (0, 0)), (3, (11, 0), (0, 0), (0, 0))]) hseg (by decide +kernel) (by decide +kernel)
  have hinv : rxIRDX_9 S0 ws S (r 8) (r 9) (r 10) (r 11) := hinv
  rw [← hr_ 8 (by decide), ← hr_ 9 (by decide), ← hr_ 10 (by decide), ← hr_ 11 (by decide)] at hinv
  obtain ⟨⟨l8, u8⟩, ⟨l9, u9⟩, ⟨l10, u10⟩, ⟨l11, u11⟩, ⟨l12, u12⟩, ⟨l13, u13⟩, ⟨l14, u14⟩, -⟩ := b_
  obtain ⟨f0, f1, f2, f3, -⟩ := f_
  obtain ⟨T0, ⟨e1, ⟨e2, ⟨e3, w_⟩⟩⟩, w0⟩ := d_
  subst w0
  subst w_
  have g := rxdRDX_9_2 hP hin hsm_ I0 I1 hinv l8 u8 l9 u9 l10 u10 l11 u11 l12 u12 l13 u13 l14 u14 f0 f1 f2 f3 e3 e2 e1
  refine ⟨bx_narP_ok (l := []) g.1, ?_⟩
  show rxPSRDX S0 ws (bx_up T0 412 (4) (r_p 12)) (some (bx_num r_p (.inr (0, (0, 0)))))
  rw [bx_xv_ok h0_]
  exact g.2
theorem rxcRDX_11_0 {S0 : Nat → Int → Int} {ws : List Int} {S : Nat → Int → Int} {nb ap cl : Int} (hP : rxPRDX S0 ws) (hin : bx_same rxL (bx_mdl rxCRDX.2.2.1) S0 S) (I0 : bx_Inv rxL S) (hinv : rxIRDX_11 S0 ws S nb ap cl) (l8 : 0 ≤ nb) (u8 : nb ≤ 400) (l9 : 0 ≤ ap) (u9 : ap ≤ 1) (l10 : 0 ≤ cl) (u10 : cl ≤ 11) : (True) ∧ (True) ∧ rxIRDX_3 S0 ws S nb ap (cl + 1) ∧ rxmRDX_3 S0 ws S nb ap (cl + 1) < rxmRDX_11 S0 ws S nb ap cl := by
  obtain ⟨hw, hR⟩ := hinv
  refine ⟨trivial, trivial, ⟨hw, ?_⟩, by unfold rxmRDX_11 rxmRDX_3; omega⟩
  rw [show (12 - (cl + 1)).toNat = (11 - cl).toNat by omega]
  exact hR
theorem rxgRDX_11_0 {X : (Nat → Int → Int) → Prop} {S0 : Nat → Int → Int} {ws : List Int} (hP : rxPRDX S0 ws) : bx_obC rxL X S0 rxCRDX.2.2.1 (rxIRDX S0 ws) (rxmRDX S0 ws) 11 rxzRDX_11 rxoRDX_11_0 := by
  intro S S_p r r_p hinv hX hin hsm_ hseg
  obtain ⟨I0, I1, h0_, hr_, b_, f_, d_⟩ := bx_cl (evs := []) (fvs := []) hseg (by decide +kernel) (by decide +kernel)
  have hinv : rxIRDX_11 S0 ws S (r 8) (r 9) (r 10) := hinv
  rw [← hr_ 8 (by decide), ← hr_ 9 (by decide), ← hr_ 10 (by decide)] at hinv
  obtain ⟨⟨l8, u8⟩, ⟨l9, u9⟩, ⟨l10, u10⟩, -⟩ := b_
  have w_ := d_
  subst w_
  have g := rxcRDX_11_0 hP hin I0 hinv l8 u8 l9 u9 l10 u10
  refine ⟨bx_narP_ok (l := []) g.1, bx_nfP_ok h0_ (fvs := []) (by decide +kernel) g.2.1, ?_, ?_⟩
  · show rxIRDX_3 S0 ws S_p (bx_val [(0, 0), (0, 0), (0, 0), (0, 0), (0, 0), (0, 0), (0, 0), (0, 0), (8, 0), (9, 0), (10, 1)] r_p 8) (bx_val [(0, 0), (0, 0), (0, 0), (0, 0), (0, 0), (0, 0), (0, 0), (0, 0), (8, 0), (9, 0), (10, 1)] r_p 9) (bx_val [(0, 0), (0, 0), (0, 0), (0, 0), (0, 0), (0, 0), (0, 0), (0, 0), (8, 0), (9, 0), (10, 1)] r_p 10)
    rw [bx_val_x (n := 8) (e := (8, 0)) h0_ rfl, bx_val_x (n := 9) (e := (9, 0)) h0_ rfl, bx_val_x (n := 10) (e := (10, 1)) h0_ rfl]
    exact g.2.2.1
  · show rxmRDX_3 S0 ws S_p (bx_val [(0, 0), (0, 0), (0, 0), (0, 0), (0, 0), (0, 0), (0, 0), (0, 0), (8, 0), (9, 0), (10, 1)] r_p 8) (bx_val [(0, 0), (0, 0), (0, 0), (0, 0), (0, 0), (0, 0), (0, 0), (0, 0), (8, 0), (9, 0), (10, 1)] r_p 9) (bx_val [(0, 0), (0, 0), (0, 0), (0, 0), (0, 0), (0, 0), (0, 0), (0, 0), (8, 0), (9, 0), (10, 1)] r_p 10) < rxmRDX_11 S0 ws S_p (r 8) (r 9) (r 10)
    rw [bx_val_x (n := 8) (e := (8, 0)) h0_ rfl, bx_val_x (n := 9) (e := (9, 0)) h0_ rfl, bx_val_x (n := 10) (e := (10, 1)) h0_ rfl, ← hr_ 8 (by decide), ← hr_ 9 (by decide), ← hr_ 10 (by decide)]
    exact g.2.2.2
theorem rxgCRDX {X : (Nat → Int → Int) → Prop} {S0 : Nat → Int → Int} {ws : List Int} (hP : rxPRDX S0 ws) : bx_allI (fun i q => rxURDX q = true ∨ bx_allP (fun o => bx_obC rxL X S0 rxCRDX.2.2.1 (rxIRDX S0 ws) (rxmRDX S0 ws) i q.1 o) q.2.1) 0 rxYRDX := ⟨Or.inr ⟨rxgRDX_0_0 hP, trivial⟩, Or.inl rfl, Or.inr ⟨rxgRDX_2_0 hP, trivial⟩, Or.inr ⟨rxgRDX_3_0 hP, rxgRDX_3_1 hP, trivial⟩, Or.inl rfl, Or.inr ⟨rxgRDX_5_0 hP, trivial⟩, Or.inl rfl, Or.inr ⟨rxgRDX_7_0 hP, trivial⟩, Or.inl rfl, Or.inr ⟨rxgRDX_9_0 hP, trivial⟩, Or.inl rfl, Or.inr ⟨rxgRDX_11_0 hP, trivial⟩, trivial⟩
theorem rxgERDX {X : (Nat → Int → Int) → Prop} {S0 : Nat → Int → Int} {ws : List Int} (hP : rxPRDX S0 ws) : bx_allI (fun i q => rxURDX q = true ∨ bx_allP (fun E => bx_obE rxL X S0 rxCRDX.2.2.1 (rxIRDX S0 ws) (rxPSRDX S0 ws) i q.1 E) q.2.2) 0 rxYRDX := ⟨Or.inr trivial, Or.inl rfl, Or.inr trivial, Or.inr ⟨rxfRDX_3_0 hP, trivial⟩, Or.inl rfl, Or.inr ⟨rxfRDX_5_0 hP, trivial⟩, Or.inl rfl, Or.inr ⟨rxfRDX_7_0 hP, trivial⟩, Or.inl rfl, Or.inr ⟨rxfRDX_9_0 hP, rxfRDX_9_1 hP, rxfRDX_9_2 hP, trivial⟩, Or.inl rfl, Or.inr trivial, trivial⟩
theorem rxuRDX {PX : State → Prop} {Dg : va_G} {A : Nat → Prop} {ad xa : Nat → Nat} {l : Launch} {X : (Nat → Int → Int) → Prop} (hPX : rx_PXOK rxNW A PX) (hX : ∀ S S1 : Nat → Int → Int, X S → bx_same rxL (bx_mdl rxCRDX.2.2.1) S S1 → X S1) (hQAD : bx_ConP rxG rxNW rxAO PX Dg rxL X vwCl A ad l rxM84 rxC84 rxPAD rxPSAD) (hQRPC : bx_ConP rxG rxNW rxAO PX Dg rxL X vwCl A ad l rxM85 rxCRPC rxPRPC rxPSRPC) (hQRLC : bx_ConP rxG rxNW rxAO PX Dg rxL X vwCl A ad l rxM86 rxCRLC rxPRLC rxPSRLC) (hQRIF : bx_ConP rxG rxNW rxAO PX Dg rxL X vwCl A ad l rxM87 rxCRIF rxPRIF rxPSRIF) {S0 : Nat → Int → Int} {ws : List Int} (hP : rxPRDX S0 ws) : ∀ (i : Nat) (q : bx_HE), rxYRDX[i]? = some q → rxURDX q = true → ∀ {p : Program} {e : Env} {R : Room} {s : State} {m : MethodId} {args : Array Value} {below : List Frame} {meth : Method} {c : Code} {Q : State → Prop} {H0 : Heap}, rx_Fr rxG rxNW rxAO PX p s m args meth c rxM119 → (∀ q, H0.size ≤ q → A q) → H0 = s.heap → rxM119.2.2.2.2.2.2.1 ≤ R.cells → rxM119.2.2.2.2.2.2.2 ≤ R.slots → rxCRDX.2.2.2.1 ≤ R.frames → rxCRDX.2.2.2.1 * 40 ≤ R.locals → bx_Step p l e R s m args below meth c Q Dg rxL X vwCl A xa H0 ad rxM119 rxYRDX (rxIRDX S0 ws) (rxmRDX S0 ws) S0 rxCRDX.2.2.1 i q := by
  intro i q hq hus p e R s m args below meth c Q H0 hF hA hH0 hmc hms hd hdl
  match i, hq with
  | 0, hq =>
    cases hq
    exact absurd (show false = true from hus) Bool.false_ne_true
  | 1, hq =>
    cases hq
    exact rx_stepC (ins := .invokevirtual 66) (len := 3) (i_p := 2) (M_p := rxM84) (d := rxCRDX.2.2.2.1) (as := [.inr (3, (0, 412))]) (t := []) (ct := rxC84) hPX hF rfl hA hH0 hmc hms hd hdl (by decide +kernel) rfl rfl (by decide +kernel) (by decide +kernel) hQAD (by decide +kernel) rfl (Or.inl ⟨rfl, rfl, rfl⟩) (rxsRDX_1 hP)
  | 2, hq =>
    cases hq
    exact absurd (show false = true from hus) Bool.false_ne_true
  | 3, hq =>
    cases hq
    exact absurd (show false = true from hus) Bool.false_ne_true
  | 4, hq =>
    cases hq
    exact rx_stepC (ins := .invokevirtual 69) (len := 3) (i_p := 5) (M_p := rxM85) (d := rxCRDX.2.2.2.1) (as := [.inr (3, (0, 412))]) (t := []) (ct := rxCRPC) hPX hF rfl hA hH0 hmc hms hd hdl (by decide +kernel) rfl rfl (by decide +kernel) (by decide +kernel) hQRPC (by decide +kernel) rfl (Or.inr ⟨_, _, _, 1, rfl, rfl, by omega, rfl, rfl, rfl⟩) (rxsRDX_4 hP)
  | 5, hq =>
    cases hq
    exact absurd (show false = true from hus) Bool.false_ne_true
  | 6, hq =>
    cases hq
    exact rx_stepC (ins := .invokevirtual 73) (len := 3) (i_p := 7) (M_p := rxM86) (d := rxCRDX.2.2.2.1) (as := [.inr (3, (0, 412))]) (t := []) (ct := rxCRLC) hPX hF rfl hA hH0 hmc hms hd hdl (by decide +kernel) rfl rfl (by decide +kernel) (by decide +kernel) hQRLC (by decide +kernel) rfl (Or.inr ⟨_, _, _, 1, rfl, rfl, by omega, rfl, rfl, rfl⟩) (rxsRDX_6 hP)
  | 7, hq =>
    cases hq
    exact absurd (show false = true from hus) Bool.false_ne_true
  | 8, hq =>
    cases hq
    exact rx_stepC (ins := .invokevirtual 76) (len := 3) (i_p := 9) (M_p := rxM87) (d := rxCRDX.2.2.2.1) (as := [.inr (3, (0, 412))]) (t := []) (ct := rxCRIF) hPX hF rfl hA hH0 hmc hms hd hdl (by decide +kernel) rfl rfl (by decide +kernel) (by decide +kernel) hQRIF (by decide +kernel) rfl (Or.inr ⟨_, _, _, 1, rfl, rfl, by omega, rfl, rfl, rfl⟩) (rxsRDX_8 hP)
  | 9, hq =>
    cases hq
    exact absurd (show false = true from hus) Bool.false_ne_true
  | 10, hq =>
    cases hq
    exact rx_stepC (ins := .invokevirtual 66) (len := 3) (i_p := 11) (M_p := rxM84) (d := rxCRDX.2.2.2.1) (as := [.inr (3, (0, 412))]) (t := []) (ct := rxC84) hPX hF rfl hA hH0 hmc hms hd hdl (by decide +kernel) rfl rfl (by decide +kernel) (by decide +kernel) hQAD (by decide +kernel) rfl (Or.inl ⟨rfl, rfl, rfl⟩) (rxsRDX_10 hP)
  | 11, hq =>
    cases hq
    exact absurd (show false = true from hus) Bool.false_ne_true
  | n + 12, hq => cases hq
theorem rxQRDX {PX : State → Prop} {Dg : va_G} {A : Nat → Prop} {ad xa : Nat → Nat} {l : Launch} {X : (Nat → Int → Int) → Prop} (hPX : rx_PXOK rxNW A PX) (hsl : ∀ s : State, PX s → ∀ o idx n : Nat, rxSl o idx = some n → ∃ tx : String, vk_R (rxNm o) idx tx (ad n) s)
    (hX : ∀ S S_p : Nat → Int → Int, X S → bx_same rxL (bx_mdl rxCRDX.2.2.1) S S_p → X S_p)
    (ih : ∀ (j2 : Nat) (ct2 : bx_Ct) (M2 : rx_Mt), ct2 ∈ rxCnE j2 → ct2.2.2.2.1 + 1 ≤ rxCRDX.2.2.2.1 → rxT.2.2.2.2.2 j2 = some M2 → bx_Con rxG rxNW rxAO PX Dg rxL X vwCl A ad l M2 ct2) (hQAD : bx_ConP rxG rxNW rxAO PX Dg rxL X vwCl A ad l rxM84 rxC84 rxPAD rxPSAD) (hQRPC : bx_ConP rxG rxNW rxAO PX Dg rxL X vwCl A ad l rxM85 rxCRPC rxPRPC rxPSRPC) (hQRLC : bx_ConP rxG rxNW rxAO PX Dg rxL X vwCl A ad l rxM86 rxCRLC rxPRLC rxPSRLC) (hQRIF : bx_ConP rxG rxNW rxAO PX Dg rxL X vwCl A ad l rxM87 rxCRIF rxPRIF rxPSRIF) : bx_ConP rxG rxNW rxAO PX Dg rxL X vwCl A ad l rxM119 rxCRDX rxPRDX rxPSRDX :=
  rxQof (xa := xa) (Cn := rxCnE) (f := 30000) (j := 119) (tab := rxYRDX) (us := rxURDX) hPX hsl hX ih rfl rxYcRDX rxIRDX rxmRDX
    (fun S0 ws r I0 I ht0 ht as he he1 hX0 hI0 hP hs ha => by
      have e := he.symm.trans (show bx_ent0 rxNP rxCRDX.1 bx_I0 [] = some ([(0, 0), (0, 0), (0, 0), (0, 0), (0, 0), (0, 0), (0, 0), (0, 0), (0, 400), (0, 1)], [], [.inr (3, (0, 412)), .inr (3, (0, 411)), .inr (0, (8, 0)), .inr (0, (9, 0)), .inr (3, (0, 427))]) from rfl)
      cases e
      subst ha
      have h0 : r 0 = 0 := hs.1
      show rxIRDX_0 S0 _ S0 (r 8) (r 9)
      refine ⟨rfl, ?_⟩
      simp only [List.map_cons, List.map_nil, bx_xv_ok h0]
      rfl)
    (fun S0 ws hP => rxuRDX (xa := xa) hPX hX hQAD hQRPC hQRLC hQRIF hP) (fun S0 ws hP => rxgCRDX hP) (fun S0 ws hP => rxgERDX hP)

/-! CONTRACT BY HAND, by program (wip/sim/genhand.py): DeadUnderstudies$Town.addLaw -/
def rxIADL_0 (S0 : Nat → Int → Int) (ws : List Int) (S : Nat → Int → Int) : Prop := S = S0 ∧ ws = [1, 427]
def rxmADL_0 (S0 : Nat → Int → Int) (ws : List Int) (S : Nat → Int → Int) : Nat := 100
def rxzADL_0 : rx_Z := ([(0, 0), (0, 0), (0, 0), (0, 0), (0, 0), (0, 0), (0, 0), (0, 0)], [], [], 0, 0, 0, [(0, .inr (3, (0, 1))), (1, .inr (3, (0, 427)))], [])
def rxeADL_0_0 : rx_End × List (Nat × Int × Int) := (([(0, 0), (0, 0), (0, 0), (0, 0), (0, 0), (0, 0), (0, 0), (0, 0), (6, 6)], [], [(((0, 0), 1851192626986356800234234225391877833944518517379736727307485184000000), .inr (0, (8, 0))), (((0, 1), 14), .inr (0, (8, 0)))], some (.inr (0, (0, (-1))))), [])
def rxeADL_0_1 : rx_End × List (Nat × Int × Int) := (([(0, 0), (0, 0), (0, 0), (0, 0), (0, 0), (0, 0), (0, 0), (0, 0), (0, 5), (0, 1522)], [], [(((0, 0), 1851192626986356800234234225391877833944518517379736727307485187000000), .inr (0, (8, 1))), (((0, 1), 14), .inr (0, (8, 1))), (((0, 0), 5400006000000), .inl none), (((0, 0), 5400042000000), .inl none), (((0, 0), 918900006000000), .inl none), (((0, 0), 919800006000000), .inl none), (((0, 0), 921600006000000), .inl none), (((0, 0), 922500006000000), .inl none), (((0, 0), 923400006000000), .inl none), (((0, 0), 924300006000000), .inl none), (((0, 0), 89999100006000000), .inl none), (((0, 0), 1851192626986356797424364830707437625680387377997778264876384256000000), .inr (3, (9, 0))), (((9, 0), 1000007), .inl none), (((0, 1), 16), .inr (3, (0, 20))), (((0, 0), 1851192626986356800234234225391877833944518517379736727307485184000000), .inr (0, (8, 0)))], some (.inr (0, (8, 0)))), [])
def rxYADL : List bx_HE := [(rxzADL_0, [], [rxeADL_0_0, rxeADL_0_1])]
def rxUADL (q : bx_HE) : Bool := false
def rxYBADL : bx_B := (rxV, rxNP, rxDmf, bx_mdH rxC121.2.2.1)
set_option maxRecDepth 100000 in
theorem rxYcADL : bx_chkH rxYBADL rxM121 rxC121 rxYADL (rxUADL, fun cut z => rx_ex2 (rxCT rxYBADL rxCn) cut 30000 rxC121.2.2.2.1 121 z) = true := by decide +kernel
def rxIADL (S0 : Nat → Int → Int) (ws : List Int) (i : Nat) : bx_SP := fun S r => match i with | 0 => rxIADL_0 S0 ws S | _ => False
def rxmADL (S0 : Nat → Int → Int) (ws : List Int) (i : Nat) (S : Nat → Int → Int) (r : Nat → Int) : Nat := match i with | 0 => rxmADL_0 S0 ws S | _ => 0
def rxPADL (S0 : Nat → Int → Int) (ws : List Int) : Prop := True
def rxPSADL (S0 : Nat → Int → Int) (ws : List Int) (S : Nat → Int → Int) (w : Option Int) : Prop := ws = [1, 427] ∧ ((6 ≤ S0 1 14 ∧ w = some (-1)) ∨ (S0 1 14 < 6 ∧ w = some (S0 1 14) ∧ S 1 14 = S0 1 14 + 1 ∧ S 138 14 = S0 138 14 ∧ S 274 14 = S0 274 14))
theorem rxdADL_0_0 {S0 : Nat → Int → Int} {ws : List Int} {S : Nat → Int → Int} {x8 : Int} (hP : rxPADL S0 ws) (hin : bx_same rxL (bx_mdl rxC121.2.2.1) S0 S) (hin2 : bx_same rxL (bx_mdl rxC121.2.2.1) S S) (I0 : bx_Inv rxL S) (I1 : bx_Inv rxL S) (hinv : rxIADL_0 S0 ws S) (l8 : 6 ≤ x8) (u8 : x8 ≤ 6) (e0 : S 1 14 = x8) : (True) ∧ rxPSADL S0 ws S (some ((-1))) := by
  obtain ⟨rfl, hw⟩ := hinv
  refine ⟨trivial, hw, Or.inl (⟨?_, ?_⟩)⟩ <;> first | omega | exact hin2 | exact congrArg some (by omega) | (intro i i0 i1; simp only [bx_up]; (repeat' split) <;> first | rfl | omega | (simp_all; done) | (simp_all; omega)) | ((repeat (first | rw [bx_up_at] | rw [bx_up_ne (by omega)])); omega) | exact True.intro
theorem rxfADL_0_0 {X : (Nat → Int → Int) → Prop} {S0 : Nat → Int → Int} {ws : List Int} (hP : rxPADL S0 ws) : bx_obE rxL X S0 rxC121.2.2.1 (rxIADL S0 ws) (rxPSADL S0 ws) 0 rxzADL_0 rxeADL_0_0 := by
  intro S S_p r r_p hinv hX hin hsm_ hseg
  obtain ⟨I0, I1, h0_, hr_, b_, f_, d_⟩ := bx_cl (evs := [(0, (0, 1), (0, 14), .inr (0, (8, 0)))]) (fvs := []) hseg (by decide +kernel) (by decide +kernel)
  have hinv : rxIADL_0 S0 ws S := hinv
  obtain ⟨⟨l8, u8⟩, -⟩ := b_
  obtain ⟨e0, w_⟩ := d_
  subst w_
  have g := rxdADL_0_0 hP hin hsm_ I0 I1 hinv l8 u8 e0
  refine ⟨bx_narP_ok (l := []) g.1, ?_⟩
  show rxPSADL S0 ws S_p (some (bx_num r_p (.inr (0, (0, (-1))))))
  rw [bx_xv_ok h0_]
  exact g.2
theorem rxdADL_0_1 {S0 : Nat → Int → Int} {ws : List Int} {S T9 T8 T7 T6 T5 T4 T3 T2 T1 : Nat → Int → Int} {x8 x9 : Int} (hP : rxPADL S0 ws) (hin : bx_same rxL (bx_mdl rxC121.2.2.1) S0 S) (hin2 : bx_same rxL (bx_mdl rxC121.2.2.1) S (bx_up T1 1 14 (x8 + 1))) (I0 : bx_Inv rxL S) (I1 : bx_Inv rxL (bx_up T1 1 14 (x8 + 1))) (hinv : rxIADL_0 S0 ws S) (l8 : 0 ≤ x8) (u8 : x8 ≤ 5) (l9 : 0 ≤ x9) (u9 : x9 ≤ 1522) (e11 : S 1 14 = x8) (e10 : S 20 x8 = x9) (v9 : ∀ (p i : Nat), p < rxL.2.1 → i < bx_wd (rxL.1 p) → bx_mc (rxL.1 p) i ≠ (99999, 0) → T9 p (i : Int) = S p (i : Int)) (v8 : ∀ (p i : Nat), p < rxL.2.1 → i < bx_wd (rxL.1 p) → bx_mc (rxL.1 p) i ≠ (1027, 0) → T8 p (i : Int) = T9 p (i : Int)) (v7 : ∀ (p i : Nat), p < rxL.2.1 → i < bx_wd (rxL.1 p) → bx_mc (rxL.1 p) i ≠ (1026, 0) → T7 p (i : Int) = T8 p (i : Int)) (v6 : ∀ (p i : Nat), p < rxL.2.1 → i < bx_wd (rxL.1 p) → bx_mc (rxL.1 p) i ≠ (1025, 0) → T6 p (i : Int) = T7 p (i : Int)) (v5 : ∀ (p i : Nat), p < rxL.2.1 → i < bx_wd (rxL.1 p) → bx_mc (rxL.1 p) i ≠ (1024, 0) → T5 p (i : Int) = T6 p (i : Int)) (v4 : ∀ (p i : Nat), p < rxL.2.1 → i < bx_wd (rxL.1 p) → bx_mc (rxL.1 p) i ≠ (1022, 0) → T4 p (i : Int) = T5 p (i : Int)) (v3 : ∀ (p i : Nat), p < rxL.2.1 → i < bx_wd (rxL.1 p) → bx_mc (rxL.1 p) i ≠ (1021, 0) → T3 p (i : Int) = T4 p (i : Int)) (v2 : ∀ (p i : Nat), p < rxL.2.1 → i < bx_wd (rxL.1 p) → bx_mc (rxL.1 p) i ≠ (6, 4) → T2 p (i : Int) = T3 p (i : Int)) (v1 : ∀ (p i : Nat), p < rxL.2.1 → i < bx_wd (rxL.1 p) → bx_mc (rxL.1 p) i ≠ (6, 0) → T1 p (i : Int) = T2 p (i : Int)) : (True) ∧ rxPSADL S0 ws (bx_up T1 1 14 (x8 + 1)) (some x8) := by
  obtain ⟨rfl, hw⟩ := hinv
  refine ⟨trivial, hw, Or.inr (⟨?_, ?_, (bx_up_at).trans (by omega), (bx_up_ne (by omega)).trans (((rx_frH v1 (l := rxNum) (by decide +kernel) (p := 138) (i := 14) (by decide) (by decide))).trans (((rx_frH v2 (l := rxNum) (by decide +kernel) (p := 138) (i := 14) (by decide) (by decide))).trans (((rx_frH v3 (l := rxNum) (by decide +kernel) (p := 138) (i := 14) (by decide) (by decide))).trans (((rx_frH v4 (l := rxNum) (by decide +kernel) (p := 138) (i := 14) (by decide) (by decide))).trans (((rx_frH v5 (l := rxNum) (by decide +kernel) (p := 138) (i := 14) (by decide) (by decide))).trans (((rx_frH v6 (l := rxNum) (by decide +kernel) (p := 138) (i := 14) (by decide) (by decide))).trans (((rx_frH v7 (l := rxNum) (by decide +kernel) (p := 138) (i := 14) (by decide) (by decide))).trans (((rx_frH v8 (l := rxNum) (by decide +kernel) (p := 138) (i := 14) (by decide) (by decide))).trans ((rx_frH v9 (l := rxNum) (by decide +kernel) (p := 138) (i := 14) (by decide) (by decide))))))))))), (bx_up_ne (by omega)).trans (((rx_frH v1 (l := rxNum) (by decide +kernel) (p := 274) (i := 14) (by decide) (by decide))).trans (((rx_frH v2 (l := rxNum) (by decide +kernel) (p := 274) (i := 14) (by decide) (by decide))).trans (((rx_frH v3 (l := rxNum) (by decide +kernel) (p := 274) (i := 14) (by decide) (by decide))).trans (((rx_frH v4 (l := rxNum) (by decide +kernel) (p := 274) (i := 14) (by decide) (by decide))).trans (((rx_frH v5 (l := rxNum) (by decide +kernel) (p := 274) (i := 14) (by decide) (by decide))).trans (((rx_frH v6 (l := rxNum) (by decide +kernel) (p := 274) (i := 14) (by decide) (by decide))).trans (((rx_frH v7 (l := rxNum) (by decide +kernel) (p := 274) (i := 14) (by decide) (by decide))).trans (((rx_frH v8 (l := rxNum) (by decide +kernel) (p := 274) (i := 14) (by decide) (by decide))).trans ((rx_frH v9 (l := rxNum) (by decide +kernel) (p := 274) (i := 14) (by decide) (by decide)))))))))))⟩)⟩ <;> first | omega | exact hin2 | exact congrArg some (by omega) | (intro i i0 i1; simp only [bx_up]; (repeat' split) <;> first | rfl | omega | (simp_all; done) | (simp_all; omega)) | ((repeat (first | rw [bx_up_at] | rw [bx_up_ne (by omega)])); omega) | exact True.intro
theorem rxfADL_0_1 {X : (Nat → Int → Int) → Prop} {S0 : Nat → Int → Int} {ws : List Int} (hP : rxPADL S0 ws) : bx_obE rxL X S0 rxC121.2.2.1 (rxIADL S0 ws) (rxPSADL S0 ws) 0 rxzADL_0 rxeADL_0_1 := by
  intro S S_p r r_p hinv hX hin hsm_ hseg
  obtain ⟨I0, I1, h0_, hr_, b_, f_, d_⟩ := bx_cl (evs := [(1, (0, 1), (0, 14), .inr (0, (8, 1))), (2, (6, 0), (0, 0), .inl none), (2, (6, 0), (4, 0), .inl none), (2, (1021, 0), (0, 0), .inl none), (2, (1022, 0), (0, 0), .inl none), (2, (1024, 0), (0, 0), .inl none), (2, (1025, 0), (0, 0), .inl none), (2, (1026, 0), (0, 0), .inl none), (2, (1027, 0), (0, 0), .inl none), (2, (99999, 0), (0, 0), .inl none), (0, (0, 20), (8, 0), .inr (3, (9, 0))), (0, (0, 1), (0, 14), .inr (0, (8, 0)))]) (fvs := []) hseg (by decide +kernel) (by decide +kernel)
  have hinv : rxIADL_0 S0 ws S := hinv
  obtain ⟨⟨l8, u8⟩, ⟨l9, u9⟩, -⟩ := b_
  obtain ⟨T0, ⟨T1, ⟨T2, ⟨T3, ⟨T4, ⟨T5, ⟨T6, ⟨T7, ⟨T8, ⟨T9, ⟨e10, ⟨e11, w_⟩⟩, v9⟩, v8⟩, v7⟩, v6⟩, v5⟩, v4⟩, v3⟩, v2⟩, v1⟩, w0⟩ := d_
  subst w0
  subst w_
  have g := rxdADL_0_1 hP hin hsm_ I0 I1 hinv l8 u8 l9 u9 e11 e10 v9 v8 v7 v6 v5 v4 v3 v2 v1
  refine ⟨bx_narP_ok (l := []) g.1, ?_⟩
  show rxPSADL S0 ws (bx_up T0 1 (14) (r_p 8 + 1)) (some (bx_num r_p (.inr (0, (8, 0)))))
  rw [bx_xv_ok h0_]
  exact g.2
theorem rxgCADL {X : (Nat → Int → Int) → Prop} {S0 : Nat → Int → Int} {ws : List Int} (hP : rxPADL S0 ws) : bx_allI (fun i q => rxUADL q = true ∨ bx_allP (fun o => bx_obC rxL X S0 rxC121.2.2.1 (rxIADL S0 ws) (rxmADL S0 ws) i q.1 o) q.2.1) 0 rxYADL := ⟨Or.inr trivial, trivial⟩
theorem rxgEADL {X : (Nat → Int → Int) → Prop} {S0 : Nat → Int → Int} {ws : List Int} (hP : rxPADL S0 ws) : bx_allI (fun i q => rxUADL q = true ∨ bx_allP (fun E => bx_obE rxL X S0 rxC121.2.2.1 (rxIADL S0 ws) (rxPSADL S0 ws) i q.1 E) q.2.2) 0 rxYADL := ⟨Or.inr ⟨rxfADL_0_0 hP, rxfADL_0_1 hP, trivial⟩, trivial⟩
theorem rxQADL {PX : State → Prop} {Dg : va_G} {A : Nat → Prop} {ad xa : Nat → Nat} {l : Launch} {X : (Nat → Int → Int) → Prop} (hPX : rx_PXOK rxNW A PX) (hsl : ∀ s : State, PX s → ∀ o idx n : Nat, rxSl o idx = some n → ∃ tx : String, vk_R (rxNm o) idx tx (ad n) s)
    (hX : ∀ S S_p : Nat → Int → Int, X S → bx_same rxL (bx_mdl rxC121.2.2.1) S S_p → X S_p)
    (ih : ∀ (j2 : Nat) (ct2 : bx_Ct) (M2 : rx_Mt), ct2 ∈ rxCn j2 → ct2.2.2.2.1 + 1 ≤ rxC121.2.2.2.1 → rxT.2.2.2.2.2 j2 = some M2 → bx_Con rxG rxNW rxAO PX Dg rxL X vwCl A ad l M2 ct2) : bx_ConP rxG rxNW rxAO PX Dg rxL X vwCl A ad l rxM121 rxC121 rxPADL rxPSADL :=
  rxQof (xa := xa) (Cn := rxCn) (f := 30000) (j := 121) (tab := rxYADL) (us := rxUADL) hPX hsl hX ih rfl rxYcADL rxIADL rxmADL
    (fun S0 ws r I0 I ht0 ht as he he1 hX0 hI0 hP hs ha => by
      have e := he.symm.trans (show bx_ent0 rxNP rxC121.1 bx_I0 [] = some ([(0, 0), (0, 0), (0, 0), (0, 0), (0, 0), (0, 0), (0, 0), (0, 0)], [], [.inr (3, (0, 1)), .inr (3, (0, 427))]) from rfl)
      cases e
      subst ha
      have h0 : r 0 = 0 := hs.1
      show rxIADL_0 S0 _ S0
      refine ⟨rfl, ?_⟩
      simp only [List.map_cons, List.map_nil, bx_xv_ok h0]
      rfl)
    (fun S0 ws hP => fun i q hq hus => absurd (show false = true from hus) Bool.false_ne_true) (fun S0 ws hP => rxgCADL hP) (fun S0 ws hP => rxgEADL hP)
/-! CONTRACT BY HAND, by program (wip/sim/genhand.py): DeadUnderstudies.law -/
def rxILWD_0 (S0 : Nat → Int → Int) (ws : List Int) (S : Nat → Int → Int) : Prop := S = S0 ∧ ws = [0]
def rxmLWD_0 (S0 : Nat → Int → Int) (ws : List Int) (S : Nat → Int → Int) : Nat := 100
def rxzLWD_0 : rx_Z := ([(0, 0), (0, 0), (0, 0), (0, 0), (0, 0), (0, 0), (0, 0), (0, 0)], [], [], 0, 0, 0, [(0, .inr (3, (0, 0)))], [])
def rxILWD_1 (S0 : Nat → Int → Int) (ws : List Int) (S : Nat → Int → Int) : Prop := S = bx_up S0 0 4 0 ∧ 6 ≤ S0 1 14 ∧ ws = [0]
def rxmLWD_1 (S0 : Nat → Int → Int) (ws : List Int) (S : Nat → Int → Int) : Nat := 90
def rxzLWD_1 : rx_Z := ([(0, 0), (0, 0), (0, 0), (0, 0), (0, 0), (0, 0), (0, 0), (0, 0)], [], [], 0, 0, 25, [(0, .inr (3, (0, 0)))], [.inr (0, (0, (-5))), .inr (3, (0, 0))])
def rxILWD_2 (S0 : Nat → Int → Int) (ws : List Int) (S : Nat → Int → Int) (res : Int) : Prop := res = -5 ∧ 6 ≤ S0 1 14 ∧ ws = [0] ∧ S 0 4 = 0 ∧ S 412 4 = S0 412 4 ∧ S 1 14 = S0 1 14 ∧ S 138 14 = S0 138 14 ∧ S 274 14 = S0 274 14
def rxmLWD_2 (S0 : Nat → Int → Int) (ws : List Int) (S : Nat → Int → Int) (res : Int) : Nat := 80
def rxzLWD_2 : rx_Z := ([(0, 0), (0, 0), (0, 0), (0, 0), (0, 0), (0, 0), (0, 0), (0, 0), ((-6), (-1))], [], [], 0, 0, 28, [(0, .inr (3, (0, 0)))], [.inr (0, (8, 0))])
def rxILWD_3 (S0 : Nat → Int → Int) (ws : List Int) (S : Nat → Int → Int) (nb : Int) : Prop := S = bx_up S0 0 4 0 ∧ S0 1 14 < 6 ∧ nb = S0 0 4 ∧ ws = [0]
def rxmLWD_3 (S0 : Nat → Int → Int) (ws : List Int) (S : Nat → Int → Int) (nb : Int) : Nat := 70
def rxzLWD_3 : rx_Z := ([(0, 0), (0, 0), (0, 0), (0, 0), (0, 0), (0, 0), (0, 0), (0, 0), (0, 400)], [], [], 0, 0, 43, [(0, .inr (3, (0, 0))), (1, .inr (0, (8, 0)))], [.inr (3, (0, 427)), .inr (0, (0, 0)), .inr (0, (8, 0)), .inr (3, (0, 411)), .inr (3, (0, 412))])
def rxILWD_4 (S0 : Nat → Int → Int) (ws : List Int) (S : Nat → Int → Int) (nb res : Int) : Prop := S0 1 14 < 6 ∧ ws = [0] ∧ S 0 4 = 0 ∧ S 1 14 = S0 1 14 ∧ S 138 14 = S0 138 14 ∧ S 274 14 = S0 274 14 ∧ ∃ r : rzR, rzText (decide ((0 : Int) = 1)) (rzCut (S0 411)) (S0 0 4) r ∧ ((res = 1 ∧ r.1 = true ∧ S 412 4 = -1) ∨ (res = 0 ∧ r.1 = false ∧ S 412 4 = r.2.1))
def rxmLWD_4 (S0 : Nat → Int → Int) (ws : List Int) (S : Nat → Int → Int) (nb res : Int) : Nat := 60
def rxzLWD_4 : rx_Z := ([(0, 0), (0, 0), (0, 0), (0, 0), (0, 0), (0, 0), (0, 0), (0, 0), (0, 400), (0, 1)], [], [], 0, 0, 46, [(0, .inr (3, (0, 0))), (1, .inr (0, (8, 0)))], [.inr (0, (9, 0))])
def rxILWD_5 (S0 : Nat → Int → Int) (ws : List Int) (S : Nat → Int → Int) : Prop := S0 1 14 < 6 ∧ ws = [0] ∧ S 0 4 = 0 ∧ S 1 14 = S0 1 14 ∧ S 138 14 = S0 138 14 ∧ S 274 14 = S0 274 14 ∧ ∃ r : rzR, rzText (decide ((0 : Int) = 1)) (rzCut (S0 411)) (S0 0 4) r ∧ r.1 = false ∧ S 412 4 = r.2.1
def rxmLWD_5 (S0 : Nat → Int → Int) (ws : List Int) (S : Nat → Int → Int) : Nat := 50
def rxzLWD_5 : rx_Z := ([(0, 0), (0, 0), (0, 0), (0, 0), (0, 0), (0, 0), (0, 0), (0, 0)], [], [], 0, 0, 70, [(0, .inr (3, (0, 0)))], [.inr (0, (0, (-6))), .inr (3, (0, 0))])
def rxILWD_6 (S0 : Nat → Int → Int) (ws : List Int) (S : Nat → Int → Int) (res : Int) : Prop := res = -6 ∧ S0 1 14 < 6 ∧ ws = [0] ∧ S 0 4 = 0 ∧ S 1 14 = S0 1 14 ∧ S 138 14 = S0 138 14 ∧ S 274 14 = S0 274 14 ∧ ∃ r : rzR, rzText (decide ((0 : Int) = 1)) (rzCut (S0 411)) (S0 0 4) r ∧ r.1 = false ∧ S 412 4 = r.2.1
def rxmLWD_6 (S0 : Nat → Int → Int) (ws : List Int) (S : Nat → Int → Int) (res : Int) : Nat := 40
def rxzLWD_6 : rx_Z := ([(0, 0), (0, 0), (0, 0), (0, 0), (0, 0), (0, 0), (0, 0), (0, 0), ((-6), (-1))], [], [], 0, 0, 73, [(0, .inr (3, (0, 0)))], [.inr (0, (8, 0))])
def rxILWD_7 (S0 : Nat → Int → Int) (ws : List Int) (S : Nat → Int → Int) : Prop := S0 1 14 < 6 ∧ ws = [0] ∧ S 0 4 = 0 ∧ S 1 14 = S0 1 14 ∧ S 138 14 = S0 138 14 ∧ S 274 14 = S0 274 14 ∧ ∃ r : rzR, rzText (decide ((0 : Int) = 1)) (rzCut (S0 411)) (S0 0 4) r ∧ r.1 = true ∧ S 412 4 = -1
def rxmLWD_7 (S0 : Nat → Int → Int) (ws : List Int) (S : Nat → Int → Int) : Nat := 50
def rxzLWD_7 : rx_Z := ([(0, 0), (0, 0), (0, 0), (0, 0), (0, 0), (0, 0), (0, 0), (0, 0)], [], [], 0, 0, 58, [(0, .inr (3, (0, 0)))], [.inr (3, (0, 427)), .inr (3, (0, 1)), .inr (3, (0, 0))])
def rxILWD_8 (S0 : Nat → Int → Int) (ws : List Int) (S : Nat → Int → Int) (res : Int) : Prop := res = S0 1 14 ∧ S0 1 14 < 6 ∧ ws = [0] ∧ S 0 4 = 0 ∧ S 1 14 = S0 1 14 + 1 ∧ S 138 14 = S0 138 14 ∧ S 274 14 = S0 274 14 ∧ ∃ r : rzR, rzText (decide ((0 : Int) = 1)) (rzCut (S0 411)) (S0 0 4) r ∧ r.1 = true ∧ S 412 4 = -1
def rxmLWD_8 (S0 : Nat → Int → Int) (ws : List Int) (S : Nat → Int → Int) (res : Int) : Nat := 40
def rxzLWD_8 : rx_Z := ([(0, 0), (0, 0), (0, 0), (0, 0), (0, 0), (0, 0), (0, 0), (0, 0), ((-1), 5)], [], [], 0, 0, 61, [(0, .inr (3, (0, 0)))], [.inr (0, (8, 0)), .inr (3, (0, 0))])
def rxoLWD_0_0 : bx_HO := (([(0, 0), (0, 0), (0, 0), (0, 0), (0, 0), (0, 0), (0, 0), (0, 0), (0, 400), (6, 6)], [], [(((0, 0), 1851192626986356800234234225391877833944518517379736727307485184000000), .inr (0, (9, 0))), (((0, 1), 14), .inr (0, (9, 0))), (((0, 0), 0), .inr (3, (0, 1))), (((0, 0), 1851192626986356798227167157524121751206303872841384191768657923000000), .inr (0, (0, 0))), (((0, 0), 4), .inr (0, (0, 0))), (((0, 0), 1851192626986356798227167157524121751206303872841384191768657920000000), .inr (0, (8, 0)))], 0, 0, 25, [(1, .inr (0, (8, 0))), (0, .inr (3, (0, 0)))], [.inr (0, (0, (-5))), .inr (3, (0, 0))]), [], [], [(0, 0), (0, 0), (0, 0), (0, 0), (0, 0), (0, 0), (0, 0), (0, 0)], 1)
def rxoLWD_0_1 : bx_HO := (([(0, 0), (0, 0), (0, 0), (0, 0), (0, 0), (0, 0), (0, 0), (0, 0), (0, 400), (0, 5)], [], [(((0, 0), 6), .inr (3, (0, 427))), (((0, 0), 3), .inr (3, (0, 411))), (((0, 0), 5), .inr (3, (0, 412))), (((0, 0), 1851192626986356800234234225391877833944518517379736727307485184000000), .inr (0, (9, 0))), (((0, 1), 14), .inr (0, (9, 0))), (((0, 0), 0), .inr (3, (0, 1))), (((0, 0), 1851192626986356798227167157524121751206303872841384191768657923000000), .inr (0, (0, 0))), (((0, 0), 4), .inr (0, (0, 0))), (((0, 0), 1851192626986356798227167157524121751206303872841384191768657920000000), .inr (0, (8, 0)))], 0, 0, 43, [(1, .inr (0, (8, 0))), (0, .inr (3, (0, 0)))], [.inr (3, (0, 427)), .inr (0, (0, 0)), .inr (0, (8, 0)), .inr (3, (0, 411)), .inr (3, (0, 412))]), [], [], [(0, 0), (0, 0), (0, 0), (0, 0), (0, 0), (0, 0), (0, 0), (0, 0), (8, 0)], 3)
def rxeLWD_2_0 : rx_End × List (Nat × Int × Int) := (([(0, 0), (0, 0), (0, 0), (0, 0), (0, 0), (0, 0), (0, 0), (0, 0), ((-6), (-1))], [], [], some (.inr (0, (8, 0)))), [])
def rxoLWD_4_0 : bx_HO := (([(0, 0), (0, 0), (0, 0), (0, 0), (0, 0), (0, 0), (0, 0), (0, 0), (0, 400), (1, 1)], [(3, (9, 0), (0, 0))], [(((0, 0), 6), .inr (3, (0, 427))), (((0, 0), 0), .inr (3, (0, 1)))], 0, 0, 58, [(0, .inr (3, (0, 0))), (1, .inr (0, (8, 0)))], [.inr (3, (0, 427)), .inr (3, (0, 1)), .inr (3, (0, 0))]), [], [], [(0, 0), (0, 0), (0, 0), (0, 0), (0, 0), (0, 0), (0, 0), (0, 0)], 7)
def rxoLWD_4_1 : bx_HO := (([(0, 0), (0, 0), (0, 0), (0, 0), (0, 0), (0, 0), (0, 0), (0, 0), (0, 400), (0, 0)], [], [], 0, 0, 70, [(0, .inr (3, (0, 0))), (1, .inr (0, (8, 0)))], [.inr (0, (0, (-6))), .inr (3, (0, 0))]), [], [], [(0, 0), (0, 0), (0, 0), (0, 0), (0, 0), (0, 0), (0, 0), (0, 0)], 5)
def rxeLWD_6_0 : rx_End × List (Nat × Int × Int) := (([(0, 0), (0, 0), (0, 0), (0, 0), (0, 0), (0, 0), (0, 0), (0, 0), ((-6), (-1))], [], [], some (.inr (0, (8, 0)))), [])
def rxeLWD_8_0 : rx_End × List (Nat × Int × Int) := (([(0, 0), (0, 0), (0, 0), (0, 0), (0, 0), (0, 0), (0, 0), (0, 0), ((-1), 5)], [], [(((0, 0), 1851192626986356799029993984671224184301589730656725205983952899000000), .inr (0, (0, 0))), (((0, 0), 8), .inr (0, (0, 0)))], some (.inr (0, (8, 0)))), [])
def rxYLWD : List bx_HE := [(rxzLWD_0, [rxoLWD_0_0, rxoLWD_0_1], []), (rxzLWD_1, [], []), (rxzLWD_2, [], [rxeLWD_2_0]), (rxzLWD_3, [], []), (rxzLWD_4, [rxoLWD_4_0, rxoLWD_4_1], []), (rxzLWD_5, [], []), (rxzLWD_6, [], [rxeLWD_6_0]), (rxzLWD_7, [], []), (rxzLWD_8, [], [rxeLWD_8_0])]
def rxULWD (q : bx_HE) : Bool := Nat.beq (rx_zpc q.1) 25 || Nat.beq (rx_zpc q.1) 43 || Nat.beq (rx_zpc q.1) 70 || Nat.beq (rx_zpc q.1) 58
def rxYBLWD : bx_B := (rxV, rxNP, rxDmf, bx_mdH rxC241.2.2.1)
set_option maxRecDepth 100000 in
theorem rxYcLWD : bx_chkH rxYBLWD rxM241 rxC241 rxYLWD (rxULWD, fun cut z => rx_ex2 (rxCT rxYBLWD rxCnE) cut 30000 rxC241.2.2.2.1 241 z) = true := by decide +kernel
def rxILWD (S0 : Nat → Int → Int) (ws : List Int) (i : Nat) : bx_SP := fun S r => match i with | 0 => rxILWD_0 S0 ws S | 1 => rxILWD_1 S0 ws S | 2 => rxILWD_2 S0 ws S (r 8) | 3 => rxILWD_3 S0 ws S (r 8) | 4 => rxILWD_4 S0 ws S (r 8) (r 9) | 5 => rxILWD_5 S0 ws S | 6 => rxILWD_6 S0 ws S (r 8) | 7 => rxILWD_7 S0 ws S | 8 => rxILWD_8 S0 ws S (r 8) | _ => False
def rxmLWD (S0 : Nat → Int → Int) (ws : List Int) (i : Nat) (S : Nat → Int → Int) (r : Nat → Int) : Nat := match i with | 0 => rxmLWD_0 S0 ws S | 1 => rxmLWD_1 S0 ws S | 2 => rxmLWD_2 S0 ws S (r 8) | 3 => rxmLWD_3 S0 ws S (r 8) | 4 => rxmLWD_4 S0 ws S (r 8) (r 9) | 5 => rxmLWD_5 S0 ws S | 6 => rxmLWD_6 S0 ws S (r 8) | 7 => rxmLWD_7 S0 ws S | 8 => rxmLWD_8 S0 ws S (r 8) | _ => 0
def rxPLWD (S0 : Nat → Int → Int) (ws : List Int) : Prop := True
def rxPSLWD (S0 : Nat → Int → Int) (ws : List Int) (S : Nat → Int → Int) (w : Option Int) : Prop := ws = [0] ∧ ((6 ≤ S0 1 14 ∧ w = some (-5) ∧ S 0 4 = 0 ∧ S 412 4 = S0 412 4 ∧ S 1 14 = S0 1 14 ∧ S 138 14 = S0 138 14 ∧ S 274 14 = S0 274 14) ∨ (S0 1 14 < 6 ∧ S 0 4 = 0 ∧ ∃ r : rzR, rzText (decide ((0 : Int) = 1)) (rzCut (S0 411)) (S0 0 4) r ∧ ((r.1 = true ∧ w = some (S0 1 14) ∧ S 412 4 = -1 ∧ S 1 14 = S0 1 14 + 1 ∧ S 138 14 = S0 138 14 ∧ S 274 14 = S0 274 14) ∨ (r.1 = false ∧ w = some (-6) ∧ S 412 4 = r.2.1 ∧ S 1 14 = S0 1 14 ∧ S 138 14 = S0 138 14 ∧ S 274 14 = S0 274 14))))
theorem rxkLWD_1 {S0 : Nat → Int → Int} {ws : List Int} {S : Nat → Int → Int} (hP : rxPLWD S0 ws) (hin : bx_same rxL (bx_mdl rxC241.2.2.1) S0 S) (I0 : bx_Inv rxL S) (hinv : rxILWD_1 S0 ws S)  : rxP110 S [0, (-5)] ∧ ∀ (S_p : Nat → Int → Int) (res : Int), (-6) ≤ res → res ≤ (-1) → rxPS110 S [0, (-5)] S_p (some res) → bx_Inv rxL S_p → bx_same rxL (bx_mdl rxC110.2.2.1) S S_p → rxILWD_2 S0 ws S_p res ∧ rxmLWD_2 S0 ws S_p res < rxmLWD_1 S0 ws S := by
  obtain ⟨hS, h6, hw⟩ := hinv
  subst hS
  refine ⟨trivial, fun S_p res _ _ hq _ hsm => ⟨⟨?_, h6, hw, (hsm 0 4 (by decide) (by decide) (by decide +kernel)).trans bx_up_at, (hsm 412 4 (by decide) (by decide) (by decide +kernel)).trans (bx_up_ne (by omega)), (hsm 1 14 (by decide) (by decide) (by decide +kernel)).trans (bx_up_ne (by omega)), (hsm 138 14 (by decide) (by decide) (by decide +kernel)).trans (bx_up_ne (by omega)), (hsm 274 14 (by decide) (by decide) (by decide +kernel)).trans (bx_up_ne (by omega))⟩, by unfold rxmLWD_1 rxmLWD_2; omega⟩⟩
  obtain ⟨c, hc, hr⟩ := hq
  simp only [List.cons.injEq, and_true, true_and] at hc
  simp only [Option.some.injEq] at hr
  omega
theorem rxsLWD_1 {X : (Nat → Int → Int) → Prop} {S0 : Nat → Int → Int} {ws : List Int} (hP : rxPLWD S0 ws) : rx_obK X S0 rxC241.2.2.1 rxC110.2.2.1 (rxILWD S0 ws) (rxmLWD S0 ws) 1 2 rxzLWD_1 rxzLWD_2 [.inr (3, (0, 0)), .inr (0, (0, (-5)))] (some 8) rxP110 rxPS110 := by
  intro S r hinv hXS I0 hin hs_ hf_
  have b_ := bx_bds_sat hs_
  have f_ := bx_fcl_ok hs_.1 hf_
  have g := rxkLWD_1 hP hin I0 hinv 
  have ea : List.map (bx_num r) [.inr (3, (0, 0)), .inr (0, (0, (-5)))] = [0, -5] := by
    simp only [List.map_cons, List.map_nil, bx_xv_ok hs_.1]
    rfl
  rw [ea]
  refine ⟨g.1, fun S_p w r_p hPS hX_p I1 hsm hr hw hs_p => ?_⟩
  have hw := hw _ rfl
  subst hw
  have b_p := hs_p.2.2 8 _ _ rfl
  have g2 := g.2 S_p (r_p 8) b_p.1 b_p.2 hPS I1 hsm
  show rxILWD_2 S0 ws S_p (r_p 8) ∧ rxmLWD_2 S0 ws S_p (r_p 8) < _
  exact g2
theorem rxkLWD_3 {S0 : Nat → Int → Int} {ws : List Int} {S : Nat → Int → Int} {nb : Int} (hP : rxPLWD S0 ws) (hin : bx_same rxL (bx_mdl rxC241.2.2.1) S0 S) (I0 : bx_Inv rxL S) (hinv : rxILWD_3 S0 ws S nb) (l8 : 0 ≤ nb) (u8 : nb ≤ 400) : rxPRDX S [412, 411, nb, 0, 427] ∧ ∀ (S_p : Nat → Int → Int) (res : Int), 0 ≤ res → res ≤ 1 → rxPSRDX S [412, 411, nb, 0, 427] S_p (some res) → bx_Inv rxL S_p → bx_same rxL (bx_mdl rxCRDX.2.2.1) S S_p → rxILWD_4 S0 ws S_p nb res ∧ rxmLWD_4 S0 ws S_p nb res < rxmLWD_3 S0 ws S nb := by
  obtain ⟨hS, h6, hnb, hw⟩ := hinv
  subst hS
  refine ⟨trivial, fun S_p res _ _ hq _ hsm => ⟨?_, by unfold rxmLWD_3 rxmLWD_4; omega⟩⟩
  obtain ⟨nb2, ap2, hw2, r, r1, r2⟩ := hq
  have e1 : nb = nb2 := Option.some.inj (congrArg (fun l : List Int => l[2]?) hw2)
  have e2 : (0 : Int) = ap2 := Option.some.inj (congrArg (fun l : List Int => l[3]?) hw2)
  subst e2
  rw [← e1, hnb] at r1
  refine ⟨h6, hw, (hsm 0 4 (by decide) (by decide) (by decide +kernel)).trans bx_up_at, (hsm 1 14 (by decide) (by decide) (by decide +kernel)).trans (bx_up_ne (by omega)), (hsm 138 14 (by decide) (by decide) (by decide +kernel)).trans (bx_up_ne (by omega)), (hsm 274 14 (by decide) (by decide) (by decide +kernel)).trans (bx_up_ne (by omega)), ?_⟩
  · have eT : bx_up S0 0 4 0 411 = S0 411 := funext fun _ => bx_up_ne (by omega)
    rw [eT] at r1
    rcases r2 with ⟨a, b, c⟩ | ⟨a, b, c⟩
    · exact ⟨r, r1, Or.inl ⟨Option.some.inj a, b, c⟩⟩
    · exact ⟨r, r1, Or.inr ⟨Option.some.inj a, b, c⟩⟩
theorem rxsLWD_3 {X : (Nat → Int → Int) → Prop} {S0 : Nat → Int → Int} {ws : List Int} (hP : rxPLWD S0 ws) : rx_obK X S0 rxC241.2.2.1 rxCRDX.2.2.1 (rxILWD S0 ws) (rxmLWD S0 ws) 3 4 rxzLWD_3 rxzLWD_4 [.inr (3, (0, 412)), .inr (3, (0, 411)), .inr (0, (8, 0)), .inr (0, (0, 0)), .inr (3, (0, 427))] (some 9) rxPRDX rxPSRDX := by
  intro S r hinv hXS I0 hin hs_ hf_
  have b_ := bx_bds_sat hs_
  have f_ := bx_fcl_ok hs_.1 hf_
  obtain ⟨⟨l8, u8⟩, -⟩ := b_
  have g := rxkLWD_3 hP hin I0 hinv l8 u8
  have ea : List.map (bx_num r) [.inr (3, (0, 412)), .inr (3, (0, 411)), .inr (0, (8, 0)), .inr (0, (0, 0)), .inr (3, (0, 427))] = [412, 411, (r 8), 0, 427] := by
    simp only [List.map_cons, List.map_nil, bx_xv_ok hs_.1]
    rfl
  rw [ea]
  refine ⟨g.1, fun S_p w r_p hPS hX_p I1 hsm hr hw hs_p => ?_⟩
  have hw := hw _ rfl
  subst hw
  have b_p := hs_p.2.2 9 _ _ rfl
  have g2 := g.2 S_p (r_p 9) b_p.1 b_p.2 hPS I1 hsm
  show rxILWD_4 S0 ws S_p (r_p 8) (r_p 9) ∧ rxmLWD_4 S0 ws S_p (r_p 8) (r_p 9) < _
  rw [hr 8 (by decide)]
  exact g2
theorem rxkLWD_5 {S0 : Nat → Int → Int} {ws : List Int} {S : Nat → Int → Int} (hP : rxPLWD S0 ws) (hin : bx_same rxL (bx_mdl rxC241.2.2.1) S0 S) (I0 : bx_Inv rxL S) (hinv : rxILWD_5 S0 ws S)  : rxP110 S [0, (-6)] ∧ ∀ (S_p : Nat → Int → Int) (res : Int), (-6) ≤ res → res ≤ (-1) → rxPS110 S [0, (-6)] S_p (some res) → bx_Inv rxL S_p → bx_same rxL (bx_mdl rxC110.2.2.1) S S_p → rxILWD_6 S0 ws S_p res ∧ rxmLWD_6 S0 ws S_p res < rxmLWD_5 S0 ws S := by
  obtain ⟨h6, hw, h4, h0, h1, h2, r, r1, r2, r3⟩ := hinv
  refine ⟨trivial, fun S_p res _ _ hq _ hsm => ⟨⟨?_, h6, hw, (hsm 0 4 (by decide) (by decide) (by decide +kernel)).trans h4, (hsm 1 14 (by decide) (by decide) (by decide +kernel)).trans h0, (hsm 138 14 (by decide) (by decide) (by decide +kernel)).trans h1, (hsm 274 14 (by decide) (by decide) (by decide +kernel)).trans h2, r, r1, r2, (hsm 412 4 (by decide) (by decide) (by decide +kernel)).trans r3⟩, by unfold rxmLWD_5 rxmLWD_6; omega⟩⟩
  obtain ⟨c, hc, hr⟩ := hq
  simp only [List.cons.injEq, and_true, true_and] at hc
  simp only [Option.some.injEq] at hr
  omega
theorem rxsLWD_5 {X : (Nat → Int → Int) → Prop} {S0 : Nat → Int → Int} {ws : List Int} (hP : rxPLWD S0 ws) : rx_obK X S0 rxC241.2.2.1 rxC110.2.2.1 (rxILWD S0 ws) (rxmLWD S0 ws) 5 6 rxzLWD_5 rxzLWD_6 [.inr (3, (0, 0)), .inr (0, (0, (-6)))] (some 8) rxP110 rxPS110 := by
  intro S r hinv hXS I0 hin hs_ hf_
  have b_ := bx_bds_sat hs_
  have f_ := bx_fcl_ok hs_.1 hf_
  have g := rxkLWD_5 hP hin I0 hinv 
  have ea : List.map (bx_num r) [.inr (3, (0, 0)), .inr (0, (0, (-6)))] = [0, -6] := by
    simp only [List.map_cons, List.map_nil, bx_xv_ok hs_.1]
    rfl
  rw [ea]
  refine ⟨g.1, fun S_p w r_p hPS hX_p I1 hsm hr hw hs_p => ?_⟩
  have hw := hw _ rfl
  subst hw
  have b_p := hs_p.2.2 8 _ _ rfl
  have g2 := g.2 S_p (r_p 8) b_p.1 b_p.2 hPS I1 hsm
  show rxILWD_6 S0 ws S_p (r_p 8) ∧ rxmLWD_6 S0 ws S_p (r_p 8) < _
  exact g2
theorem rxkLWD_7 {S0 : Nat → Int → Int} {ws : List Int} {S : Nat → Int → Int} (hP : rxPLWD S0 ws) (hin : bx_same rxL (bx_mdl rxC241.2.2.1) S0 S) (I0 : bx_Inv rxL S) (hinv : rxILWD_7 S0 ws S)  : rxPADL S [1, 427] ∧ ∀ (S_p : Nat → Int → Int) (res : Int), (-1) ≤ res → res ≤ 5 → rxPSADL S [1, 427] S_p (some res) → bx_Inv rxL S_p → bx_same rxL (bx_mdl rxC121.2.2.1) S S_p → rxILWD_8 S0 ws S_p res ∧ rxmLWD_8 S0 ws S_p res < rxmLWD_7 S0 ws S := by
  obtain ⟨h6, hw, h4, h0, h1, h2, r, r1, r2, r3⟩ := hinv
  refine ⟨trivial, fun S_p res _ _ hq _ hsm => ⟨?_, by unfold rxmLWD_7 rxmLWD_8; omega⟩⟩
  obtain ⟨-, hc⟩ := hq
  rcases hc with ⟨c1, c2⟩ | ⟨c1, c2, c3, c4, c5⟩
  · omega
  · have c2 := Option.some.inj c2
    exact ⟨by omega, h6, hw, (hsm 0 4 (by decide) (by decide) (by decide +kernel)).trans h4, by omega, by omega, by omega, r, r1, r2, (hsm 412 4 (by decide) (by decide) (by decide +kernel)).trans r3⟩
theorem rxsLWD_7 {X : (Nat → Int → Int) → Prop} {S0 : Nat → Int → Int} {ws : List Int} (hP : rxPLWD S0 ws) : rx_obK X S0 rxC241.2.2.1 rxC121.2.2.1 (rxILWD S0 ws) (rxmLWD S0 ws) 7 8 rxzLWD_7 rxzLWD_8 [.inr (3, (0, 1)), .inr (3, (0, 427))] (some 8) rxPADL rxPSADL := by
  intro S r hinv hXS I0 hin hs_ hf_
  have b_ := bx_bds_sat hs_
  have f_ := bx_fcl_ok hs_.1 hf_
  have g := rxkLWD_7 hP hin I0 hinv 
  have ea : List.map (bx_num r) [.inr (3, (0, 1)), .inr (3, (0, 427))] = [1, 427] := by
    simp only [List.map_cons, List.map_nil, bx_xv_ok hs_.1]
    rfl
  rw [ea]
  refine ⟨g.1, fun S_p w r_p hPS hX_p I1 hsm hr hw hs_p => ?_⟩
  have hw := hw _ rfl
  subst hw
  have b_p := hs_p.2.2 8 _ _ rfl
  have g2 := g.2 S_p (r_p 8) b_p.1 b_p.2 hPS I1 hsm
  show rxILWD_8 S0 ws S_p (r_p 8) ∧ rxmLWD_8 S0 ws S_p (r_p 8) < _
  exact g2
theorem rxcLWD_0_0 {S0 : Nat → Int → Int} {ws : List Int} {S : Nat → Int → Int} {x8 x9 : Int} (hP : rxPLWD S0 ws) (hin : bx_same rxL (bx_mdl rxC241.2.2.1) S0 S) (I0 : bx_Inv rxL S) (hinv : rxILWD_0 S0 ws S) (l8 : 0 ≤ x8) (u8 : x8 ≤ 400) (l9 : 6 ≤ x9) (u9 : x9 ≤ 6) (e2 : S 0 4 = x8) (e0 : (bx_up S 0 4 0) 1 14 = x9) : (True) ∧ (True) ∧ rxILWD_1 S0 ws (bx_up S 0 4 0) ∧ rxmLWD_1 S0 ws (bx_up S 0 4 0) < rxmLWD_0 S0 ws S := by
  obtain ⟨rfl, hw⟩ := hinv
  have q14 : S 1 14 = x9 := ((bx_up_ne (by omega))).symm.trans e0
  exact ⟨trivial, trivial, ⟨rfl, by omega, hw⟩, by unfold rxmLWD_0 rxmLWD_1; omega⟩
theorem rxgLWD_0_0 {X : (Nat → Int → Int) → Prop} {S0 : Nat → Int → Int} {ws : List Int} (hP : rxPLWD S0 ws) : bx_obC rxL X S0 rxC241.2.2.1 (rxILWD S0 ws) (rxmLWD S0 ws) 0 rxzLWD_0 rxoLWD_0_0 := by
  intro S S_p r r_p hinv hX hin hsm_ hseg
  obtain ⟨I0, I1, h0_, hr_, b_, f_, d_⟩ := bx_cl (evs := [(0, (0, 1), (0, 14), .inr (0, (9, 0))), (1, (0, 0), (0, 4), .inr (0, (0, 0))), (0, (0, 0), (0, 4), .inr (0, (8, 0)))]) (fvs := []) hseg (by decide +kernel) (by decide +kernel)
  have hinv : rxILWD_0 S0 ws S := hinv
  obtain ⟨⟨l8, u8⟩, ⟨l9, u9⟩, -⟩ := b_
  obtain ⟨e0, ⟨T1, ⟨e2, w_⟩, w1⟩⟩ := d_
  subst w1
  subst w_
  have g := rxcLWD_0_0 hP hin I0 hinv l8 u8 l9 u9 e2 e0
  refine ⟨bx_narP_ok (l := []) g.1, bx_nfP_ok h0_ (fvs := []) (by decide +kernel) g.2.1, ?_, ?_⟩
  · show rxILWD_1 S0 ws (bx_up T1 0 (4) (0))
    exact g.2.2.1
  · show rxmLWD_1 S0 ws (bx_up T1 0 (4) (0)) < rxmLWD_0 S0 ws T1
    exact g.2.2.2
theorem rxcLWD_0_1 {S0 : Nat → Int → Int} {ws : List Int} {S : Nat → Int → Int} {x8 x9 : Int} (hP : rxPLWD S0 ws) (hin : bx_same rxL (bx_mdl rxC241.2.2.1) S0 S) (I0 : bx_Inv rxL S) (hinv : rxILWD_0 S0 ws S) (l8 : 0 ≤ x8) (u8 : x8 ≤ 400) (l9 : 0 ≤ x9) (u9 : x9 ≤ 5) (e2 : S 0 4 = x8) (e0 : (bx_up S 0 4 0) 1 14 = x9) : (True) ∧ (True) ∧ rxILWD_3 S0 ws (bx_up S 0 4 0) x8 ∧ rxmLWD_3 S0 ws (bx_up S 0 4 0) x8 < rxmLWD_0 S0 ws S := by
  obtain ⟨rfl, hw⟩ := hinv
  have q14 : S 1 14 = x9 := ((bx_up_ne (by omega))).symm.trans e0
  exact ⟨trivial, trivial, ⟨rfl, by omega, e2.symm, hw⟩, by unfold rxmLWD_0 rxmLWD_3; omega⟩
theorem rxgLWD_0_1 {X : (Nat → Int → Int) → Prop} {S0 : Nat → Int → Int} {ws : List Int} (hP : rxPLWD S0 ws) : bx_obC rxL X S0 rxC241.2.2.1 (rxILWD S0 ws) (rxmLWD S0 ws) 0 rxzLWD_0 rxoLWD_0_1 := by
  intro S S_p r r_p hinv hX hin hsm_ hseg
  obtain ⟨I0, I1, h0_, hr_, b_, f_, d_⟩ := bx_cl (evs := [(0, (0, 1), (0, 14), .inr (0, (9, 0))), (1, (0, 0), (0, 4), .inr (0, (0, 0))), (0, (0, 0), (0, 4), .inr (0, (8, 0)))]) (fvs := []) hseg (by decide +kernel) (by decide +kernel)
  have hinv : rxILWD_0 S0 ws S := hinv
  obtain ⟨⟨l8, u8⟩, ⟨l9, u9⟩, -⟩ := b_
  obtain ⟨e0, ⟨T1, ⟨e2, w_⟩, w1⟩⟩ := d_
  subst w1
  subst w_
  have g := rxcLWD_0_1 hP hin I0 hinv l8 u8 l9 u9 e2 e0
  refine ⟨bx_narP_ok (l := []) g.1, bx_nfP_ok h0_ (fvs := []) (by decide +kernel) g.2.1, ?_, ?_⟩
  · show rxILWD_3 S0 ws (bx_up T1 0 (4) (0)) (bx_val [(0, 0), (0, 0), (0, 0), (0, 0), (0, 0), (0, 0), (0, 0), (0, 0), (8, 0)] r_p 8)
    rw [bx_val_x (n := 8) (e := (8, 0)) h0_ rfl]
    exact g.2.2.1
  · show rxmLWD_3 S0 ws (bx_up T1 0 (4) (0)) (bx_val [(0, 0), (0, 0), (0, 0), (0, 0), (0, 0), (0, 0), (0, 0), (0, 0), (8, 0)] r_p 8) < rxmLWD_0 S0 ws T1
    rw [bx_val_x (n := 8) (e := (8, 0)) h0_ rfl]
    exact g.2.2.2
theorem rxdLWD_2_0 {S0 : Nat → Int → Int} {ws : List Int} {S : Nat → Int → Int} {res : Int} (hP : rxPLWD S0 ws) (hin : bx_same rxL (bx_mdl rxC241.2.2.1) S0 S) (hin2 : bx_same rxL (bx_mdl rxC241.2.2.1) S S) (I0 : bx_Inv rxL S) (I1 : bx_Inv rxL S) (hinv : rxILWD_2 S0 ws S res) (l8 : (-6) ≤ res) (u8 : res ≤ (-1)) : (True) ∧ rxPSLWD S0 ws S (some res) := by
  obtain ⟨hr, h6, hw, h4, h5, h0, h1, h2⟩ := hinv
  exact ⟨trivial, hw, Or.inl ⟨h6, congrArg some hr, h4, h5, h0, h1, h2⟩⟩
theorem rxfLWD_2_0 {X : (Nat → Int → Int) → Prop} {S0 : Nat → Int → Int} {ws : List Int} (hP : rxPLWD S0 ws) : bx_obE rxL X S0 rxC241.2.2.1 (rxILWD S0 ws) (rxPSLWD S0 ws) 2 rxzLWD_2 rxeLWD_2_0 := by
  intro S S_p r r_p hinv hX hin hsm_ hseg
  obtain ⟨I0, I1, h0_, hr_, b_, f_, d_⟩ := bx_cl (evs := []) (fvs := []) hseg (by decide +kernel) (by decide +kernel)
  have hinv : rxILWD_2 S0 ws S (r 8) := hinv
  rw [← hr_ 8 (by decide)] at hinv
  obtain ⟨⟨l8, u8⟩, -⟩ := b_
  have w_ := d_
  subst w_
  have g := rxdLWD_2_0 hP hin hsm_ I0 I1 hinv l8 u8
  refine ⟨bx_narP_ok (l := []) g.1, ?_⟩
  show rxPSLWD S0 ws S_p (some (bx_num r_p (.inr (0, (8, 0)))))
  rw [bx_xv_ok h0_]
  exact g.2
theorem rxcLWD_4_0 {S0 : Nat → Int → Int} {ws : List Int} {S : Nat → Int → Int} {nb res : Int} (hP : rxPLWD S0 ws) (hin : bx_same rxL (bx_mdl rxC241.2.2.1) S0 S) (I0 : bx_Inv rxL S) (hinv : rxILWD_4 S0 ws S nb res) (l8 : 0 ≤ nb) (u8 : nb ≤ 400) (l9 : 1 ≤ res) (u9 : res ≤ 1) (f0 : res ≠ 0) : (True) ∧ (True) ∧ rxILWD_7 S0 ws S ∧ rxmLWD_7 S0 ws S < rxmLWD_4 S0 ws S nb res := by
  obtain ⟨h6, hw, h4, h0, h1, h2, r, r1, r2⟩ := hinv
  rcases r2 with ⟨a, b, c⟩ | ⟨a, b, c⟩
  · exact ⟨trivial, trivial, ⟨h6, hw, h4, h0, h1, h2, r, r1, b, c⟩, by unfold rxmLWD_4 rxmLWD_7; omega⟩
  · omega
theorem rxgLWD_4_0 {X : (Nat → Int → Int) → Prop} {S0 : Nat → Int → Int} {ws : List Int} (hP : rxPLWD S0 ws) : bx_obC rxL X S0 rxC241.2.2.1 (rxILWD S0 ws) (rxmLWD S0 ws) 4 rxzLWD_4 rxoLWD_4_0 := by
  intro S S_p r r_p hinv hX hin hsm_ hseg
  obtain ⟨I0, I1, h0_, hr_, b_, f_, d_⟩ := bx_cl (evs := []) (fvs := [(3, (9, 0), (0, 0), (0, 0))]) hseg (by decide +kernel) (by decide +kernel)
  have hinv : rxILWD_4 S0 ws S (r 8) (r 9) := hinv
  rw [← hr_ 8 (by decide), ← hr_ 9 (by decide)] at hinv
  obtain ⟨⟨l8, u8⟩, ⟨l9, u9⟩, -⟩ := b_
  obtain ⟨f0, -⟩ := f_
  have w_ := d_
  subst w_
  have g := rxcLWD_4_0 hP hin I0 hinv l8 u8 l9 u9 f0
  refine ⟨bx_narP_ok (l := []) g.1, bx_nfP_ok h0_ (fvs := []) (by decide +kernel) g.2.1, ?_, ?_⟩
  · show rxILWD_7 S0 ws S_p
    exact g.2.2.1
  · show rxmLWD_7 S0 ws S_p < rxmLWD_4 S0 ws S_p (r 8) (r 9)
    rw [← hr_ 8 (by decide), ← hr_ 9 (by decide)]
    exact g.2.2.2
theorem rxcLWD_4_1 {S0 : Nat → Int → Int} {ws : List Int} {S : Nat → Int → Int} {nb res : Int} (hP : rxPLWD S0 ws) (hin : bx_same rxL (bx_mdl rxC241.2.2.1) S0 S) (I0 : bx_Inv rxL S) (hinv : rxILWD_4 S0 ws S nb res) (l8 : 0 ≤ nb) (u8 : nb ≤ 400) (l9 : 0 ≤ res) (u9 : res ≤ 0) : (True) ∧ (True) ∧ rxILWD_5 S0 ws S ∧ rxmLWD_5 S0 ws S < rxmLWD_4 S0 ws S nb res := by
  obtain ⟨h6, hw, h4, h0, h1, h2, r, r1, r2⟩ := hinv
  rcases r2 with ⟨a, b, c⟩ | ⟨a, b, c⟩
  · omega
  · exact ⟨trivial, trivial, ⟨h6, hw, h4, h0, h1, h2, r, r1, b, c⟩, by unfold rxmLWD_4 rxmLWD_5; omega⟩
theorem rxgLWD_4_1 {X : (Nat → Int → Int) → Prop} {S0 : Nat → Int → Int} {ws : List Int} (hP : rxPLWD S0 ws) : bx_obC rxL X S0 rxC241.2.2.1 (rxILWD S0 ws) (rxmLWD S0 ws) 4 rxzLWD_4 rxoLWD_4_1 := by
  intro S S_p r r_p hinv hX hin hsm_ hseg
  obtain ⟨I0, I1, h0_, hr_, b_, f_, d_⟩ := bx_cl (evs := []) (fvs := []) hseg (by decide +kernel) (by decide +kernel)
  have hinv : rxILWD_4 S0 ws S (r 8) (r 9) := hinv
  rw [← hr_ 8 (by decide), ← hr_ 9 (by decide)] at hinv
  obtain ⟨⟨l8, u8⟩, ⟨l9, u9⟩, -⟩ := b_
  have w_ := d_
  subst w_
  have g := rxcLWD_4_1 hP hin I0 hinv l8 u8 l9 u9
  refine ⟨bx_narP_ok (l := []) g.1, bx_nfP_ok h0_ (fvs := []) (by decide +kernel) g.2.1, ?_, ?_⟩
  · show rxILWD_5 S0 ws S_p
    exact g.2.2.1
  · show rxmLWD_5 S0 ws S_p < rxmLWD_4 S0 ws S_p (r 8) (r 9)
    rw [← hr_ 8 (by decide), ← hr_ 9 (by decide)]
    exact g.2.2.2
theorem rxdLWD_6_0 {S0 : Nat → Int → Int} {ws : List Int} {S : Nat → Int → Int} {res : Int} (hP : rxPLWD S0 ws) (hin : bx_same rxL (bx_mdl rxC241.2.2.1) S0 S) (hin2 : bx_same rxL (bx_mdl rxC241.2.2.1) S S) (I0 : bx_Inv rxL S) (I1 : bx_Inv rxL S) (hinv : rxILWD_6 S0 ws S res) (l8 : (-6) ≤ res) (u8 : res ≤ (-1)) : (True) ∧ rxPSLWD S0 ws S (some res) := by
  obtain ⟨hr, h6, hw, h4, h0, h1, h2, r, r1, r2, r3⟩ := hinv
  exact ⟨trivial, hw, Or.inr ⟨h6, h4, r, r1, Or.inr ⟨r2, congrArg some hr, r3, h0, h1, h2⟩⟩⟩
theorem rxfLWD_6_0 {X : (Nat → Int → Int) → Prop} {S0 : Nat → Int → Int} {ws : List Int} (hP : rxPLWD S0 ws) : bx_obE rxL X S0 rxC241.2.2.1 (rxILWD S0 ws) (rxPSLWD S0 ws) 6 rxzLWD_6 rxeLWD_6_0 := by
  intro S S_p r r_p hinv hX hin hsm_ hseg
  obtain ⟨I0, I1, h0_, hr_, b_, f_, d_⟩ := bx_cl (evs := []) (fvs := []) hseg (by decide +kernel) (by decide +kernel)
  have hinv : rxILWD_6 S0 ws S (r 8) := hinv
  rw [← hr_ 8 (by decide)] at hinv
  obtain ⟨⟨l8, u8⟩, -⟩ := b_
  have w_ := d_
  subst w_
  have g := rxdLWD_6_0 hP hin hsm_ I0 I1 hinv l8 u8
  refine ⟨bx_narP_ok (l := []) g.1, ?_⟩
  show rxPSLWD S0 ws S_p (some (bx_num r_p (.inr (0, (8, 0)))))
  rw [bx_xv_ok h0_]
  exact g.2
theorem rxdLWD_8_0 {S0 : Nat → Int → Int} {ws : List Int} {S : Nat → Int → Int} {res : Int} (hP : rxPLWD S0 ws) (hin : bx_same rxL (bx_mdl rxC241.2.2.1) S0 S) (hin2 : bx_same rxL (bx_mdl rxC241.2.2.1) S (bx_up S 0 8 0)) (I0 : bx_Inv rxL S) (I1 : bx_Inv rxL (bx_up S 0 8 0)) (hinv : rxILWD_8 S0 ws S res) (l8 : (-1) ≤ res) (u8 : res ≤ 5) : (True) ∧ rxPSLWD S0 ws (bx_up S 0 8 0) (some res) := by
  obtain ⟨hr, h6, hw, h4, h0, h1, h2, r, r1, r2, r3⟩ := hinv
  exact ⟨trivial, hw, Or.inr ⟨h6, ((bx_up_ne (by omega))).trans h4, r, r1, Or.inl ⟨r2, congrArg some hr, ((bx_up_ne (by omega))).trans r3, ((bx_up_ne (by omega))).trans h0, ((bx_up_ne (by omega))).trans h1, ((bx_up_ne (by omega))).trans h2⟩⟩⟩
theorem rxfLWD_8_0 {X : (Nat → Int → Int) → Prop} {S0 : Nat → Int → Int} {ws : List Int} (hP : rxPLWD S0 ws) : bx_obE rxL X S0 rxC241.2.2.1 (rxILWD S0 ws) (rxPSLWD S0 ws) 8 rxzLWD_8 rxeLWD_8_0 := by
  intro S S_p r r_p hinv hX hin hsm_ hseg
  obtain ⟨I0, I1, h0_, hr_, b_, f_, d_⟩ := bx_cl (evs := [(1, (0, 0), (0, 8), .inr (0, (0, 0)))]) (fvs := []) hseg (by decide +kernel) (by decide +kernel)
  have hinv : rxILWD_8 S0 ws S (r 8) := hinv
  rw [← hr_ 8 (by decide)] at hinv
  obtain ⟨⟨l8, u8⟩, -⟩ := b_
  obtain ⟨T0, w_, w0⟩ := d_
  subst w0
  subst w_
  have g := rxdLWD_8_0 hP hin hsm_ I0 I1 hinv l8 u8
  refine ⟨bx_narP_ok (l := []) g.1, ?_⟩
  show rxPSLWD S0 ws (bx_up T0 0 (8) (0)) (some (bx_num r_p (.inr (0, (8, 0)))))
  rw [bx_xv_ok h0_]
  exact g.2
theorem rxgCLWD {X : (Nat → Int → Int) → Prop} {S0 : Nat → Int → Int} {ws : List Int} (hP : rxPLWD S0 ws) : bx_allI (fun i q => rxULWD q = true ∨ bx_allP (fun o => bx_obC rxL X S0 rxC241.2.2.1 (rxILWD S0 ws) (rxmLWD S0 ws) i q.1 o) q.2.1) 0 rxYLWD := ⟨Or.inr ⟨rxgLWD_0_0 hP, rxgLWD_0_1 hP, trivial⟩, Or.inl rfl, Or.inr trivial, Or.inl rfl, Or.inr ⟨rxgLWD_4_0 hP, rxgLWD_4_1 hP, trivial⟩, Or.inl rfl, Or.inr trivial, Or.inl rfl, Or.inr trivial, trivial⟩
theorem rxgELWD {X : (Nat → Int → Int) → Prop} {S0 : Nat → Int → Int} {ws : List Int} (hP : rxPLWD S0 ws) : bx_allI (fun i q => rxULWD q = true ∨ bx_allP (fun E => bx_obE rxL X S0 rxC241.2.2.1 (rxILWD S0 ws) (rxPSLWD S0 ws) i q.1 E) q.2.2) 0 rxYLWD := ⟨Or.inr trivial, Or.inl rfl, Or.inr ⟨rxfLWD_2_0 hP, trivial⟩, Or.inl rfl, Or.inr trivial, Or.inl rfl, Or.inr ⟨rxfLWD_6_0 hP, trivial⟩, Or.inl rfl, Or.inr ⟨rxfLWD_8_0 hP, trivial⟩, trivial⟩
theorem rxuLWD {PX : State → Prop} {Dg : va_G} {A : Nat → Prop} {ad xa : Nat → Nat} {l : Launch} {X : (Nat → Int → Int) → Prop} (hPX : rx_PXOK rxNW A PX) (hX : ∀ S S1 : Nat → Int → Int, X S → bx_same rxL (bx_mdl rxC241.2.2.1) S S1 → X S1) (hQ110 : bx_ConP rxG rxNW rxAO PX Dg rxL X vwCl A ad l rxM110 rxC110 rxP110 rxPS110) (hQRDX : bx_ConP rxG rxNW rxAO PX Dg rxL X vwCl A ad l rxM119 rxCRDX rxPRDX rxPSRDX) (hQADL : bx_ConP rxG rxNW rxAO PX Dg rxL X vwCl A ad l rxM121 rxC121 rxPADL rxPSADL) {S0 : Nat → Int → Int} {ws : List Int} (hP : rxPLWD S0 ws) : ∀ (i : Nat) (q : bx_HE), rxYLWD[i]? = some q → rxULWD q = true → ∀ {p : Program} {e : Env} {R : Room} {s : State} {m : MethodId} {args : Array Value} {below : List Frame} {meth : Method} {c : Code} {Q : State → Prop} {H0 : Heap}, rx_Fr rxG rxNW rxAO PX p s m args meth c rxM241 → (∀ q, H0.size ≤ q → A q) → H0 = s.heap → rxM241.2.2.2.2.2.2.1 ≤ R.cells → rxM241.2.2.2.2.2.2.2 ≤ R.slots → rxC241.2.2.2.1 ≤ R.frames → rxC241.2.2.2.1 * 40 ≤ R.locals → bx_Step p l e R s m args below meth c Q Dg rxL X vwCl A xa H0 ad rxM241 rxYLWD (rxILWD S0 ws) (rxmLWD S0 ws) S0 rxC241.2.2.1 i q := by
  intro i q hq hus p e R s m args below meth c Q H0 hF hA hH0 hmc hms hd hdl
  match i, hq with
  | 0, hq =>
    cases hq
    exact absurd (show false = true from hus) Bool.false_ne_true
  | 1, hq =>
    cases hq
    exact rx_stepC (ins := .invokevirtual 110) (len := 3) (i_p := 2) (M_p := rxM110) (d := rxC241.2.2.2.1) (as := [.inr (3, (0, 0)), .inr (0, (0, (-5)))]) (t := []) (ct := rxC110) hPX hF rfl hA hH0 hmc hms hd hdl (by decide +kernel) rfl rfl (by decide +kernel) (by decide +kernel) hQ110 (by decide +kernel) rfl (Or.inr ⟨_, _, _, 1, rfl, rfl, by omega, rfl, rfl, rfl⟩) (rxsLWD_1 hP)
  | 2, hq =>
    cases hq
    exact absurd (show false = true from hus) Bool.false_ne_true
  | 3, hq =>
    cases hq
    exact rx_stepC (ins := .invokevirtual 212) (len := 3) (i_p := 4) (M_p := rxM119) (d := rxC241.2.2.2.1) (as := [.inr (3, (0, 412)), .inr (3, (0, 411)), .inr (0, (8, 0)), .inr (0, (0, 0)), .inr (3, (0, 427))]) (t := []) (ct := rxCRDX) hPX hF rfl hA hH0 hmc hms hd hdl (by decide +kernel) rfl rfl (by decide +kernel) (by decide +kernel) hQRDX (by decide +kernel) rfl (Or.inr ⟨_, _, _, 1, rfl, rfl, by omega, rfl, rfl, rfl⟩) (rxsLWD_3 hP)
  | 4, hq =>
    cases hq
    exact absurd (show false = true from hus) Bool.false_ne_true
  | 5, hq =>
    cases hq
    exact rx_stepC (ins := .invokevirtual 110) (len := 3) (i_p := 6) (M_p := rxM110) (d := rxC241.2.2.2.1) (as := [.inr (3, (0, 0)), .inr (0, (0, (-6)))]) (t := []) (ct := rxC110) hPX hF rfl hA hH0 hmc hms hd hdl (by decide +kernel) rfl rfl (by decide +kernel) (by decide +kernel) hQ110 (by decide +kernel) rfl (Or.inr ⟨_, _, _, 1, rfl, rfl, by omega, rfl, rfl, rfl⟩) (rxsLWD_5 hP)
  | 6, hq =>
    cases hq
    exact absurd (show false = true from hus) Bool.false_ne_true
  | 7, hq =>
    cases hq
    exact rx_stepC (ins := .invokevirtual 223) (len := 3) (i_p := 8) (M_p := rxM121) (d := rxC241.2.2.2.1) (as := [.inr (3, (0, 1)), .inr (3, (0, 427))]) (t := [.inr (3, (0, 0))]) (ct := rxC121) hPX hF rfl hA hH0 hmc hms hd hdl (by decide +kernel) rfl rfl (by decide +kernel) (by decide +kernel) hQADL (by decide +kernel) rfl (Or.inr ⟨_, _, _, 1, rfl, rfl, by omega, rfl, rfl, rfl⟩) (rxsLWD_7 hP)
  | 8, hq =>
    cases hq
    exact absurd (show false = true from hus) Bool.false_ne_true
  | n + 9, hq => cases hq
theorem rxQLWD {PX : State → Prop} {Dg : va_G} {A : Nat → Prop} {ad xa : Nat → Nat} {l : Launch} {X : (Nat → Int → Int) → Prop} (hPX : rx_PXOK rxNW A PX) (hsl : ∀ s : State, PX s → ∀ o idx n : Nat, rxSl o idx = some n → ∃ tx : String, vk_R (rxNm o) idx tx (ad n) s)
    (hX : ∀ S S_p : Nat → Int → Int, X S → bx_same rxL (bx_mdl rxC241.2.2.1) S S_p → X S_p)
    (ih : ∀ (j2 : Nat) (ct2 : bx_Ct) (M2 : rx_Mt), ct2 ∈ rxCnE j2 → ct2.2.2.2.1 + 1 ≤ rxC241.2.2.2.1 → rxT.2.2.2.2.2 j2 = some M2 → bx_Con rxG rxNW rxAO PX Dg rxL X vwCl A ad l M2 ct2) (hQ110 : bx_ConP rxG rxNW rxAO PX Dg rxL X vwCl A ad l rxM110 rxC110 rxP110 rxPS110) (hQRDX : bx_ConP rxG rxNW rxAO PX Dg rxL X vwCl A ad l rxM119 rxCRDX rxPRDX rxPSRDX) (hQADL : bx_ConP rxG rxNW rxAO PX Dg rxL X vwCl A ad l rxM121 rxC121 rxPADL rxPSADL) : bx_ConP rxG rxNW rxAO PX Dg rxL X vwCl A ad l rxM241 rxC241 rxPLWD rxPSLWD :=
  rxQof (xa := xa) (Cn := rxCnE) (f := 30000) (j := 241) (tab := rxYLWD) (us := rxULWD) hPX hsl hX ih rfl rxYcLWD rxILWD rxmLWD
    (fun S0 ws r I0 I ht0 ht as he he1 hX0 hI0 hP hs ha => by
      have e := he.symm.trans (show bx_ent0 rxNP rxC241.1 bx_I0 [] = some ([(0, 0), (0, 0), (0, 0), (0, 0), (0, 0), (0, 0), (0, 0), (0, 0)], [], [.inr (3, (0, 0))]) from rfl)
      cases e
      subst ha
      have h0 : r 0 = 0 := hs.1
      show rxILWD_0 S0 _ S0
      refine ⟨rfl, ?_⟩
      simp only [List.map_cons, List.map_nil, bx_xv_ok h0]
      rfl)
    (fun S0 ws hP => rxuLWD (xa := xa) hPX hX hQ110 hQRDX hQADL hP) (fun S0 ws hP => rxgCLWD hP) (fun S0 ws hP => rxgELWD hP)
/-! CONTRACT BY HAND, by program (wip/sim/genhand.py): DeadUnderstudies.play -/
def rxIPLY_0 (S0 : Nat → Int → Int) (ws : List Int) (S : Nat → Int → Int) (pa : Int) : Prop := S = S0 ∧ ws = [0, pa]
def rxmPLY_0 (S0 : Nat → Int → Int) (ws : List Int) (S : Nat → Int → Int) (pa : Int) : Nat := 100
def rxzPLY_0 : rx_Z := ([(0, 0), (0, 0), (0, 0), (0, 0), (0, 0), (0, 0), (0, 0), (0, 0), ((-2147483648), 2147483647)], [], [], 0, 0, 0, [(0, .inr (3, (0, 0))), (1, .inr (0, (8, 0)))], [])
def rxIPLY_1 (S0 : Nat → Int → Int) (ws : List Int) (S : Nat → Int → Int) (pa : Int) : Prop := S = S0 ∧ (pa < 0 ∨ S0 1 0 ≤ pa) ∧ ws = [0, pa]
def rxmPLY_1 (S0 : Nat → Int → Int) (ws : List Int) (S : Nat → Int → Int) (pa : Int) : Nat := 90
def rxzPLY_1 : rx_Z := ([(0, 0), (0, 0), (0, 0), (0, 0), (0, 0), (0, 0), (0, 0), (0, 0), ((-2147483648), 2147483647)], [], [], 0, 0, 14, [(0, .inr (3, (0, 0))), (1, .inr (0, (8, 0)))], [.inr (0, (0, (-2))), .inr (3, (0, 0))])
def rxIPLY_2 (S0 : Nat → Int → Int) (ws : List Int) (S : Nat → Int → Int) (pa res : Int) : Prop := (pa < 0 ∨ S0 1 0 ≤ pa) ∧ ws = [0, pa] ∧ S 0 4 = S0 0 4 ∧ S 412 4 = S0 412 4
def rxmPLY_2 (S0 : Nat → Int → Int) (ws : List Int) (S : Nat → Int → Int) (pa res : Int) : Nat := 80
def rxzPLY_2 : rx_Z := ([(0, 0), (0, 0), (0, 0), (0, 0), (0, 0), (0, 0), (0, 0), (0, 0), ((-2147483648), 2147483647), ((-6), (-1))], [], [], 0, 0, 17, [(0, .inr (3, (0, 0))), (1, .inr (0, (8, 0)))], [.inr (0, (9, 0))])
def rxIPLY_3 (S0 : Nat → Int → Int) (ws : List Int) (S : Nat → Int → Int) (pa nb : Int) : Prop := S = S0 ∧ 0 ≤ pa ∧ pa < S0 1 0 ∧ nb = S0 0 4 ∧ ws = [0, pa]
def rxmPLY_3 (S0 : Nat → Int → Int) (ws : List Int) (S : Nat → Int → Int) (pa nb : Int) : Nat := 70
def rxzPLY_3 : rx_Z := ([(0, 0), (0, 0), (0, 0), (0, 0), (0, 0), (0, 0), (0, 0), (0, 0), (0, 5), (0, 400)], [], [], 0, 0, 35, [(0, .inr (3, (0, 0))), (1, .inr (0, (8, 0)))], [.inr (3, (0, 427)), .inr (0, (0, 1)), .inr (0, (9, 0)), .inr (3, (0, 411)), .inr (3, (0, 412))])
def rxIPLY_4 (S0 : Nat → Int → Int) (ws : List Int) (S : Nat → Int → Int) (pa nb res : Int) : Prop := 0 ≤ pa ∧ pa < S0 1 0 ∧ ws = [0, pa] ∧ ∃ r : rzR, rzText (decide ((1 : Int) = 1)) (rzCut (S0 411)) (S0 0 4) r ∧ ((res = 1 ∧ r.1 = true ∧ S 412 4 = -1) ∨ (res = 0 ∧ r.1 = false ∧ S 412 4 = r.2.1))
def rxmPLY_4 (S0 : Nat → Int → Int) (ws : List Int) (S : Nat → Int → Int) (pa nb res : Int) : Nat := 60
def rxzPLY_4 : rx_Z := ([(0, 0), (0, 0), (0, 0), (0, 0), (0, 0), (0, 0), (0, 0), (0, 0), (0, 5), (0, 400), (0, 1)], [], [], 0, 0, 38, [(0, .inr (3, (0, 0))), (1, .inr (0, (8, 0)))], [.inr (0, (10, 0))])
def rxIPLY_5 (S0 : Nat → Int → Int) (ws : List Int) (S : Nat → Int → Int) (pa : Int) : Prop := 0 ≤ pa ∧ pa < S0 1 0 ∧ ws = [0, pa] ∧ S 0 4 = 0 ∧ ∃ r : rzR, rzText (decide ((1 : Int) = 1)) (rzCut (S0 411)) (S0 0 4) r ∧ r.1 = false ∧ S 412 4 = r.2.1
def rxmPLY_5 (S0 : Nat → Int → Int) (ws : List Int) (S : Nat → Int → Int) (pa : Int) : Nat := 50
def rxzPLY_5 : rx_Z := ([(0, 0), (0, 0), (0, 0), (0, 0), (0, 0), (0, 0), (0, 0), (0, 0), (0, 5)], [], [], 0, 0, 70, [(0, .inr (3, (0, 0))), (1, .inr (0, (8, 0)))], [.inr (0, (0, (-6))), .inr (3, (0, 0))])
def rxIPLY_6 (S0 : Nat → Int → Int) (ws : List Int) (S : Nat → Int → Int) (pa res : Int) : Prop := 0 ≤ pa ∧ pa < S0 1 0 ∧ ws = [0, pa] ∧ S 0 4 = 0 ∧ ∃ r : rzR, rzText (decide ((1 : Int) = 1)) (rzCut (S0 411)) (S0 0 4) r ∧ r.1 = false ∧ S 412 4 = r.2.1
def rxmPLY_6 (S0 : Nat → Int → Int) (ws : List Int) (S : Nat → Int → Int) (pa res : Int) : Nat := 40
def rxzPLY_6 : rx_Z := ([(0, 0), (0, 0), (0, 0), (0, 0), (0, 0), (0, 0), (0, 0), (0, 0), (0, 5), ((-6), (-1))], [], [], 0, 0, 73, [(0, .inr (3, (0, 0))), (1, .inr (0, (8, 0)))], [.inr (0, (9, 0))])
def rxoPLY_0_0 : bx_HO := (([(0, 0), (0, 0), (0, 0), (0, 0), (0, 0), (0, 0), (0, 0), (0, 0), ((-2147483648), (-1))], [], [(((0, 0), 0), .inr (3, (0, 1)))], 0, 0, 14, [(0, .inr (3, (0, 0))), (1, .inr (0, (8, 0)))], [.inr (0, (0, (-2))), .inr (3, (0, 0))]), [], [], [(0, 0), (0, 0), (0, 0), (0, 0), (0, 0), (0, 0), (0, 0), (0, 0), (8, 0)], 1)
def rxoPLY_0_1 : bx_HO := (([(0, 0), (0, 0), (0, 0), (0, 0), (0, 0), (0, 0), (0, 0), (0, 0), (0, 2147483647), (0, 6)], [(1, (9, 0), (8, 0))], [(((0, 0), 1851192626986356797424340330377019318111018015026043177553952768000000), .inr (0, (9, 0))), (((0, 1), 0), .inr (0, (9, 0))), (((0, 0), 0), .inr (3, (0, 1)))], 0, 0, 14, [(0, .inr (3, (0, 0))), (1, .inr (0, (8, 0)))], [.inr (0, (0, (-2))), .inr (3, (0, 0))]), [], [], [(0, 0), (0, 0), (0, 0), (0, 0), (0, 0), (0, 0), (0, 0), (0, 0), (8, 0)], 1)
def rxoPLY_0_2 : bx_HO := (([(0, 0), (0, 0), (0, 0), (0, 0), (0, 0), (0, 0), (0, 0), (0, 0), (0, 5), (1, 6), (0, 400)], [(0, (8, 0), (9, 0))], [(((0, 0), 6), .inr (3, (0, 427))), (((0, 0), 1851192626986356798227167157524121751206303872841384191768657920000000), .inr (0, (10, 0))), (((0, 0), 4), .inr (0, (10, 0))), (((0, 0), 3), .inr (3, (0, 411))), (((0, 0), 5), .inr (3, (0, 412))), (((0, 0), 1851192626986356797424340330377019318111018015026043177553952768000000), .inr (0, (9, 0))), (((0, 1), 0), .inr (0, (9, 0))), (((0, 0), 0), .inr (3, (0, 1)))], 0, 0, 35, [(0, .inr (3, (0, 0))), (1, .inr (0, (8, 0)))], [.inr (3, (0, 427)), .inr (0, (0, 1)), .inr (0, (10, 0)), .inr (3, (0, 411)), .inr (3, (0, 412))]), [], [], [(0, 0), (0, 0), (0, 0), (0, 0), (0, 0), (0, 0), (0, 0), (0, 0), (8, 0), (10, 0)], 3)
def rxePLY_2_0 : rx_End × List (Nat × Int × Int) := (([(0, 0), (0, 0), (0, 0), (0, 0), (0, 0), (0, 0), (0, 0), (0, 0), ((-2147483648), 2147483647), ((-6), (-1))], [], [], some (.inr (0, (9, 0)))), [])
def rxoPLY_4_0 : bx_HO := (([(0, 0), (0, 0), (0, 0), (0, 0), (0, 0), (0, 0), (0, 0), (0, 0), (0, 5), (0, 400), (0, 0)], [], [(((0, 0), 1851192626986356798227167157524121751206303872841384191768657923000000), .inr (0, (0, 0))), (((0, 0), 4), .inr (0, (0, 0)))], 0, 0, 70, [(2, .inr (0, (10, 0))), (0, .inr (3, (0, 0))), (1, .inr (0, (8, 0)))], [.inr (0, (0, (-6))), .inr (3, (0, 0))]), [], [], [(0, 0), (0, 0), (0, 0), (0, 0), (0, 0), (0, 0), (0, 0), (0, 0), (8, 0)], 5)
def rxePLY_4_0 : rx_End × List (Nat × Int × Int) := (([(0, 0), (0, 0), (0, 0), (0, 0), (0, 0), (0, 0), (0, 0), (0, 0), (0, 5), (0, 400), (1, 1), ((-2147483648), 2147483647)], [(3, (10, 0), (0, 0))], [(((0, 0), 1851192626986356799029993984671224184301589730656725205983952899000000), .inr (0, (0, 0))), (((0, 0), 8), .inr (0, (0, 0))), (((0, 0), 916200006000000), .inl none), (((0, 0), 917100006000000), .inl none), (((0, 0), 918000006000000), .inl none), (((0, 0), 920700006000000), .inl none), (((0, 0), 89999100006000000), .inl none), (((0, 0), 6), .inr (3, (0, 427))), (((0, 0), 0), .inr (3, (0, 1))), (((0, 0), 1851192626986356798227167157524121751206303872841384191768657923000000), .inr (0, (0, 0))), (((0, 0), 4), .inr (0, (0, 0)))], some (.inr (0, (11, 0)))), [])
def rxePLY_6_0 : rx_End × List (Nat × Int × Int) := (([(0, 0), (0, 0), (0, 0), (0, 0), (0, 0), (0, 0), (0, 0), (0, 0), (0, 5), ((-6), (-1))], [], [], some (.inr (0, (9, 0)))), [])
def rxYPLY : List bx_HE := [(rxzPLY_0, [rxoPLY_0_0, rxoPLY_0_1, rxoPLY_0_2], []), (rxzPLY_1, [], []), (rxzPLY_2, [], [rxePLY_2_0]), (rxzPLY_3, [], []), (rxzPLY_4, [rxoPLY_4_0], [rxePLY_4_0]), (rxzPLY_5, [], []), (rxzPLY_6, [], [rxePLY_6_0])]
def rxUPLY (q : bx_HE) : Bool := Nat.beq (rx_zpc q.1) 14 || Nat.beq (rx_zpc q.1) 35 || Nat.beq (rx_zpc q.1) 70
def rxYBPLY : bx_B := (rxV, rxNP, rxDmf, bx_mdH rxC239.2.2.1)
set_option maxRecDepth 100000 in
theorem rxYcPLY : bx_chkH rxYBPLY rxM239 rxC239 rxYPLY (rxUPLY, fun cut z => rx_ex2 (rxCT rxYBPLY rxCn) cut 30000 rxC239.2.2.2.1 239 z) = true := by decide +kernel
def rxIPLY (S0 : Nat → Int → Int) (ws : List Int) (i : Nat) : bx_SP := fun S r => match i with | 0 => rxIPLY_0 S0 ws S (r 8) | 1 => rxIPLY_1 S0 ws S (r 8) | 2 => rxIPLY_2 S0 ws S (r 8) (r 9) | 3 => rxIPLY_3 S0 ws S (r 8) (r 9) | 4 => rxIPLY_4 S0 ws S (r 8) (r 9) (r 10) | 5 => rxIPLY_5 S0 ws S (r 8) | 6 => rxIPLY_6 S0 ws S (r 8) (r 9) | _ => False
def rxmPLY (S0 : Nat → Int → Int) (ws : List Int) (i : Nat) (S : Nat → Int → Int) (r : Nat → Int) : Nat := match i with | 0 => rxmPLY_0 S0 ws S (r 8) | 1 => rxmPLY_1 S0 ws S (r 8) | 2 => rxmPLY_2 S0 ws S (r 8) (r 9) | 3 => rxmPLY_3 S0 ws S (r 8) (r 9) | 4 => rxmPLY_4 S0 ws S (r 8) (r 9) (r 10) | 5 => rxmPLY_5 S0 ws S (r 8) | 6 => rxmPLY_6 S0 ws S (r 8) (r 9) | _ => 0
def rxPPLY (S0 : Nat → Int → Int) (ws : List Int) : Prop := True
def rxPSPLY (S0 : Nat → Int → Int) (ws : List Int) (S : Nat → Int → Int) (w : Option Int) : Prop := ∃ pa : Int, ws = [0, pa] ∧ (((pa < 0 ∨ S0 1 0 ≤ pa) ∧ S 0 4 = S0 0 4 ∧ S 412 4 = S0 412 4) ∨ (0 ≤ pa ∧ pa < S0 1 0 ∧ S 0 4 = 0 ∧ ∃ r : rzR, rzText (decide ((1 : Int) = 1)) (rzCut (S0 411)) (S0 0 4) r ∧ ((r.1 = true ∧ S 412 4 = -1) ∨ (r.1 = false ∧ S 412 4 = r.2.1))))
theorem rxkPLY_1 {S0 : Nat → Int → Int} {ws : List Int} {S : Nat → Int → Int} {pa : Int} (hP : rxPPLY S0 ws) (hin : bx_same rxL (bx_mdl rxC239.2.2.1) S0 S) (I0 : bx_Inv rxL S) (hinv : rxIPLY_1 S0 ws S pa) (l8 : (-2147483648) ≤ pa) (u8 : pa ≤ 2147483647) : rxP110 S [0, (-2)] ∧ ∀ (S_p : Nat → Int → Int) (res : Int), (-6) ≤ res → res ≤ (-1) → rxPS110 S [0, (-2)] S_p (some res) → bx_Inv rxL S_p → bx_same rxL (bx_mdl rxC110.2.2.1) S S_p → rxIPLY_2 S0 ws S_p pa res ∧ rxmPLY_2 S0 ws S_p pa res < rxmPLY_1 S0 ws S pa := by
  obtain ⟨rfl, hg, hw⟩ := hinv
  exact ⟨trivial, fun S_p res _ _ hq _ hsm => ⟨⟨hg, hw, (hsm 0 4 (by decide) (by decide) (by decide +kernel)), (hsm 412 4 (by decide) (by decide) (by decide +kernel))⟩, by unfold rxmPLY_1 rxmPLY_2; omega⟩⟩
theorem rxsPLY_1 {X : (Nat → Int → Int) → Prop} {S0 : Nat → Int → Int} {ws : List Int} (hP : rxPPLY S0 ws) : rx_obK X S0 rxC239.2.2.1 rxC110.2.2.1 (rxIPLY S0 ws) (rxmPLY S0 ws) 1 2 rxzPLY_1 rxzPLY_2 [.inr (3, (0, 0)), .inr (0, (0, (-2)))] (some 9) rxP110 rxPS110 := by
  intro S r hinv hXS I0 hin hs_ hf_
  have b_ := bx_bds_sat hs_
  have f_ := bx_fcl_ok hs_.1 hf_
  obtain ⟨⟨l8, u8⟩, -⟩ := b_
  have g := rxkPLY_1 hP hin I0 hinv l8 u8
  have ea : List.map (bx_num r) [.inr (3, (0, 0)), .inr (0, (0, (-2)))] = [0, -2] := by
    simp only [List.map_cons, List.map_nil, bx_xv_ok hs_.1]
    rfl
  rw [ea]
  refine ⟨g.1, fun S_p w r_p hPS hX_p I1 hsm hr hw hs_p => ?_⟩
  have hw := hw _ rfl
  subst hw
  have b_p := hs_p.2.2 9 _ _ rfl
  have g2 := g.2 S_p (r_p 9) b_p.1 b_p.2 hPS I1 hsm
  show rxIPLY_2 S0 ws S_p (r_p 8) (r_p 9) ∧ rxmPLY_2 S0 ws S_p (r_p 8) (r_p 9) < _
  rw [hr 8 (by decide)]
  exact g2
theorem rxkPLY_3 {S0 : Nat → Int → Int} {ws : List Int} {S : Nat → Int → Int} {pa nb : Int} (hP : rxPPLY S0 ws) (hin : bx_same rxL (bx_mdl rxC239.2.2.1) S0 S) (I0 : bx_Inv rxL S) (hinv : rxIPLY_3 S0 ws S pa nb) (l8 : 0 ≤ pa) (u8 : pa ≤ 5) (l9 : 0 ≤ nb) (u9 : nb ≤ 400) : rxPRDX S [412, 411, nb, 1, 427] ∧ ∀ (S_p : Nat → Int → Int) (res : Int), 0 ≤ res → res ≤ 1 → rxPSRDX S [412, 411, nb, 1, 427] S_p (some res) → bx_Inv rxL S_p → bx_same rxL (bx_mdl rxCRDX.2.2.1) S S_p → rxIPLY_4 S0 ws S_p pa nb res ∧ rxmPLY_4 S0 ws S_p pa nb res < rxmPLY_3 S0 ws S pa nb := by
  obtain ⟨hS, p0, p1, hnb, hw⟩ := hinv
  subst hS
  refine ⟨trivial, fun S_p res _ _ hq _ hsm => ⟨?_, by unfold rxmPLY_3 rxmPLY_4; omega⟩⟩
  obtain ⟨nb2, ap2, hw2, r, r1, r2⟩ := hq
  have e1 : nb = nb2 := Option.some.inj (congrArg (fun l : List Int => l[2]?) hw2)
  have e2 : (1 : Int) = ap2 := Option.some.inj (congrArg (fun l : List Int => l[3]?) hw2)
  subst e2
  rw [← e1, hnb] at r1
  refine ⟨p0, p1, hw, ?_⟩
  rcases r2 with ⟨a, b, c⟩ | ⟨a, b, c⟩
  · exact ⟨r, r1, Or.inl ⟨Option.some.inj a, b, c⟩⟩
  · exact ⟨r, r1, Or.inr ⟨Option.some.inj a, b, c⟩⟩
theorem rxsPLY_3 {X : (Nat → Int → Int) → Prop} {S0 : Nat → Int → Int} {ws : List Int} (hP : rxPPLY S0 ws) : rx_obK X S0 rxC239.2.2.1 rxCRDX.2.2.1 (rxIPLY S0 ws) (rxmPLY S0 ws) 3 4 rxzPLY_3 rxzPLY_4 [.inr (3, (0, 412)), .inr (3, (0, 411)), .inr (0, (9, 0)), .inr (0, (0, 1)), .inr (3, (0, 427))] (some 10) rxPRDX rxPSRDX := by
  intro S r hinv hXS I0 hin hs_ hf_
  have b_ := bx_bds_sat hs_
  have f_ := bx_fcl_ok hs_.1 hf_
  obtain ⟨⟨l8, u8⟩, ⟨l9, u9⟩, -⟩ := b_
  have g := rxkPLY_3 hP hin I0 hinv l8 u8 l9 u9
  have ea : List.map (bx_num r) [.inr (3, (0, 412)), .inr (3, (0, 411)), .inr (0, (9, 0)), .inr (0, (0, 1)), .inr (3, (0, 427))] = [412, 411, (r 9), 1, 427] := by
    simp only [List.map_cons, List.map_nil, bx_xv_ok hs_.1]
    rfl
  rw [ea]
  refine ⟨g.1, fun S_p w r_p hPS hX_p I1 hsm hr hw hs_p => ?_⟩
  have hw := hw _ rfl
  subst hw
  have b_p := hs_p.2.2 10 _ _ rfl
  have g2 := g.2 S_p (r_p 10) b_p.1 b_p.2 hPS I1 hsm
  show rxIPLY_4 S0 ws S_p (r_p 8) (r_p 9) (r_p 10) ∧ rxmPLY_4 S0 ws S_p (r_p 8) (r_p 9) (r_p 10) < _
  rw [hr 8 (by decide), hr 9 (by decide)]
  exact g2
theorem rxkPLY_5 {S0 : Nat → Int → Int} {ws : List Int} {S : Nat → Int → Int} {pa : Int} (hP : rxPPLY S0 ws) (hin : bx_same rxL (bx_mdl rxC239.2.2.1) S0 S) (I0 : bx_Inv rxL S) (hinv : rxIPLY_5 S0 ws S pa) (l8 : 0 ≤ pa) (u8 : pa ≤ 5) : rxP110 S [0, (-6)] ∧ ∀ (S_p : Nat → Int → Int) (res : Int), (-6) ≤ res → res ≤ (-1) → rxPS110 S [0, (-6)] S_p (some res) → bx_Inv rxL S_p → bx_same rxL (bx_mdl rxC110.2.2.1) S S_p → rxIPLY_6 S0 ws S_p pa res ∧ rxmPLY_6 S0 ws S_p pa res < rxmPLY_5 S0 ws S pa := by
  obtain ⟨p0, p1, hw, h4, r, r1, r2, r3⟩ := hinv
  exact ⟨trivial, fun S_p res _ _ hq _ hsm => ⟨⟨p0, p1, hw, (hsm 0 4 (by decide) (by decide) (by decide +kernel)).trans h4, r, r1, r2, (hsm 412 4 (by decide) (by decide) (by decide +kernel)).trans r3⟩, by unfold rxmPLY_5 rxmPLY_6; omega⟩⟩
theorem rxsPLY_5 {X : (Nat → Int → Int) → Prop} {S0 : Nat → Int → Int} {ws : List Int} (hP : rxPPLY S0 ws) : rx_obK X S0 rxC239.2.2.1 rxC110.2.2.1 (rxIPLY S0 ws) (rxmPLY S0 ws) 5 6 rxzPLY_5 rxzPLY_6 [.inr (3, (0, 0)), .inr (0, (0, (-6)))] (some 9) rxP110 rxPS110 := by
  intro S r hinv hXS I0 hin hs_ hf_
  have b_ := bx_bds_sat hs_
  have f_ := bx_fcl_ok hs_.1 hf_
  obtain ⟨⟨l8, u8⟩, -⟩ := b_
  have g := rxkPLY_5 hP hin I0 hinv l8 u8
  have ea : List.map (bx_num r) [.inr (3, (0, 0)), .inr (0, (0, (-6)))] = [0, -6] := by
    simp only [List.map_cons, List.map_nil, bx_xv_ok hs_.1]
    rfl
  rw [ea]
  refine ⟨g.1, fun S_p w r_p hPS hX_p I1 hsm hr hw hs_p => ?_⟩
  have hw := hw _ rfl
  subst hw
  have b_p := hs_p.2.2 9 _ _ rfl
  have g2 := g.2 S_p (r_p 9) b_p.1 b_p.2 hPS I1 hsm
  show rxIPLY_6 S0 ws S_p (r_p 8) (r_p 9) ∧ rxmPLY_6 S0 ws S_p (r_p 8) (r_p 9) < _
  rw [hr 8 (by decide)]
  exact g2
theorem rxcPLY_0_0 {S0 : Nat → Int → Int} {ws : List Int} {S : Nat → Int → Int} {pa : Int} (hP : rxPPLY S0 ws) (hin : bx_same rxL (bx_mdl rxC239.2.2.1) S0 S) (I0 : bx_Inv rxL S) (hinv : rxIPLY_0 S0 ws S pa) (l8 : (-2147483648) ≤ pa) (u8 : pa ≤ (-1)) : (True) ∧ (True) ∧ rxIPLY_1 S0 ws S pa ∧ rxmPLY_1 S0 ws S pa < rxmPLY_0 S0 ws S pa := by
  obtain ⟨rfl, hw⟩ := hinv
  exact ⟨trivial, trivial, ⟨rfl, by omega, hw⟩, by unfold rxmPLY_0 rxmPLY_1; omega⟩
theorem rxgPLY_0_0 {X : (Nat → Int → Int) → Prop} {S0 : Nat → Int → Int} {ws : List Int} (hP : rxPPLY S0 ws) : bx_obC rxL X S0 rxC239.2.2.1 (rxIPLY S0 ws) (rxmPLY S0 ws) 0 rxzPLY_0 rxoPLY_0_0 := by
  intro S S_p r r_p hinv hX hin hsm_ hseg
  obtain ⟨I0, I1, h0_, hr_, b_, f_, d_⟩ := bx_cl (evs := []) (fvs := []) hseg (by decide +kernel) (by decide +kernel)
  have hinv : rxIPLY_0 S0 ws S (r 8) := hinv
  rw [← hr_ 8 (by decide)] at hinv
  obtain ⟨⟨l8, u8⟩, -⟩ := b_
  have w_ := d_
  subst w_
  have g := rxcPLY_0_0 hP hin I0 hinv l8 u8
  refine ⟨bx_narP_ok (l := []) g.1, bx_nfP_ok h0_ (fvs := []) (by decide +kernel) g.2.1, ?_, ?_⟩
  · show rxIPLY_1 S0 ws S_p (bx_val [(0, 0), (0, 0), (0, 0), (0, 0), (0, 0), (0, 0), (0, 0), (0, 0), (8, 0)] r_p 8)
    rw [bx_val_x (n := 8) (e := (8, 0)) h0_ rfl]
    exact g.2.2.1
  · show rxmPLY_1 S0 ws S_p (bx_val [(0, 0), (0, 0), (0, 0), (0, 0), (0, 0), (0, 0), (0, 0), (0, 0), (8, 0)] r_p 8) < rxmPLY_0 S0 ws S_p (r 8)
    rw [bx_val_x (n := 8) (e := (8, 0)) h0_ rfl, ← hr_ 8 (by decide)]
    exact g.2.2.2
theorem rxcPLY_0_1 {S0 : Nat → Int → Int} {ws : List Int} {S : Nat → Int → Int} {pa x9 : Int} (hP : rxPPLY S0 ws) (hin : bx_same rxL (bx_mdl rxC239.2.2.1) S0 S) (I0 : bx_Inv rxL S) (hinv : rxIPLY_0 S0 ws S pa) (l8 : 0 ≤ pa) (u8 : pa ≤ 2147483647) (l9 : 0 ≤ x9) (u9 : x9 ≤ 6) (f0 : x9 ≤ pa) (e0 : S 1 0 = x9) : (True) ∧ (True) ∧ rxIPLY_1 S0 ws S pa ∧ rxmPLY_1 S0 ws S pa < rxmPLY_0 S0 ws S pa := by
  obtain ⟨rfl, hw⟩ := hinv
  exact ⟨trivial, trivial, ⟨rfl, by omega, hw⟩, by unfold rxmPLY_0 rxmPLY_1; omega⟩
theorem rxgPLY_0_1 {X : (Nat → Int → Int) → Prop} {S0 : Nat → Int → Int} {ws : List Int} (hP : rxPPLY S0 ws) : bx_obC rxL X S0 rxC239.2.2.1 (rxIPLY S0 ws) (rxmPLY S0 ws) 0 rxzPLY_0 rxoPLY_0_1 := by
  intro S S_p r r_p hinv hX hin hsm_ hseg
  obtain ⟨I0, I1, h0_, hr_, b_, f_, d_⟩ := bx_cl (evs := [(0, (0, 1), (0, 0), .inr (0, (9, 0)))]) (fvs := [(1, (9, 0), (8, 0), (0, 0))]) hseg (by decide +kernel) (by decide +kernel)
  have hinv : rxIPLY_0 S0 ws S (r 8) := hinv
  rw [← hr_ 8 (by decide)] at hinv
  obtain ⟨⟨l8, u8⟩, ⟨l9, u9⟩, -⟩ := b_
  obtain ⟨f0, -⟩ := f_
  obtain ⟨e0, w_⟩ := d_
  subst w_
  have g := rxcPLY_0_1 hP hin I0 hinv l8 u8 l9 u9 f0 e0
  refine ⟨bx_narP_ok (l := []) g.1, bx_nfP_ok h0_ (fvs := []) (by decide +kernel) g.2.1, ?_, ?_⟩
  · show rxIPLY_1 S0 ws S_p (bx_val [(0, 0), (0, 0), (0, 0), (0, 0), (0, 0), (0, 0), (0, 0), (0, 0), (8, 0)] r_p 8)
    rw [bx_val_x (n := 8) (e := (8, 0)) h0_ rfl]
    exact g.2.2.1
  · show rxmPLY_1 S0 ws S_p (bx_val [(0, 0), (0, 0), (0, 0), (0, 0), (0, 0), (0, 0), (0, 0), (0, 0), (8, 0)] r_p 8) < rxmPLY_0 S0 ws S_p (r 8)
    rw [bx_val_x (n := 8) (e := (8, 0)) h0_ rfl, ← hr_ 8 (by decide)]
    exact g.2.2.2
theorem rxcPLY_0_2 {S0 : Nat → Int → Int} {ws : List Int} {S : Nat → Int → Int} {pa x9 x10 : Int} (hP : rxPPLY S0 ws) (hin : bx_same rxL (bx_mdl rxC239.2.2.1) S0 S) (I0 : bx_Inv rxL S) (hinv : rxIPLY_0 S0 ws S pa) (l8 : 0 ≤ pa) (u8 : pa ≤ 5) (l9 : 1 ≤ x9) (u9 : x9 ≤ 6) (l10 : 0 ≤ x10) (u10 : x10 ≤ 400) (f0 : pa < x9) (e1 : S 1 0 = x9) (e0 : S 0 4 = x10) : (True) ∧ (True) ∧ rxIPLY_3 S0 ws S pa x10 ∧ rxmPLY_3 S0 ws S pa x10 < rxmPLY_0 S0 ws S pa := by
  obtain ⟨rfl, hw⟩ := hinv
  exact ⟨trivial, trivial, ⟨rfl, by omega, by omega, e0.symm, hw⟩, by unfold rxmPLY_0 rxmPLY_3; omega⟩
theorem rxgPLY_0_2 {X : (Nat → Int → Int) → Prop} {S0 : Nat → Int → Int} {ws : List Int} (hP : rxPPLY S0 ws) : bx_obC rxL X S0 rxC239.2.2.1 (rxIPLY S0 ws) (rxmPLY S0 ws) 0 rxzPLY_0 rxoPLY_0_2 := by
  intro S S_p r r_p hinv hX hin hsm_ hseg
  obtain ⟨I0, I1, h0_, hr_, b_, f_, d_⟩ := bx_cl (evs := [(0, (0, 0), (0, 4), .inr (0, (10, 0))), (0, (0, 1), (0, 0), .inr (0, (9, 0)))]) (fvs := [(0, (8, 0), (9, 0), (0, 0))]) hseg (by decide +kernel) (by decide +kernel)
  have hinv : rxIPLY_0 S0 ws S (r 8) := hinv
  rw [← hr_ 8 (by decide)] at hinv
  obtain ⟨⟨l8, u8⟩, ⟨l9, u9⟩, ⟨l10, u10⟩, -⟩ := b_
  obtain ⟨f0, -⟩ := f_
  obtain ⟨e0, ⟨e1, w_⟩⟩ := d_
  subst w_
  have g := rxcPLY_0_2 hP hin I0 hinv l8 u8 l9 u9 l10 u10 f0 e1 e0
  refine ⟨bx_narP_ok (l := []) g.1, bx_nfP_ok h0_ (fvs := []) (by decide +kernel) g.2.1, ?_, ?_⟩
  · show rxIPLY_3 S0 ws S_p (bx_val [(0, 0), (0, 0), (0, 0), (0, 0), (0, 0), (0, 0), (0, 0), (0, 0), (8, 0), (10, 0)] r_p 8) (bx_val [(0, 0), (0, 0), (0, 0), (0, 0), (0, 0), (0, 0), (0, 0), (0, 0), (8, 0), (10, 0)] r_p 9)
    rw [bx_val_x (n := 8) (e := (8, 0)) h0_ rfl, bx_val_x (n := 9) (e := (10, 0)) h0_ rfl]
    exact g.2.2.1
  · show rxmPLY_3 S0 ws S_p (bx_val [(0, 0), (0, 0), (0, 0), (0, 0), (0, 0), (0, 0), (0, 0), (0, 0), (8, 0), (10, 0)] r_p 8) (bx_val [(0, 0), (0, 0), (0, 0), (0, 0), (0, 0), (0, 0), (0, 0), (0, 0), (8, 0), (10, 0)] r_p 9) < rxmPLY_0 S0 ws S_p (r 8)
    rw [bx_val_x (n := 8) (e := (8, 0)) h0_ rfl, bx_val_x (n := 9) (e := (10, 0)) h0_ rfl, ← hr_ 8 (by decide)]
    exact g.2.2.2
theorem rxdPLY_2_0 {S0 : Nat → Int → Int} {ws : List Int} {S : Nat → Int → Int} {pa res : Int} (hP : rxPPLY S0 ws) (hin : bx_same rxL (bx_mdl rxC239.2.2.1) S0 S) (hin2 : bx_same rxL (bx_mdl rxC239.2.2.1) S S) (I0 : bx_Inv rxL S) (I1 : bx_Inv rxL S) (hinv : rxIPLY_2 S0 ws S pa res) (l8 : (-2147483648) ≤ pa) (u8 : pa ≤ 2147483647) (l9 : (-6) ≤ res) (u9 : res ≤ (-1)) : (True) ∧ rxPSPLY S0 ws S (some res) := by
  obtain ⟨hg, hw, h4, h5⟩ := hinv
  exact ⟨trivial, pa, hw, Or.inl ⟨hg, h4, h5⟩⟩
theorem rxfPLY_2_0 {X : (Nat → Int → Int) → Prop} {S0 : Nat → Int → Int} {ws : List Int} (hP : rxPPLY S0 ws) : bx_obE rxL X S0 rxC239.2.2.1 (rxIPLY S0 ws) (rxPSPLY S0 ws) 2 rxzPLY_2 rxePLY_2_0 := by
  intro S S_p r r_p hinv hX hin hsm_ hseg
  obtain ⟨I0, I1, h0_, hr_, b_, f_, d_⟩ := bx_cl (evs := []) (fvs := []) hseg (by decide +kernel) (by decide +kernel)
  have hinv : rxIPLY_2 S0 ws S (r 8) (r 9) := hinv
  rw [← hr_ 8 (by decide), ← hr_ 9 (by decide)] at hinv
  obtain ⟨⟨l8, u8⟩, ⟨l9, u9⟩, -⟩ := b_
  have w_ := d_
  subst w_
  have g := rxdPLY_2_0 hP hin hsm_ I0 I1 hinv l8 u8 l9 u9
  refine ⟨bx_narP_ok (l := []) g.1, ?_⟩
  show rxPSPLY S0 ws S_p (some (bx_num r_p (.inr (0, (9, 0)))))
  rw [bx_xv_ok h0_]
  exact g.2
theorem rxcPLY_4_0 {S0 : Nat → Int → Int} {ws : List Int} {S : Nat → Int → Int} {pa nb res : Int} (hP : rxPPLY S0 ws) (hin : bx_same rxL (bx_mdl rxC239.2.2.1) S0 S) (I0 : bx_Inv rxL S) (hinv : rxIPLY_4 S0 ws S pa nb res) (l8 : 0 ≤ pa) (u8 : pa ≤ 5) (l9 : 0 ≤ nb) (u9 : nb ≤ 400) (l10 : 0 ≤ res) (u10 : res ≤ 0) : (True) ∧ (True) ∧ rxIPLY_5 S0 ws (bx_up S 0 4 0) pa ∧ rxmPLY_5 S0 ws (bx_up S 0 4 0) pa < rxmPLY_4 S0 ws S pa nb res := by
  obtain ⟨p0, p1, hw, r, r1, r2⟩ := hinv
  rcases r2 with ⟨a, b, c⟩ | ⟨a, b, c⟩
  · omega
  · exact ⟨trivial, trivial, ⟨p0, p1, hw, bx_up_at, r, r1, b, ((bx_up_ne (by omega))).trans c⟩, by unfold rxmPLY_4 rxmPLY_5; omega⟩
theorem rxgPLY_4_0 {X : (Nat → Int → Int) → Prop} {S0 : Nat → Int → Int} {ws : List Int} (hP : rxPPLY S0 ws) : bx_obC rxL X S0 rxC239.2.2.1 (rxIPLY S0 ws) (rxmPLY S0 ws) 4 rxzPLY_4 rxoPLY_4_0 := by
  intro S S_p r r_p hinv hX hin hsm_ hseg
  obtain ⟨I0, I1, h0_, hr_, b_, f_, d_⟩ := bx_cl (evs := [(1, (0, 0), (0, 4), .inr (0, (0, 0)))]) (fvs := []) hseg (by decide +kernel) (by decide +kernel)
  have hinv : rxIPLY_4 S0 ws S (r 8) (r 9) (r 10) := hinv
  rw [← hr_ 8 (by decide), ← hr_ 9 (by decide), ← hr_ 10 (by decide)] at hinv
  obtain ⟨⟨l8, u8⟩, ⟨l9, u9⟩, ⟨l10, u10⟩, -⟩ := b_
  obtain ⟨T0, w_, w0⟩ := d_
  subst w0
  subst w_
  have g := rxcPLY_4_0 hP hin I0 hinv l8 u8 l9 u9 l10 u10
  refine ⟨bx_narP_ok (l := []) g.1, bx_nfP_ok h0_ (fvs := []) (by decide +kernel) g.2.1, ?_, ?_⟩
  · show rxIPLY_5 S0 ws (bx_up T0 0 (4) (0)) (bx_val [(0, 0), (0, 0), (0, 0), (0, 0), (0, 0), (0, 0), (0, 0), (0, 0), (8, 0)] r_p 8)
    rw [bx_val_x (n := 8) (e := (8, 0)) h0_ rfl]
    exact g.2.2.1
  · show rxmPLY_5 S0 ws (bx_up T0 0 (4) (0)) (bx_val [(0, 0), (0, 0), (0, 0), (0, 0), (0, 0), (0, 0), (0, 0), (0, 0), (8, 0)] r_p 8) < rxmPLY_4 S0 ws T0 (r 8) (r 9) (r 10)
    rw [bx_val_x (n := 8) (e := (8, 0)) h0_ rfl, ← hr_ 8 (by decide), ← hr_ 9 (by decide), ← hr_ 10 (by decide)]
    exact g.2.2.2
theorem rxdPLY_4_0 {S0 : Nat → Int → Int} {ws : List Int} {S T5 T4 T3 T2 T1 : Nat → Int → Int} {pa nb res x11 : Int} (hP : rxPPLY S0 ws) (hin : bx_same rxL (bx_mdl rxC239.2.2.1) S0 S) (hin2 : bx_same rxL (bx_mdl rxC239.2.2.1) S (bx_up T1 0 8 0)) (I0 : bx_Inv rxL S) (I1 : bx_Inv rxL (bx_up T1 0 8 0)) (hinv : rxIPLY_4 S0 ws S pa nb res) (l8 : 0 ≤ pa) (u8 : pa ≤ 5) (l9 : 0 ≤ nb) (u9 : nb ≤ 400) (l10 : 1 ≤ res) (u10 : res ≤ 1) (l11 : (-2147483648) ≤ x11) (u11 : x11 ≤ 2147483647) (f0 : res ≠ 0) (v5 : ∀ (p i : Nat), p < rxL.2.1 → i < bx_wd (rxL.1 p) → bx_mc (rxL.1 p) i ≠ (99999, 0) → T5 p (i : Int) = (bx_up S 0 4 0) p (i : Int)) (v4 : ∀ (p i : Nat), p < rxL.2.1 → i < bx_wd (rxL.1 p) → bx_mc (rxL.1 p) i ≠ (1023, 0) → T4 p (i : Int) = T5 p (i : Int)) (v3 : ∀ (p i : Nat), p < rxL.2.1 → i < bx_wd (rxL.1 p) → bx_mc (rxL.1 p) i ≠ (1020, 0) → T3 p (i : Int) = T4 p (i : Int)) (v2 : ∀ (p i : Nat), p < rxL.2.1 → i < bx_wd (rxL.1 p) → bx_mc (rxL.1 p) i ≠ (1019, 0) → T2 p (i : Int) = T3 p (i : Int)) (v1 : ∀ (p i : Nat), p < rxL.2.1 → i < bx_wd (rxL.1 p) → bx_mc (rxL.1 p) i ≠ (1018, 0) → T1 p (i : Int) = T2 p (i : Int)) : (True) ∧ rxPSPLY S0 ws (bx_up T1 0 8 0) (some x11) := by
  obtain ⟨p0, p1, hw, r, r1, r2⟩ := hinv
  rcases r2 with ⟨a, b, c⟩ | ⟨a, b, c⟩
  · exact ⟨trivial, pa, hw, Or.inr ⟨p0, p1, (bx_up_ne (by omega)).trans (((v1 0 4 (by decide) (by decide) (by decide +kernel))).trans (((v2 0 4 (by decide) (by decide) (by decide +kernel))).trans (((v3 0 4 (by decide) (by decide) (by decide +kernel))).trans (((v4 0 4 (by decide) (by decide) (by decide +kernel))).trans (((v5 0 4 (by decide) (by decide) (by decide +kernel))).trans (bx_up_at)))))), r, r1, Or.inl ⟨b, ((bx_up_ne (by omega)).trans (((v1 412 4 (by decide) (by decide) (by decide +kernel))).trans (((v2 412 4 (by decide) (by decide) (by decide +kernel))).trans (((v3 412 4 (by decide) (by decide) (by decide +kernel))).trans (((v4 412 4 (by decide) (by decide) (by decide +kernel))).trans (((v5 412 4 (by decide) (by decide) (by decide +kernel))).trans ((bx_up_ne (by omega))))))))).trans c⟩⟩⟩
  · omega
theorem rxfPLY_4_0 {X : (Nat → Int → Int) → Prop} {S0 : Nat → Int → Int} {ws : List Int} (hP : rxPPLY S0 ws) : bx_obE rxL X S0 rxC239.2.2.1 (rxIPLY S0 ws) (rxPSPLY S0 ws) 4 rxzPLY_4 rxePLY_4_0 := by
  intro S S_p r r_p hinv hX hin hsm_ hseg
  obtain ⟨I0, I1, h0_, hr_, b_, f_, d_⟩ := bx_cl (evs := [(1, (0, 0), (0, 8), .inr (0, (0, 0))), (2, (1018, 0), (0, 0), .inl none), (2, (1019, 0), (0, 0), .inl none), (2, (1020, 0), (0, 0), .inl none), (2, (1023, 0), (0, 0), .inl none), (2, (99999, 0), (0, 0), .inl none), (1, (0, 0), (0, 4), .inr (0, (0, 0)))]) (fvs := [(3, (10, 0), (0, 0), (0, 0))]) hseg (by decide +kernel) (by decide +kernel)
  have hinv : rxIPLY_4 S0 ws S (r 8) (r 9) (r 10) := hinv
  rw [← hr_ 8 (by decide), ← hr_ 9 (by decide), ← hr_ 10 (by decide)] at hinv
  obtain ⟨⟨l8, u8⟩, ⟨l9, u9⟩, ⟨l10, u10⟩, ⟨l11, u11⟩, -⟩ := b_
  obtain ⟨f0, -⟩ := f_
  obtain ⟨T0, ⟨T1, ⟨T2, ⟨T3, ⟨T4, ⟨T5, ⟨T6, w_, w6⟩, v5⟩, v4⟩, v3⟩, v2⟩, v1⟩, w0⟩ := d_
  subst w0
  subst w6
  subst w_
  have g := rxdPLY_4_0 hP hin hsm_ I0 I1 hinv l8 u8 l9 u9 l10 u10 l11 u11 f0 v5 v4 v3 v2 v1
  refine ⟨bx_narP_ok (l := []) g.1, ?_⟩
  show rxPSPLY S0 ws (bx_up T0 0 (8) (0)) (some (bx_num r_p (.inr (0, (11, 0)))))
  rw [bx_xv_ok h0_]
  exact g.2
theorem rxdPLY_6_0 {S0 : Nat → Int → Int} {ws : List Int} {S : Nat → Int → Int} {pa res : Int} (hP : rxPPLY S0 ws) (hin : bx_same rxL (bx_mdl rxC239.2.2.1) S0 S) (hin2 : bx_same rxL (bx_mdl rxC239.2.2.1) S S) (I0 : bx_Inv rxL S) (I1 : bx_Inv rxL S) (hinv : rxIPLY_6 S0 ws S pa res) (l8 : 0 ≤ pa) (u8 : pa ≤ 5) (l9 : (-6) ≤ res) (u9 : res ≤ (-1)) : (True) ∧ rxPSPLY S0 ws S (some res) := by
  obtain ⟨p0, p1, hw, h4, r, r1, r2, r3⟩ := hinv
  exact ⟨trivial, pa, hw, Or.inr ⟨p0, p1, h4, r, r1, Or.inr ⟨r2, r3⟩⟩⟩
theorem rxfPLY_6_0 {X : (Nat → Int → Int) → Prop} {S0 : Nat → Int → Int} {ws : List Int} (hP : rxPPLY S0 ws) : bx_obE rxL X S0 rxC239.2.2.1 (rxIPLY S0 ws) (rxPSPLY S0 ws) 6 rxzPLY_6 rxePLY_6_0 := by
  intro S S_p r r_p hinv hX hin hsm_ hseg
  obtain ⟨I0, I1, h0_, hr_, b_, f_, d_⟩ := bx_cl (evs := []) (fvs := []) hseg (by decide +kernel) (by decide +kernel)
  have hinv : rxIPLY_6 S0 ws S (r 8) (r 9) := hinv
  rw [← hr_ 8 (by decide), ← hr_ 9 (by decide)] at hinv
  obtain ⟨⟨l8, u8⟩, ⟨l9, u9⟩, -⟩ := b_
  have w_ := d_
  subst w_
  have g := rxdPLY_6_0 hP hin hsm_ I0 I1 hinv l8 u8 l9 u9
  refine ⟨bx_narP_ok (l := []) g.1, ?_⟩
  show rxPSPLY S0 ws S_p (some (bx_num r_p (.inr (0, (9, 0)))))
  rw [bx_xv_ok h0_]
  exact g.2
theorem rxgCPLY {X : (Nat → Int → Int) → Prop} {S0 : Nat → Int → Int} {ws : List Int} (hP : rxPPLY S0 ws) : bx_allI (fun i q => rxUPLY q = true ∨ bx_allP (fun o => bx_obC rxL X S0 rxC239.2.2.1 (rxIPLY S0 ws) (rxmPLY S0 ws) i q.1 o) q.2.1) 0 rxYPLY := ⟨Or.inr ⟨rxgPLY_0_0 hP, rxgPLY_0_1 hP, rxgPLY_0_2 hP, trivial⟩, Or.inl rfl, Or.inr trivial, Or.inl rfl, Or.inr ⟨rxgPLY_4_0 hP, trivial⟩, Or.inl rfl, Or.inr trivial, trivial⟩
theorem rxgEPLY {X : (Nat → Int → Int) → Prop} {S0 : Nat → Int → Int} {ws : List Int} (hP : rxPPLY S0 ws) : bx_allI (fun i q => rxUPLY q = true ∨ bx_allP (fun E => bx_obE rxL X S0 rxC239.2.2.1 (rxIPLY S0 ws) (rxPSPLY S0 ws) i q.1 E) q.2.2) 0 rxYPLY := ⟨Or.inr trivial, Or.inl rfl, Or.inr ⟨rxfPLY_2_0 hP, trivial⟩, Or.inl rfl, Or.inr ⟨rxfPLY_4_0 hP, trivial⟩, Or.inl rfl, Or.inr ⟨rxfPLY_6_0 hP, trivial⟩, trivial⟩
theorem rxuPLY {PX : State → Prop} {Dg : va_G} {A : Nat → Prop} {ad xa : Nat → Nat} {l : Launch} {X : (Nat → Int → Int) → Prop} (hPX : rx_PXOK rxNW A PX) (hX : ∀ S S1 : Nat → Int → Int, X S → bx_same rxL (bx_mdl rxC239.2.2.1) S S1 → X S1) (hQ110 : bx_ConP rxG rxNW rxAO PX Dg rxL X vwCl A ad l rxM110 rxC110 rxP110 rxPS110) (hQRDX : bx_ConP rxG rxNW rxAO PX Dg rxL X vwCl A ad l rxM119 rxCRDX rxPRDX rxPSRDX) {S0 : Nat → Int → Int} {ws : List Int} (hP : rxPPLY S0 ws) : ∀ (i : Nat) (q : bx_HE), rxYPLY[i]? = some q → rxUPLY q = true → ∀ {p : Program} {e : Env} {R : Room} {s : State} {m : MethodId} {args : Array Value} {below : List Frame} {meth : Method} {c : Code} {Q : State → Prop} {H0 : Heap}, rx_Fr rxG rxNW rxAO PX p s m args meth c rxM239 → (∀ q, H0.size ≤ q → A q) → H0 = s.heap → rxM239.2.2.2.2.2.2.1 ≤ R.cells → rxM239.2.2.2.2.2.2.2 ≤ R.slots → rxC239.2.2.2.1 ≤ R.frames → rxC239.2.2.2.1 * 40 ≤ R.locals → bx_Step p l e R s m args below meth c Q Dg rxL X vwCl A xa H0 ad rxM239 rxYPLY (rxIPLY S0 ws) (rxmPLY S0 ws) S0 rxC239.2.2.1 i q := by
  intro i q hq hus p e R s m args below meth c Q H0 hF hA hH0 hmc hms hd hdl
  match i, hq with
  | 0, hq =>
    cases hq
    exact absurd (show false = true from hus) Bool.false_ne_true
  | 1, hq =>
    cases hq
    exact rx_stepC (ins := .invokevirtual 110) (len := 3) (i_p := 2) (M_p := rxM110) (d := rxC239.2.2.2.1) (as := [.inr (3, (0, 0)), .inr (0, (0, (-2)))]) (t := []) (ct := rxC110) hPX hF rfl hA hH0 hmc hms hd hdl (by decide +kernel) rfl rfl (by decide +kernel) (by decide +kernel) hQ110 (by decide +kernel) rfl (Or.inr ⟨_, _, _, 1, rfl, rfl, by omega, rfl, rfl, rfl⟩) (rxsPLY_1 hP)
  | 2, hq =>
    cases hq
    exact absurd (show false = true from hus) Bool.false_ne_true
  | 3, hq =>
    cases hq
    exact rx_stepC (ins := .invokevirtual 212) (len := 3) (i_p := 4) (M_p := rxM119) (d := rxC239.2.2.2.1) (as := [.inr (3, (0, 412)), .inr (3, (0, 411)), .inr (0, (9, 0)), .inr (0, (0, 1)), .inr (3, (0, 427))]) (t := []) (ct := rxCRDX) hPX hF rfl hA hH0 hmc hms hd hdl (by decide +kernel) rfl rfl (by decide +kernel) (by decide +kernel) hQRDX (by decide +kernel) rfl (Or.inr ⟨_, _, _, 1, rfl, rfl, by omega, rfl, rfl, rfl⟩) (rxsPLY_3 hP)
  | 4, hq =>
    cases hq
    exact absurd (show false = true from hus) Bool.false_ne_true
  | 5, hq =>
    cases hq
    exact rx_stepC (ins := .invokevirtual 110) (len := 3) (i_p := 6) (M_p := rxM110) (d := rxC239.2.2.2.1) (as := [.inr (3, (0, 0)), .inr (0, (0, (-6)))]) (t := []) (ct := rxC110) hPX hF rfl hA hH0 hmc hms hd hdl (by decide +kernel) rfl rfl (by decide +kernel) (by decide +kernel) hQ110 (by decide +kernel) rfl (Or.inr ⟨_, _, _, 1, rfl, rfl, by omega, rfl, rfl, rfl⟩) (rxsPLY_5 hP)
  | 6, hq =>
    cases hq
    exact absurd (show false = true from hus) Bool.false_ne_true
  | n + 7, hq => cases hq
theorem rxQPLY {PX : State → Prop} {Dg : va_G} {A : Nat → Prop} {ad xa : Nat → Nat} {l : Launch} {X : (Nat → Int → Int) → Prop} (hPX : rx_PXOK rxNW A PX) (hsl : ∀ s : State, PX s → ∀ o idx n : Nat, rxSl o idx = some n → ∃ tx : String, vk_R (rxNm o) idx tx (ad n) s)
    (hX : ∀ S S_p : Nat → Int → Int, X S → bx_same rxL (bx_mdl rxC239.2.2.1) S S_p → X S_p)
    (ih : ∀ (j2 : Nat) (ct2 : bx_Ct) (M2 : rx_Mt), ct2 ∈ rxCn j2 → ct2.2.2.2.1 + 1 ≤ rxC239.2.2.2.1 → rxT.2.2.2.2.2 j2 = some M2 → bx_Con rxG rxNW rxAO PX Dg rxL X vwCl A ad l M2 ct2) (hQ110 : bx_ConP rxG rxNW rxAO PX Dg rxL X vwCl A ad l rxM110 rxC110 rxP110 rxPS110) (hQRDX : bx_ConP rxG rxNW rxAO PX Dg rxL X vwCl A ad l rxM119 rxCRDX rxPRDX rxPSRDX) : bx_ConP rxG rxNW rxAO PX Dg rxL X vwCl A ad l rxM239 rxC239 rxPPLY rxPSPLY :=
  rxQof (xa := xa) (Cn := rxCn) (f := 30000) (j := 239) (tab := rxYPLY) (us := rxUPLY) hPX hsl hX ih rfl rxYcPLY rxIPLY rxmPLY
    (fun S0 ws r I0 I ht0 ht as he he1 hX0 hI0 hP hs ha => by
      have e := he.symm.trans (show bx_ent0 rxNP rxC239.1 bx_I0 [] = some ([(0, 0), (0, 0), (0, 0), (0, 0), (0, 0), (0, 0), (0, 0), (0, 0), ((-2147483648), 2147483647)], [], [.inr (3, (0, 0)), .inr (0, (8, 0))]) from rfl)
      cases e
      subst ha
      have h0 : r 0 = 0 := hs.1
      show rxIPLY_0 S0 _ S0 (r 8)
      refine ⟨rfl, ?_⟩
      simp only [List.map_cons, List.map_nil, bx_xv_ok h0]
      rfl)
    (fun S0 ws hP => rxuPLY (xa := xa) hPX hX hQ110 hQRDX hP) (fun S0 ws hP => rxgCPLY hP) (fun S0 ws hP => rxgEPLY hP)
/-! CONTRACT BY HAND, by program (wip/sim/genhand.py): DeadUnderstudies.fault -/
def rxIFAD_0 (S0 : Nat → Int → Int) (ws : List Int) (S : Nat → Int → Int) : Prop := S = S0 ∧ ws = [0]
def rxmFAD_0 (S0 : Nat → Int → Int) (ws : List Int) (S : Nat → Int → Int) : Nat := 10
def rxzFAD_0 : rx_Z := ([(0, 0), (0, 0), (0, 0), (0, 0), (0, 0), (0, 0), (0, 0), (0, 0)], [], [], 0, 0, 0, [(0, .inr (3, (0, 0)))], [])
def rxeFAD_0_0 : rx_End × List (Nat × Int × Int) := (([(0, 0), (0, 0), (0, 0), (0, 0), (0, 0), (0, 0), (0, 0), (0, 0), ((-1), 400)], [], [(((0, 0), 1851192626986356798227167157524121751206303872841384192011665408000000), .inr (0, (8, 0))), (((0, 412), 4), .inr (0, (8, 0))), (((0, 0), 5), .inr (3, (0, 412)))], some (.inr (0, (8, 0)))), [])
def rxYFAD : List bx_HE := [(rxzFAD_0, [], [rxeFAD_0_0])]
def rxUFAD (q : bx_HE) : Bool := false
def rxYBFAD : bx_B := (rxV, rxNP, rxDmf, bx_mdH rxC243.2.2.1)
set_option maxRecDepth 100000 in
theorem rxYcFAD : bx_chkH rxYBFAD rxM243 rxC243 rxYFAD (rxUFAD, fun cut z => rx_ex2 (rxCT rxYBFAD rxCnE) cut 30000 rxC243.2.2.2.1 243 z) = true := by decide +kernel
def rxIFAD (S0 : Nat → Int → Int) (ws : List Int) (i : Nat) : bx_SP := fun S r => match i with | 0 => rxIFAD_0 S0 ws S | _ => False
def rxmFAD (S0 : Nat → Int → Int) (ws : List Int) (i : Nat) (S : Nat → Int → Int) (r : Nat → Int) : Nat := match i with | 0 => rxmFAD_0 S0 ws S | _ => 0
def rxPFAD (S0 : Nat → Int → Int) (ws : List Int) : Prop := True
def rxPSFAD (S0 : Nat → Int → Int) (ws : List Int) (S : Nat → Int → Int) (w : Option Int) : Prop := ws = [0] ∧ (0 : Int) ≤ 0 ∧ w = some (S0 412 4) ∧ S = S0
theorem rxdFAD_0_0 {S0 : Nat → Int → Int} {ws : List Int} {S : Nat → Int → Int} {x8 : Int} (hP : rxPFAD S0 ws) (hin : bx_same rxL (bx_mdl rxC243.2.2.1) S0 S) (hin2 : bx_same rxL (bx_mdl rxC243.2.2.1) S S) (I0 : bx_Inv rxL S) (I1 : bx_Inv rxL S) (hinv : rxIFAD_0 S0 ws S) (l8 : (-1) ≤ x8) (u8 : x8 ≤ 400) (e0 : S 412 4 = x8) : (True) ∧ rxPSFAD S0 ws S (some x8) := by
  obtain ⟨rfl, hw⟩ := hinv
  exact ⟨trivial, hw, by omega, congrArg some e0.symm, rfl⟩
theorem rxfFAD_0_0 {X : (Nat → Int → Int) → Prop} {S0 : Nat → Int → Int} {ws : List Int} (hP : rxPFAD S0 ws) : bx_obE rxL X S0 rxC243.2.2.1 (rxIFAD S0 ws) (rxPSFAD S0 ws) 0 rxzFAD_0 rxeFAD_0_0 := by
  intro S S_p r r_p hinv hX hin hsm_ hseg
  obtain ⟨I0, I1, h0_, hr_, b_, f_, d_⟩ := bx_cl (evs := [(0, (0, 412), (0, 4), .inr (0, (8, 0)))]) (fvs := []) hseg (by decide +kernel) (by decide +kernel)
  have hinv : rxIFAD_0 S0 ws S := hinv
  obtain ⟨⟨l8, u8⟩, -⟩ := b_
  obtain ⟨e0, w_⟩ := d_
  subst w_
  have g := rxdFAD_0_0 hP hin hsm_ I0 I1 hinv l8 u8 e0
  refine ⟨bx_narP_ok (l := []) g.1, ?_⟩
  show rxPSFAD S0 ws S_p (some (bx_num r_p (.inr (0, (8, 0)))))
  rw [bx_xv_ok h0_]
  exact g.2
theorem rxgCFAD {X : (Nat → Int → Int) → Prop} {S0 : Nat → Int → Int} {ws : List Int} (hP : rxPFAD S0 ws) : bx_allI (fun i q => rxUFAD q = true ∨ bx_allP (fun o => bx_obC rxL X S0 rxC243.2.2.1 (rxIFAD S0 ws) (rxmFAD S0 ws) i q.1 o) q.2.1) 0 rxYFAD := ⟨Or.inr trivial, trivial⟩
theorem rxgEFAD {X : (Nat → Int → Int) → Prop} {S0 : Nat → Int → Int} {ws : List Int} (hP : rxPFAD S0 ws) : bx_allI (fun i q => rxUFAD q = true ∨ bx_allP (fun E => bx_obE rxL X S0 rxC243.2.2.1 (rxIFAD S0 ws) (rxPSFAD S0 ws) i q.1 E) q.2.2) 0 rxYFAD := ⟨Or.inr ⟨rxfFAD_0_0 hP, trivial⟩, trivial⟩
theorem rxQFAD {PX : State → Prop} {Dg : va_G} {A : Nat → Prop} {ad xa : Nat → Nat} {l : Launch} {X : (Nat → Int → Int) → Prop} (hPX : rx_PXOK rxNW A PX) (hsl : ∀ s : State, PX s → ∀ o idx n : Nat, rxSl o idx = some n → ∃ tx : String, vk_R (rxNm o) idx tx (ad n) s)
    (hX : ∀ S S_p : Nat → Int → Int, X S → bx_same rxL (bx_mdl rxC243.2.2.1) S S_p → X S_p)
    (ih : ∀ (j2 : Nat) (ct2 : bx_Ct) (M2 : rx_Mt), ct2 ∈ rxCnE j2 → ct2.2.2.2.1 + 1 ≤ rxC243.2.2.2.1 → rxT.2.2.2.2.2 j2 = some M2 → bx_Con rxG rxNW rxAO PX Dg rxL X vwCl A ad l M2 ct2) : bx_ConP rxG rxNW rxAO PX Dg rxL X vwCl A ad l rxM243 rxC243 rxPFAD rxPSFAD :=
  rxQof (xa := xa) (Cn := rxCnE) (f := 30000) (j := 243) (tab := rxYFAD) (us := rxUFAD) hPX hsl hX ih rfl rxYcFAD rxIFAD rxmFAD
    (fun S0 ws r I0 I ht0 ht as he he1 hX0 hI0 hP hs ha => by
      have e := he.symm.trans (show bx_ent0 rxNP rxC243.1 bx_I0 [] = some ([(0, 0), (0, 0), (0, 0), (0, 0), (0, 0), (0, 0), (0, 0), (0, 0)], [], [.inr (3, (0, 0))]) from rfl)
      cases e
      subst ha
      have h0 : r 0 = 0 := hs.1
      show rxIFAD_0 S0 _ S0
      refine ⟨rfl, ?_⟩
      simp only [List.map_cons, List.map_nil, bx_xv_ok h0]
      rfl)
    (fun S0 ws hP => fun i q hq hus => absurd (show false = true from hus) Bool.false_ne_true) (fun S0 ws hP => rxgCFAD hP) (fun S0 ws hP => rxgEFAD hP)
