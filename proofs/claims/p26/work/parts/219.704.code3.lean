section
/-! CLAUSES: what is kept of them; the developers' rows -/
/-- kind (0 slips, 1 hours, 2 bars, 3 say, 4 hush), state, cue, the code of its sum, of its 'go', of its test -/
abbrev rkQ := Int × Int × Int × Option rkC × Option rkC × Option rkC
def rkSe (S : Nat → Int → Int) (b : Int) (d : rkC) : Prop := 0 ≤ b ∧ 0 ≤ rkM d ∧ b + rkM d < S 427 0 ∧ S 428 (b + rkM d) = 0 ∧ ∀ i : Int, 0 ≤ i → i < rkM d → S 428 (b + i) = rkEn (rkFo d i) ∧ S 429 (b + i) = rkEi b (rkFo d i) (rkFa d i)
def rkOs (S : Nat → Int → Int) (a : Int) : Option rkC → Prop
  | none => a = -1
  | some d => rkSe S a d ∧ rkW d
theorem rkSe_do {S : Nat → Int → Int} {b : Int} {d : rkC} (h : rkDo S b d) (b0 : 0 ≤ b) : rkSe S b d := ⟨b0, h.1, by
  have := h.2.1
  omega, h.2.2.1, h.2.2.2⟩
theorem rkOs_fr {S S_p : Nat → Int → Int} {a : Int} {o : Option rkC} (h : rkOs S a o) (f : rkFr S S_p (S 427 0)) (z : S 427 0 ≤ S_p 427 0) : rkOs S_p a o := by
  cases o with
  | none => exact h
  | some d =>
    obtain ⟨⟨h0, h1, h2, h3, h4⟩, hw⟩ := h
    refine ⟨⟨h0, h1, by omega, (f _ (by omega) (by omega)).1.trans h3, fun i p q => ?_⟩, hw⟩
    obtain ⟨f1, f2⟩ := f (a + i) (by omega) (by omega)
    rw [f1, f2]
    exact h4 i p q
/-- the clause's rows -/
def rkCq (S : Nat → Int → Int) (i : Int) (q : rkQ) : Prop := S 431 i = q.1 ∧ S 432 i = q.2.1 ∧ S 433 i = q.2.2.1 ∧ rkOs S (S 434 i) q.2.2.2.1 ∧ rkOs S (S 435 i) q.2.2.2.2.1 ∧ rkOs S (S 436 i) q.2.2.2.2.2
/-- rows of clauses below c stay -/
def rkCf (S S_p : Nat → Int → Int) (c : Int) : Prop := ∀ p : Nat, 431 ≤ p → p ≤ 436 → ∀ i : Int, 0 ≤ i → i < c → S_p p i = S p i
theorem rkCf_rf {S : Nat → Int → Int} {c : Int} : rkCf S S c := fun _ _ _ _ _ _ => rfl
theorem rkCf.tr {S S1 S2 : Nat → Int → Int} {c : Int} (h : rkCf S S1 c) (g : rkCf S1 S2 c) : rkCf S S2 c := fun p a b i x y => (g p a b i x y).trans (h p a b i x y)
theorem rkCq_fr {S S_p : Nat → Int → Int} {i c : Int} {q : rkQ} (h : rkCq S i q) (i0 : 0 ≤ i) (i1 : i < c) (f : rkFr S S_p (S 427 0)) (z : S 427 0 ≤ S_p 427 0) (g : rkCf S S_p c) : rkCq S_p i q := by
  obtain ⟨h1, h2, h3, h4, h5, h6⟩ := h
  have e := fun (p : Nat) (a : 431 ≤ p) (b : p ≤ 436) => g p a b i i0 i1
  unfold rkCq
  rw [e 431 (by omega) (by omega), e 432 (by omega) (by omega), e 433 (by omega) (by omega), e 434 (by omega) (by omega), e 435 (by omega) (by omega), e 436 (by omega) (by omega)]
  exact ⟨h1, h2, h3, rkOs_fr h4 f z, rkOs_fr h5 f z, rkOs_fr h6 f z⟩
/-- the rows hold clauses from i on -/
def rkPd (S : Nat → Int → Int) : Int → List rkQ → Prop
  | _, [] => True
  | i, q :: L => rkCq S i q ∧ rkPd S (i + 1) L
theorem rkPd_fr {S S_p : Nat → Int → Int} {c : Int} (f : rkFr S S_p (S 427 0)) (z : S 427 0 ≤ S_p 427 0) (g : rkCf S S_p c) : ∀ {L : List rkQ} {i : Int}, 0 ≤ i → i + (L.length : Int) ≤ c → rkPd S i L → rkPd S_p i L
  | [], _, _, _, _ => trivial
  | q :: L, i, i0, hc, h => by
    simp only [List.length_cons] at hc
    exact ⟨rkCq_fr h.1 i0 (by omega) f z g, rkPd_fr f z g (by omega) (by omega) h.2⟩
theorem rkPd_ap {S : Nat → Int → Int} {q : rkQ} : ∀ {L : List rkQ} {i : Int}, rkPd S i L → rkCq S (i + (L.length : Int)) q → rkPd S i (L ++ [q])
  | [], i, _, h => by
    simp only [List.length_nil] at h
    exact ⟨by rw [show i = i + ((0 : Nat) : Int) by omega]; exact h, trivial⟩
  | x :: L, i, g, h => by
    simp only [List.length_cons] at h
    exact ⟨g.1, rkPd_ap g.2 (by rw [show i + 1 + (L.length : Int) = i + ((L.length + 1 : Nat) : Int) by omega]; exact h)⟩
/-! what a clause is -/
def rkIf (T : Int → Int) (n : Int) (ws : List (List Int)) (f lf : Int) (t : Option rkC) : Prop := rzAlt (rzIs T n rzW_if f) (∃ d : rkC, rkEx T n ws 1 (rzN T n f) lf d ∧ t = some d) (t = none)
theorem rkEx_det {T : Int → Int} {n test f lf : Int} {ws : List (List Int)} {d d' : rkC} (h : rkEx T n ws test f lf d) (h' : rkEx T n ws test f lf d') : d = d' := rkRes_det h h'
theorem rzAlt_c {c : Bool} {A B A' B' : Prop} (h : rzAlt c A B) (h' : rzAlt c A' B') : (A ∧ A') ∨ (B ∧ B') := by
  rcases h with ⟨h1, h2⟩ | ⟨h1, h2⟩ <;> rcases h' with ⟨g1, g2⟩ | ⟨g1, g2⟩
  · exact Or.inl ⟨h2, g2⟩
  · rw [h1] at g1
    cases g1
  · rw [h1] at g1
    cases g1
  · exact Or.inr ⟨h2, g2⟩
theorem rkIf_det {T : Int → Int} {n f lf : Int} {ws : List (List Int)} {t t' : Option rkC} (h : rkIf T n ws f lf t) (h' : rkIf T n ws f lf t') : t = t' := by
  rcases rzAlt_c h h' with ⟨⟨d, a, b⟩, d', a', b_p⟩ | ⟨a, b⟩
  · rw [b, b_p, rkEx_det a a']
  · rw [a, b]
def rkLH (T : Int → Int) (n : Int) (ws : List (List Int)) (f lf : Int) (q : rkQ) : Prop := rzAlt (rzIs T n rzW_bars f) (q = (2, -1, -1, none, none, none)) (∃ d : rkC, rkEx T n ws 0 (rzN T n f) lf d ∧ q = ((if rzIs T n rzW_slips f = true then 0 else 1), -1, -1, some d, none, none))
theorem rkLH_det {T : Int → Int} {n f lf : Int} {ws : List (List Int)} {q q_p : rkQ} (h : rkLH T n ws f lf q) (h' : rkLH T n ws f lf q_p) : q = q_p := by
  rcases rzAlt_c h h' with ⟨a, b⟩ | ⟨⟨d, a, b⟩, d', a', b_p⟩
  · rw [a, b]
  · rw [b, b_p, rkEx_det a a']
def rkPG (T : Int → Int) (n : Int) (ws : List (List Int)) (f lf : Int) (t : Option rkC) : Prop := rzAlt (rzIs T n rzW_go f) (∃ d : rkC, rkEx T n ws 0 (rzN T n f) lf d ∧ t = some d) (t = none)
theorem rkPG_det {T : Int → Int} {n f lf : Int} {ws : List (List Int)} {t t' : Option rkC} (h : rkPG T n ws f lf t) (h' : rkPG T n ws f lf t') : t = t' := by
  rcases rzAlt_c h h' with ⟨⟨d, a, b⟩, d', a', b_p⟩ | ⟨a, b⟩
  · rw [b, b_p, rkEx_det a a']
  · rw [a, b]
/-- the head of a clause of a play: 'in' S 'at' C; then what is said -/
def rkPH (T : Int → Int) (n : Int) (ws : List (List Int)) (f lf : Int) (q : rkQ) : Prop := ∃ f1 f2 f3 f4 : Int, f1 = rzN T n f ∧ f2 = rzN T n f1 ∧ f3 = rzN T n f2 ∧ f4 = rzN T n f3 ∧ rzAlt (rzIs T n rzW_hush f4) (q = (4, rzPv T n f1, rzPv T n f3, none, none, none)) (∃ (d : rkC) (r : rzR) (g : Option rkC), rkEx T n ws 0 (rzN T n f4) lf d ∧ rzEx T n ws 0 (rzN T n f4) lf r ∧ rkPG T n ws r.2.1 r.2.2 g ∧ q = (3, rzPv T n f1, rzPv T n f3, some d, g, none))
theorem rkPH_det {T : Int → Int} {n f lf : Int} {ws : List (List Int)} {q q_p : rkQ} (h : rkPH T n ws f lf q) (h' : rkPH T n ws f lf q_p) : q = q_p := by
  obtain ⟨f1, f2, f3, f4, e1, e2, e3, e4, h⟩ := h
  obtain ⟨g1, g2, g3, g4, k1, k2, k3, k4, h'⟩ := h'
  subst e1 e2 e3 e4 k1 k2 k3 k4
  rcases rzAlt_c h h' with ⟨a, b⟩ | ⟨⟨d, r, g, a1, a2, a3, a4⟩, d', r_p, g', b1, b2, b3, b4⟩
  · rw [a, b]
  · have e := rzDet_ex r r_p a2 b2
    subst e
    rw [a4, b4, rkEx_det a1 b1, rkPG_det a3 b3]
def rkHd (play : Bool) (T : Int → Int) (n : Int) (f lf : Int) (q : rkQ) : Prop := if play = true then rkPH T n rzPn f lf q else rkLH T n rzLn_ f lf q
def rzHd (play : Bool) (T : Int → Int) (n : Int) (f lf : Int) (r : rzR) : Prop := if play = true then rzPH T n rzPn f lf r else rzLH T n rzLn_ f lf r
def rkWs (play : Bool) : List (List Int) := if play = true then rzPn else rzLn_
/-- the clauses of a text, with room for so many -/
def rkTx (play : Bool) (T : Int → Int) (n : Int) : Nat → Int → Int → List rkQ → Prop
  | 0, _, _, _ => False
  | c + 1, f, lf, L => ∃ (r r2 : rzR) (q : rkQ) (t : Option rkC) (L' : List rkQ), rzHd play T n f lf r ∧ rkHd play T n f lf q ∧ rzIf T n (rkWs play) r.2.1 r.2.2 r2 ∧ rkIf T n (rkWs play) r.2.1 r.2.2 t ∧ L = (q.1, q.2.1, q.2.2.1, q.2.2.2.1, q.2.2.2.2.1, t) :: L' ∧ rzAlt (rzSg T n 59 r2.2.1) (rkTx play T n c (rzN T n r2.2.1) r2.2.2 L') (L' = [])
theorem rzDet_lh {T : Int → Int} {n f lf : Int} {ws : List (List Int)} : rzDet (rzLH T n ws f lf) := rzDet_alt rzDet_eq (rzDet_alt rzDet_ex rzDet_eq)
theorem rzDet_pg {T : Int → Int} {n f lf : Int} {ws : List (List Int)} : rzDet (rzPG T n ws f lf) := rzDet_alt rzDet_ex rzDet_eq
theorem rzDet_ph {T : Int → Int} {n f lf : Int} {ws : List (List Int)} : rzDet (rzPH T n ws f lf) := rzDet_alt (rzDet_alt (rzDet_alt (rzDet_alt (rzDet_alt rzDet_eq (rzDet_alt (rzDet_then rzDet_ex fun _ _ => rzDet_pg) rzDet_eq)) rzDet_eq) rzDet_eq) rzDet_eq) rzDet_eq
theorem rkTx_det {play : Bool} {T : Int → Int} {n : Int} : ∀ {c : Nat} {f lf : Int} {L L2 : List rkQ}, rkTx play T n c f lf L → rkTx play T n c f lf L2 → L = L2
  | 0, _, _, _, _, h, _ => h.elim
  | c + 1, f, lf, L, L2, h, h' => by
    obtain ⟨r, r2, q, t, L', a1, a2, a3, a4, a5, a6⟩ := h
    obtain ⟨s, s2, p, u, M_p, b1, b2, b3, b4, b5, b6⟩ := h'
    have e1 : r = s := by
      unfold rzHd at a1 b1
      cases play
      · exact rzDet_lh r s a1 b1
      · exact rzDet_ph r s a1 b1
    subst e1
    have e2 : q = p := by
      unfold rkHd at a2 b2
      cases play
      · exact rkLH_det a2 b2
      · exact rkPH_det a2 b2
    subst e2
    have e3 := rzDet_if r2 s2 a3 b3
    subst e3
    have e4 := rkIf_det a4 b4
    subst e4
    have e5 : L' = M_p := by
      rcases rzAlt_c a6 b6 with ⟨x, y⟩ | ⟨x, y⟩
      · exact rkTx_det x y
      · rw [x, y]
    rw [a5, b5, e5]
def rkText (play : Bool) (T : Int → Int) (n : Int) (L : List rkQ) : Prop := rkTx play T n 12 (rzF T n 0) 0 L
/-! what the developers' reader leaves of the program -/
def rkPs (S0 S : Nat → Int → Int) : Prop := S 427 0 = S0 427 0 ∧ S 427 4 = S0 427 4 ∧ rkFr S0 S 400 ∧ rkCf S0 S 12 ∧ (S 427 8 = S0 427 8 ∧ S 427 9 = S0 427 9 ∧ S 427 10 = S0 427 10)
theorem rkPs_rf {S : Nat → Int → Int} : rkPs S S := ⟨rfl, rfl, rkFr_rf, rkCf_rf, rfl, rfl, rfl⟩
theorem rkPs_sm {ms : List (Nat × Nat)} {S0 S S_p : Nat → Int → Int} (h : rkPs S0 S) (hs : bx_same rxL (bx_mdl ms) S S_p) (hk : [(6, 0), (6, 4), (6, 8), (6, 9), (6, 10), (1021, 0), (1022, 0), (1024, 0), (1025, 0), (1026, 0), (1027, 0)].all (fun q => !(bx_mdl ms q.1 q.2)) = true) : rkPs S0 S_p := by
  have hq : ∀ a b : Nat, (a, b) ∈ [(6, 0), (6, 4), (6, 8), (6, 9), (6, 10), (1021, 0), (1022, 0), (1024, 0), (1025, 0), (1026, 0), (1027, 0)] → bx_mdl ms a b = false := fun a b hm => by
    have := List.all_eq_true.mp hk (a, b) hm
    rw [Bool.not_eq_true'] at this
    exact this
  obtain ⟨h1, h2, h3, h4, h5, h6, h7⟩ := h
  refine ⟨(hs 427 0 (by decide) (by decide) (hq 6 0 (by decide))).trans h1, (hs 427 4 (by decide) (by decide) (hq 6 4 (by decide))).trans h2, fun i a b => ⟨(rz_fd hs (p := 428) (n := 400) (c := 1021) (k := 0) (hq 1021 0 (by decide)) (by decide) (by decide +kernel) i a b).trans (h3 i a b).1, (rz_fd hs (p := 429) (n := 400) (c := 1022) (k := 0) (hq 1022 0 (by decide)) (by decide) (by decide +kernel) i a b).trans (h3 i a b).2⟩, fun p a b i x y => Eq.trans ?_ (h4 p a b i x y), (hs 427 8 (by decide) (by decide) (hq 6 8 (by decide))).trans h5, (hs 427 9 (by decide) (by decide) (hq 6 9 (by decide))).trans h6, (hs 427 10 (by decide) (by decide) (hq 6 10 (by decide))).trans h7⟩
  have e : p = 431 ∨ p = 432 ∨ p = 433 ∨ p = 434 ∨ p = 435 ∨ p = 436 := by omega
  rcases e with rfl | rfl | rfl | rfl | rfl | rfl
  · exact rz_fd hs (p := 431) (n := 12) (c := 1024) (k := 0) (hq 1024 0 (by decide)) (by decide) (by decide +kernel) i x y
  · exact rz_fd hs (p := 432) (n := 12) (c := 1025) (k := 0) (hq 1025 0 (by decide)) (by decide) (by decide +kernel) i x y
  · exact rz_fd hs (p := 433) (n := 12) (c := 1026) (k := 0) (hq 1026 0 (by decide)) (by decide) (by decide +kernel) i x y
  · exact rz_fd hs (p := 434) (n := 12) (c := 1027) (k := 0) (hq 1027 0 (by decide)) (by decide) (by decide +kernel) i x y
  · exact rz_fd hs (p := 435) (n := 12) (c := 1027) (k := 0) (hq 1027 0 (by decide)) (by decide) (by decide +kernel) i x y
  · exact rz_fd hs (p := 436) (n := 12) (c := 1027) (k := 0) (hq 1027 0 (by decide)) (by decide) (by decide +kernel) i x y
/-- at a token, so many parts read, the program as it was -/
def rkTa (S0 S : Nat → Int → Int) (f : Int) : Prop := S 412 2 = f ∧ S 412 7 = S0 412 7 ∧ rkPs S0 S
theorem rkTa_rf {S : Nat → Int → Int} : rkTa S S (S 412 2) := ⟨rfl, rfl, rkPs_rf⟩
theorem rkTa_ad {ms : List (Nat × Nat)} {S0 S S_p : Nat → Int → Int} {f : Int} (h : rkTa S0 S f) (k : rzKp S0 S) (d : rzDt S) (hs : bx_same rxL (bx_mdl ms) S S_p) (h7 : bx_mdl ms 7 7 = false) (hk : [(6, 0), (6, 4), (6, 8), (6, 9), (6, 10), (1021, 0), (1022, 0), (1024, 0), (1025, 0), (1026, 0), (1027, 0)].all (fun q => !(bx_mdl ms q.1 q.2)) = true) (e2 : S_p 412 2 = rzF (rzCut (S 411)) (S 412 1) (S 412 3)) : rkTa S0 S_p (rzN (rzCut (S0 411)) (S0 412 1) f) := by
  obtain ⟨h1, h2, h3⟩ := h
  refine ⟨?_, (hs 412 7 (by decide) (by decide) h7).trans h2, rkPs_sm h3 hs hk⟩
  rw [e2, d.1, h1, k.1, k.2.1]
  rfl
/-- the pointers of the draft's rows -/
def rkPp (S : Nat → Int → Int) : Prop := S 427 8 = 434 ∧ S 427 9 = 435 ∧ S 427 10 = 436
/-- behind an expression whose code begins where row sa of clause c says -/
theorem rkEo_use {S0 S S_p : Nat → Int → Int} {sa sg f : Int} (h : rkEo S S_p sa sg) (ht : rkTa S0 S f) (k : rzKp S0 S) (hsa : sa = 434 ∨ sa = 435 ∨ sa = 436) (hc : 0 < S0 427 4) (hf : S0 427 0 + 1 ≤ f) : rkSs S S_p sa ∧ rkFr S S_p (S0 427 0) ∧ S_p 427 0 ≤ S_p 412 2 ∧ ∃ d : rkC, rkEx (rzCut (S0 411)) (S0 412 1) (rzWs S0) sg f (S0 412 7) d ∧ rkW d ∧ rkDo S_p (S0 427 0) d := by
  obtain ⟨h1, h2, h3⟩ := ht
  obtain ⟨g1, g2, g3, d, g4, g5, g6⟩ := h hsa (by rw [h3.2.1]; exact hc) (by rw [h3.1, h1]; exact hf)
  rw [h3.1] at g2 g6
  rw [k.1, k.2.1, k.ws, h1, h2] at g4
  exact ⟨g1, g2, g3, d, g4, g5, g6⟩
/-- what a clause's 'if' leaves -/
def rkIo (S0 S : Nat → Int → Int) : Prop := rkPp S0 → 0 < S0 427 4 → S0 427 4 ≤ 12 → 0 ≤ S0 427 0 → S0 427 0 ≤ 400 → S0 427 0 ≤ S0 412 2 → S0 436 (S0 427 4 - 1) = -1 → S 427 4 = S0 427 4 ∧ S0 427 0 ≤ S 427 0 ∧ S 427 0 ≤ S 412 2 ∧ rkFr S0 S (S0 427 0) ∧ (∀ p : Nat, 431 ≤ p → p ≤ 436 → ∀ i : Int, 0 ≤ i → i < 12 → ¬ (p = 436 ∧ i = S0 427 4 - 1) → S p i = S0 p i) ∧ rkPp S ∧ ∃ t : Option rkC, rkIf (rzCut (S0 411)) (S0 412 1) (rzWs S0) (S0 412 2) (S0 412 7) t ∧ rkOs S (S 436 (S0 427 4 - 1)) t
theorem rkIo_n {S0 S : Nat → Int → Int} (h : rkTa S0 S (S0 412 2)) (hb : rzIs (rzCut (S0 411)) (S0 412 1) rzW_if (S0 412 2) = false) : rkIo S0 S := fun hp h1 h2 z0 z4 h3 h4 => by
  obtain ⟨a1, a2, a3, a4, a5, a6, a7⟩ := h
  refine ⟨a4, by omega, by omega, fun i x y => a5 i x (by omega), fun p x y i u v _ => a6 p x y i u v, ⟨a7.1.trans hp.1, a7.2.1.trans hp.2.1, a7.2.2.trans hp.2.2⟩, none, rzAlt_n hb rfl, ?_⟩
  exact (a6 436 (by omega) (by omega) _ (by omega) (by omega)).trans h4
theorem rkIo_y {ms : List (Nat × Nat)} {S0 S S_p : Nat → Int → Int} {sa : Int} (hb : rzIs (rzCut (S0 411)) (S0 412 1) rzW_if (S0 412 2) = true) (h : rkTa S0 S (rzN (rzCut (S0 411)) (S0 412 1) (S0 412 2))) (k : rzKp S0 S) (hs : bx_same rxL (bx_mdl ms) S S_p) (hk : [(6, 8), (6, 9), (6, 10), (1024, 0), (1025, 0), (1026, 0)].all (fun q => !(bx_mdl ms q.1 q.2)) = true) (esa : sa = S0 427 10) (g : rkEo S S_p sa 1) : rkIo S0 S_p := fun hp h1 h2 z0 z4 h3 h4 => by
  have hq : ∀ a b : Nat, (a, b) ∈ [(6, 8), (6, 9), (6, 10), (1024, 0), (1025, 0), (1026, 0)] → bx_mdl ms a b = false := fun a b hm => by
    have := List.all_eq_true.mp hk (a, b) hm
    rw [Bool.not_eq_true'] at this
    exact this
  have e36 : sa = 436 := esa.trans hp.2.2
  have bN := rzN_ao hb (by decide)
  have eN : ((rzW_if.length : Nat) : Int) = 2 := rfl
  obtain ⟨g1, g2, g3, d, g4, g5, g6⟩ := rkEo_use g h k (Or.inr (Or.inr e36)) h1 (by omega)
  obtain ⟨-, -, a3, a4, a5, a6, a7⟩ := h
  have z := g6.2.1
  have m0 := g6.1
  have hp' : rkPp S_p := ⟨((hs 427 8 (by decide) (by decide) (hq 6 8 (by decide))).trans a7.1).trans hp.1, ((hs 427 9 (by decide) (by decide) (hq 6 9 (by decide))).trans a7.2.1).trans hp.2.1, ((hs 427 10 (by decide) (by decide) (hq 6 10 (by decide))).trans a7.2.2).trans hp.2.2⟩
  refine ⟨g1.1.trans a4, by omega, by omega, fun i x y => ⟨(g2 i x y).1.trans (a5 i x (by omega)).1, (g2 i x y).2.trans (a5 i x (by omega)).2⟩, fun p x y i u v nn => ?_, hp', some d, rzAlt_y hb ⟨d, g4, rfl⟩, ?_⟩
  · have e : p = 431 ∨ p = 432 ∨ p = 433 ∨ (p = 434 ∨ p = 435 ∨ p = 436) := by omega
    refine Eq.trans ?_ (a6 p x y i u v)
    rcases e with rfl | rfl | rfl | e
    · exact rz_fd hs (p := 431) (n := 12) (c := 1024) (k := 0) (hq 1024 0 (by decide)) (by decide) (by decide +kernel) i u v
    · exact rz_fd hs (p := 432) (n := 12) (c := 1025) (k := 0) (hq 1025 0 (by decide)) (by decide) (by decide +kernel) i u v
    · exact rz_fd hs (p := 433) (n := 12) (c := 1026) (k := 0) (hq 1026 0 (by decide)) (by decide) (by decide +kernel) i u v
    · rw [g1.2 p e i u v, if_neg]
      rintro ⟨c1, c2⟩
      exact nn ⟨by omega, by omega⟩
  · rw [g1.2 436 (Or.inr (Or.inr rfl)) _ (by omega) (by omega), if_pos ⟨e36.symm, by omega⟩, a3]
    exact ⟨rkSe_do g6 z0, g5⟩
/-! a clause under way -/
def rkOc (S : Nat → Int → Int) (ki st cu : Int) : Nat → Int → Int := bx_up (bx_up (bx_up (bx_up (bx_up (bx_up (bx_up S 431 (S 427 4) ki) 432 (S 427 4) st) 433 (S 427 4) cu) 434 (S 427 4) (-1)) 435 (S 427 4) (-1)) 436 (S 427 4) (-1)) 427 4 (S 427 4 + 1)
def rkCw (S0 S : Nat → Int → Int) (q : rkQ) : Prop := S 427 4 = S0 427 4 + 1 ∧ S0 427 0 ≤ S 427 0 ∧ S 427 0 ≤ S 412 2 ∧ rkFr S0 S (S0 427 0) ∧ rkCf S0 S (S0 427 4) ∧ rkPp S ∧ rkCq S (S0 427 4) q
/-- what is asked ahead of a clause -/
def rkPr (S0 : Nat → Int → Int) : Prop := rkPp S0 ∧ 0 ≤ S0 427 4 ∧ S0 427 4 ≤ 11 ∧ 0 ≤ S0 427 0 ∧ S0 427 0 ≤ 400 ∧ S0 427 0 ≤ S0 412 2
def rkHo (H : rkQ → Prop) (S0 S : Nat → Int → Int) : Prop := rkPr S0 → ∃ q : rkQ, H q ∧ rkCw S0 S q
theorem rkCw_oc {S0 S S_p : Nat → Int → Int} {f ki st cu : Int} (hp : rkPr S0) (h : rkTa S0 S f) (hf : S0 412 2 ≤ f) (e : rkPp S → 0 ≤ S 427 4 → S 427 4 ≤ 11 → S_p = rkOc S ki st cu) : rkCw S0 S_p (ki, st, cu, none, none, none) ∧ S_p 412 2 = f ∧ S_p 412 7 = S0 412 7 ∧ S_p 427 0 = S0 427 0 ∧ rkPp S_p := by
  obtain ⟨p1, p2, p3, p4, p5, p6⟩ := hp
  obtain ⟨h1, h2, a3, a4, a5, a6, a7⟩ := h
  have pp : rkPp S := ⟨a7.1.trans p1.1, a7.2.1.trans p1.2.1, a7.2.2.trans p1.2.2⟩
  have e := e pp (by omega) (by omega)
  subst e
  have x : ∀ (p : Nat) (i : Int), ¬ (431 ≤ p ∧ p ≤ 436 ∧ i = S 427 4) → ¬ (p = 427 ∧ i = 4) → rkOc S ki st cu p i = S p i := fun p i n1 n2 => by
    unfold rkOc
    rw [bx_up_ne n2, bx_up_ne (by omega), bx_up_ne (by omega), bx_up_ne (by omega), bx_up_ne (by omega), bx_up_ne (by omega), bx_up_ne (by omega)]
  have y4 : rkOc S ki st cu 427 4 = S 427 4 + 1 := bx_up_at
  have r1 : rkOc S ki st cu 431 (S 427 4) = ki := by
    unfold rkOc
    rw [bx_up_ne (by omega), bx_up_ne (by omega), bx_up_ne (by omega), bx_up_ne (by omega), bx_up_ne (by omega), bx_up_ne (by omega), bx_up_at]
  have r2 : rkOc S ki st cu 432 (S 427 4) = st := by
    unfold rkOc
    rw [bx_up_ne (by omega), bx_up_ne (by omega), bx_up_ne (by omega), bx_up_ne (by omega), bx_up_ne (by omega), bx_up_at]
  have r3 : rkOc S ki st cu 433 (S 427 4) = cu := by
    unfold rkOc
    rw [bx_up_ne (by omega), bx_up_ne (by omega), bx_up_ne (by omega), bx_up_ne (by omega), bx_up_at]
  have r4 : rkOc S ki st cu 434 (S 427 4) = -1 := by
    unfold rkOc
    rw [bx_up_ne (by omega), bx_up_ne (by omega), bx_up_ne (by omega), bx_up_at]
  have r5 : rkOc S ki st cu 435 (S 427 4) = -1 := by
    unfold rkOc
    rw [bx_up_ne (by omega), bx_up_ne (by omega), bx_up_at]
  have r6 : rkOc S ki st cu 436 (S 427 4) = -1 := by
    unfold rkOc
    rw [bx_up_ne (by omega), bx_up_at]
  have z0 : rkOc S ki st cu 427 0 = S 427 0 := x _ _ (by omega) (by omega)
  have z2 : rkOc S ki st cu 412 2 = S 412 2 := x _ _ (by omega) (by omega)
  have z7 : rkOc S ki st cu 412 7 = S 412 7 := x _ _ (by omega) (by omega)
  have pq : rkPp (rkOc S ki st cu) := ⟨(x _ _ (by omega) (by omega)).trans pp.1, (x _ _ (by omega) (by omega)).trans pp.2.1, (x _ _ (by omega) (by omega)).trans pp.2.2⟩
  refine ⟨⟨by omega, by omega, by omega, fun i u v => ⟨(x _ _ (by omega) (by omega)).trans (a5 i u (by omega)).1, (x _ _ (by omega) (by omega)).trans (a5 i u (by omega)).2⟩, fun p u v i b c => (x _ _ (by omega) (by omega)).trans (a6 p u v i b (by omega)), pq, ?_⟩, z2.trans h1, z7.trans h2, z0.trans a3, pq⟩
  rw [← a4]
  exact ⟨r1, r2, r3, r4, r5, r6⟩
/-- its sum, its 'go' -/
theorem rkCw_e {ms : List (Nat × Nat)} {S0 S S_p : Nat → Int → Int} {sa sg : Int} {q : rkQ} (hp : rkPr S0) (h : rkCw S0 S q) (hs : bx_same rxL (bx_mdl ms) S S_p) (hk : [(6, 8), (6, 9), (6, 10), (1024, 0), (1025, 0), (1026, 0)].all (fun q => !(bx_mdl ms q.1 q.2)) = true) (hsa : sa = 434 ∨ sa = 435) (hf : S 427 0 + 1 ≤ S 412 2) (g : rkEo S S_p sa sg) : ∃ d : rkC, rkEx (rzCut (S 411)) (S 412 1) (rzWs S) sg (S 412 2) (S 412 7) d ∧ (sa = 434 → rkCw S0 S_p (q.1, q.2.1, q.2.2.1, some d, q.2.2.2.2.1, q.2.2.2.2.2)) ∧ (sa = 435 → rkCw S0 S_p (q.1, q.2.1, q.2.2.1, q.2.2.2.1, some d, q.2.2.2.2.2)) := by
  have hq : ∀ a b : Nat, (a, b) ∈ [(6, 8), (6, 9), (6, 10), (1024, 0), (1025, 0), (1026, 0)] → bx_mdl ms a b = false := fun a b hm => by
    have := List.all_eq_true.mp hk (a, b) hm
    rw [Bool.not_eq_true'] at this
    exact this
  obtain ⟨p1, p2, p3, p4, p5, p6⟩ := hp
  obtain ⟨c1, c2, c3, c4, c5, c6, c7⟩ := h
  obtain ⟨g1, g2, g3, d, g4, g5, g6⟩ := g (hsa.imp id Or.inl) (by omega) hf
  have z := g6.2.1
  have m0 := g6.1
  have pp : rkPp S_p := ⟨(hs 427 8 (by decide) (by decide) (hq 6 8 (by decide))).trans c6.1, (hs 427 9 (by decide) (by decide) (hq 6 9 (by decide))).trans c6.2.1, (hs 427 10 (by decide) (by decide) (hq 6 10 (by decide))).trans c6.2.2⟩
  have rows : ∀ p : Nat, 431 ≤ p → p ≤ 436 → ∀ i : Int, 0 ≤ i → i < 12 → ¬ ((p : Int) = sa ∧ i = S 427 4 - 1) → S_p p i = S p i := fun p x y i u v nn => by
    have e : p = 431 ∨ p = 432 ∨ p = 433 ∨ (p = 434 ∨ p = 435 ∨ p = 436) := by omega
    rcases e with rfl | rfl | rfl | e
    · exact rz_fd hs (p := 431) (n := 12) (c := 1024) (k := 0) (hq 1024 0 (by decide)) (by decide) (by decide +kernel) i u v
    · exact rz_fd hs (p := 432) (n := 12) (c := 1025) (k := 0) (hq 1025 0 (by decide)) (by decide) (by decide +kernel) i u v
    · exact rz_fd hs (p := 433) (n := 12) (c := 1026) (k := 0) (hq 1026 0 (by decide)) (by decide) (by decide +kernel) i u v
    · rw [g1.2 p e i u v, if_neg nn]
  have cf : rkCf S0 S_p (S0 427 4) := fun p x y i u v => (rows p x y i u (by omega) (by omega)).trans (c5 p x y i u v)
  have fr : rkFr S0 S_p (S0 427 0) := fun i u v => ⟨(g2 i u (by omega)).1.trans (c4 i u v).1, (g2 i u (by omega)).2.trans (c4 i u v).2⟩
  obtain ⟨q1, q2, q3, q4, q5, q6⟩ := c7
  have g1' := g1.1
  refine ⟨d, g4, fun e => ⟨by omega, by omega, by omega, fr, cf, pp, ?_⟩, fun e => ⟨by omega, by omega, by omega, fr, cf, pp, ?_⟩⟩
  · unfold rkCq
    rw [rows 431 (by omega) (by omega) _ p2 (by omega) (by omega), rows 432 (by omega) (by omega) _ p2 (by omega) (by omega), rows 433 (by omega) (by omega) _ p2 (by omega) (by omega), rows 435 (by omega) (by omega) _ p2 (by omega) (by omega), rows 436 (by omega) (by omega) _ p2 (by omega) (by omega), g1.2 434 (Or.inl rfl) _ p2 (by omega), if_pos ⟨e.symm, by omega⟩]
    exact ⟨q1, q2, q3, ⟨rkSe_do g6 (by omega), g5⟩, rkOs_fr q5 g2 (by omega), rkOs_fr q6 g2 (by omega)⟩
  · unfold rkCq
    rw [rows 431 (by omega) (by omega) _ p2 (by omega) (by omega), rows 432 (by omega) (by omega) _ p2 (by omega) (by omega), rows 433 (by omega) (by omega) _ p2 (by omega) (by omega), rows 434 (by omega) (by omega) _ p2 (by omega) (by omega), rows 436 (by omega) (by omega) _ p2 (by omega) (by omega), g1.2 435 (Or.inr (Or.inl rfl)) _ p2 (by omega), if_pos ⟨e.symm, by omega⟩]
    exact ⟨q1, q2, q3, rkOs_fr q4 g2 (by omega), ⟨rkSe_do g6 (by omega), g5⟩, rkOs_fr q6 g2 (by omega)⟩
theorem rkCw_sm {ms : List (Nat × Nat)} {S0 S S_p : Nat → Int → Int} {q : rkQ} (hp : rkPr S0) (h : rkCw S0 S q) (hs : bx_same rxL (bx_mdl ms) S S_p) (hk : [(6, 0), (6, 4), (6, 8), (6, 9), (6, 10), (1021, 0), (1022, 0), (1024, 0), (1025, 0), (1026, 0), (1027, 0)].all (fun q => !(bx_mdl ms q.1 q.2)) = true) (I0 : bx_Inv rxL S) (e2 : S 412 2 ≤ S_p 412 2) : rkCw S0 S_p q ∧ S_p 427 0 = S 427 0 := by
  obtain ⟨p1, p2, p3, p4, p5, p6⟩ := hp
  obtain ⟨c1, c2, c3, c4, c5, c6, c7⟩ := h
  obtain ⟨a1, a2, a3, a4, a5, a6, a7⟩ := rkPs_sm (S0 := S) rkPs_rf hs hk
  have bz : 0 ≤ S 427 0 ∧ S 427 0 ≤ 400 := I0 427 0 (by decide) (by decide)
  have f : rkFr S S_p (S 427 0) := fun i u v => a3 i u (by omega)
  exact ⟨⟨by omega, by omega, by omega, c4.tr fun i u v => a3 i u (by omega), c5.tr fun p x y i u v => a4 p x y i u (by omega), ⟨a5.trans c6.1, a6.trans c6.2.1, a7.trans c6.2.2⟩, rkCq_fr c7 p2 (show S0 427 4 < 12 by omega) f (by omega) a4⟩, a1⟩
/-! a text under way -/
theorem rkHd_n {play : Bool} {T : Int → Int} {n f lf : Int} {q : rkQ} (h : rkHd play T n f lf q) : q.2.2.2.2.2 = none := by
  unfold rkHd at h
  cases play with
  | true =>
    obtain ⟨f1, f2, f3, f4, -, -, -, -, h⟩ := (show rkPH T n rzPn f lf q from h)
    rcases h with ⟨-, h⟩ | ⟨-, d, r, g, -, -, -, h⟩ <;> rw [h]
  | false =>
    have h : rkLH T n rzLn_ f lf q := h
    rcases h with ⟨-, h⟩ | ⟨-, d, -, h⟩ <;> rw [h]
section RKLP
variable (S0 S : Nat → Int → Int) (nb ap cl : Int)
/-- ahead of a clause: those that were read -/
def rkLp : Prop := rkPp S0 → ∃ L : List rkQ, S 427 4 = (L.length : Int) ∧ (L.length : Int) = cl ∧ rkPp S ∧ S 427 0 ≤ S 412 2 ∧ rkPd S 0 L ∧ ∀ L' : List rkQ, rkTx (decide (ap = 1)) (rzCut (S0 411)) nb (12 - cl).toNat (S 412 2) (S 412 7) L' → rkText (decide (ap = 1)) (rzCut (S0 411)) nb (L ++ L')
/-- behind its head -/
def rkLq : Prop := rkPp S0 → ∃ (L : List rkQ) (q : rkQ) (f lf : Int) (r : rzR), S 427 4 = (L.length : Int) + 1 ∧ (L.length : Int) = cl ∧ rkPp S ∧ S 427 0 ≤ S 412 2 ∧ rkPd S 0 L ∧ rkCq S cl q ∧ q.2.2.2.2.2 = none ∧ rzHd (decide (ap = 1)) (rzCut (S0 411)) nb f lf r ∧ rkHd (decide (ap = 1)) (rzCut (S0 411)) nb f lf q ∧ S 412 2 = r.2.1 ∧ S 412 7 = r.2.2 ∧ ∀ L' : List rkQ, rkTx (decide (ap = 1)) (rzCut (S0 411)) nb (12 - cl).toNat f lf L' → rkText (decide (ap = 1)) (rzCut (S0 411)) nb (L ++ L')
/-- behind it -/
def rkLr : Prop := rkPp S0 → ∃ L : List rkQ, S 427 4 = (L.length : Int) ∧ (L.length : Int) = cl + 1 ∧ rkPp S ∧ S 427 0 ≤ S 412 2 ∧ rkPd S 0 L ∧ ∀ L' : List rkQ, rzAlt (rzSg (rzCut (S0 411)) nb 59 (S 412 2)) (rkTx (decide (ap = 1)) (rzCut (S0 411)) nb (11 - cl).toNat (rzN (rzCut (S0 411)) nb (S 412 2)) (S 412 7) L') (L' = []) → rkText (decide (ap = 1)) (rzCut (S0 411)) nb (L ++ L')
end RKLP
theorem rkLq_of {S0 S S_p : Nat → Int → Int} {nb ap cl : Int} {r : rzR} (h : rkLp S0 S nb ap cl) (h0 : 0 ≤ cl) (h11 : cl ≤ 11) (I0 : bx_Inv rxL S) (hr : rzHd (decide (ap = 1)) (rzCut (S0 411)) nb (S 412 2) (S 412 7) r) (p2 : S_p 412 2 = r.2.1) (p7 : S_p 412 7 = r.2.2) (g : rkHo (fun q => rkHd (decide (ap = 1)) (rzCut (S0 411)) nb (S 412 2) (S 412 7) q) S S_p) : rkLq S0 S_p nb ap cl := fun hp => by
  obtain ⟨L, h1, h2, h3, h4, h5, h6⟩ := h hp
  have bz : 0 ≤ S 427 0 ∧ S 427 0 ≤ 400 := I0 427 0 (by decide) (by decide)
  obtain ⟨q, g1, c1, c2, c3, c4, c5, c6, c7⟩ := g ⟨h3, by omega, by omega, bz.1, bz.2, h4⟩
  refine ⟨L, q, S 412 2, S 412 7, r, by omega, h2, c6, c3, rkPd_fr c4 c2 c5 (Int.le_refl 0) (by omega) h5, ?_, rkHd_n g1, hr, g1, p2, p7, h6⟩
  rw [← h2, ← h1]
  exact c7
theorem rkLr_of {S0 S S_p : Nat → Int → Int} {nb ap cl : Int} {r2 : rzR} (h : rkLq S0 S nb ap cl) (h0 : 0 ≤ cl) (h11 : cl ≤ 11) (I0 : bx_Inv rxL S) (eT : rzCut (S 411) = rzCut (S0 411)) (e1 : S 412 1 = nb) (eW : rzWs S = rkWs (decide (ap = 1))) (hr : rzIf (rzCut (S0 411)) nb (rkWs (decide (ap = 1))) (S 412 2) (S 412 7) r2) (p2 : S_p 412 2 = r2.2.1) (p7 : S_p 412 7 = r2.2.2) (g : rkIo S S_p) : rkLr S0 S_p nb ap cl := fun hp => by
  obtain ⟨L, q, f, lf, r, h1, h2, h3, h4, h5, h6, h7, h8, h9, h10, h11', h12⟩ := h hp
  have bz : 0 ≤ S 427 0 ∧ S 427 0 ≤ 400 := I0 427 0 (by decide) (by decide)
  have ec : S 427 4 - 1 = cl := by omega
  have h36 : S 436 cl = -1 := by
    have z := h6.2.2.2.2.2
    rw [h7] at z
    exact z
  obtain ⟨g1, g2, g3, g4, g5, g6, t, g7, g8⟩ := g h3 (by omega) (by omega) bz.1 bz.2 h4 (by rw [ec]; exact h36)
  rw [ec] at g5 g8
  rw [eT, e1, eW] at g7
  have cf : rkCf S S_p cl := fun p x y i u v => g5 p x y i u (by omega) (by omega)
  obtain ⟨q1, q2, q3, q4, q5, q6⟩ := h6
  have cq : rkCq S_p cl (q.1, q.2.1, q.2.2.1, q.2.2.2.1, q.2.2.2.2.1, t) := by
    unfold rkCq
    rw [g5 431 (by omega) (by omega) cl h0 (by omega) (by omega), g5 432 (by omega) (by omega) cl h0 (by omega) (by omega), g5 433 (by omega) (by omega) cl h0 (by omega) (by omega), g5 434 (by omega) (by omega) cl h0 (by omega) (by omega), g5 435 (by omega) (by omega) cl h0 (by omega) (by omega)]
    exact ⟨q1, q2, q3, rkOs_fr q4 g4 g2, rkOs_fr q5 g4 g2, g8⟩
  have hl : ((L ++ [((q.1, q.2.1, q.2.2.1, q.2.2.2.1, q.2.2.2.2.1, t) : rkQ)]).length : Int) = (L.length : Int) + 1 := by simp
  refine ⟨L ++ [(q.1, q.2.1, q.2.2.1, q.2.2.2.1, q.2.2.2.2.1, t)], by omega, by omega, g6, g3, rkPd_ap (rkPd_fr g4 g2 cf (Int.le_refl 0) (by omega) h5) (by rw [h2, Int.zero_add]; exact cq), fun L' hL => ?_⟩
  rw [List.append_assoc]
  refine h12 _ ?_
  rw [show (12 - cl).toNat = (11 - cl).toNat + 1 by omega]
  rw [h10, h11'] at hr g7
  rw [p2, p7] at hL
  exact ⟨r, r2, q, t, L', h8, h9, hr, g7, rfl, hL⟩
end
section
theorem rkTop_m {c : rkC} : rkM c ≤ rkM (rkTop c) := by
  unfold rkTop
  by_cases hj : rkPo c ((c.1 : Int) - 1) = 29 ∨ rkPo c ((c.1 : Int) - 1) = 30
  · rw [if_pos hj]
    exact Int.le_refl _
  · rw [if_neg hj]
    show rkM c ≤ rkM c + 1
    omega
theorem rkRd_m {l : Int} : ∀ (k : Nat) (c : rkC), rkM c ≤ rkM (rkRd l k c)
  | 0, c => Int.le_refl _
  | k + 1, c => by
    show rkM c ≤ rkM (if 0 < c.1 ∧ l ≤ rkBd (rkPo c ((c.1 : Int) - 1)) then rkRd l k (rkTop c) else c)
    by_cases g : 0 < c.1 ∧ l ≤ rkBd (rkPo c ((c.1 : Int) - 1))
    · rw [if_pos g]
      exact Int.le_trans rkTop_m (rkRd_m k _)
    · rw [if_neg g]
      exact Int.le_refl _
theorem rkRed_m {l : Int} {c : rkC} : rkM c ≤ rkM (rkRed l c) := rkRd_m _ _
section RKPOS
variable {T : Int → Int} {n : Int} {ws : List (List Int)}
theorem rkSt_m {f : Int} {lv : List Int} {pr : Bool} {c : rkC} : rkM c ≤ rkM (rkSt T n ws f lv pr c) := by
  cases lv with
  | nil => exact Int.le_refl _
  | cons s rest =>
    cases pr with
    | false =>
      rw [rkSt_0]
      (repeat' split) <;> first
        | exact Int.le_refl _
        | exact Int.le_add_one (Int.le_refl _)
    | true =>
      rw [rkSt_1]
      (repeat' split) <;> first
        | exact rkRed_m (l := 1)
        | exact rkRed_m (l := 4)
        | exact rkRed_m (l := 5)
        | exact rkRed_m (l := 6)
        | exact Int.le_add_one (rkRed_m (l := 2))
        | exact Int.le_add_one (rkRed_m (l := 1))
theorem rzStep_pr {f lf f' lf' : Int} {lv lv' : List Int} {q : Nat} {c : rkC} (h : rzStep T n ws f lv false lf = (q, f', lv', true, lf')) : rkM c < rkM (rkSt T n ws f lv false c) ∨ q = 2 := by
  cases lv with
  | nil => exact Or.inr (congrArg (fun z : rzA => z.1) h).symm
  | cons s rest =>
    by_cases h1 : rzDg T n f = true ∨ 0 ≤ rzIxn T n f ws 0
    · refine Or.inl ?_
      rw [rkSt_0]
      by_cases h2 : rzDg T n f = true
      · rw [if_pos h2]
        exact Int.lt_succ _
      · rw [if_neg h2, if_pos (h1.resolve_left h2)]
        exact Int.lt_succ _
    · have h : (if rzDg T n f = true ∨ 0 ≤ rzIxn T n f ws 0 then
        (if 1000 < rzNo T n f ∨ 50 ≤ lf then (2, f, s :: rest, false, lf) else (0, rzN T n f, (if s = 1 then 2 else s) :: rest, true, lf + 1))
        else if s = 1 ∧ rzIs T n rzW_not f = true then (0, rzN T n f, s :: rest, false, lf)
        else if s = 1 ∧ rzSg T n 40 f = true then
          (if rest.length < 8 then (0, rzN T n f, 1 :: 1 :: rest, false, lf) else (2, f, s :: rest, false, lf))
        else if rzSg T n 91 f = true then
          (if rest.length < 8 then (0, rzN T n f, 0 :: (if s = 1 then 2 else s) :: rest, false, lf) else (2, f, s :: rest, false, lf))
        else ((2, f, s :: rest, false, lf) : rzA)) = (q, f', lv', true, lf') := h
      have h := congrArg (fun z : rzA => z.2.2.2.1) h
      rw [if_neg h1] at h
      exfalso
      revert h
      (repeat' split) <;> intro h <;> cases h
theorem rzStep_n1 {f lf f' lf' : Int} {lv lv' : List Int} {pr' : Bool} : rzStep T n ws f lv false lf ≠ (1, f', lv', pr', lf') := fun h => by
  cases lv with
  | nil => cases (congrArg (fun z : rzA => z.1) h)
  | cons s rest =>
    have h : (if rzDg T n f = true ∨ 0 ≤ rzIxn T n f ws 0 then
        (if 1000 < rzNo T n f ∨ 50 ≤ lf then (2, f, s :: rest, false, lf) else (0, rzN T n f, (if s = 1 then 2 else s) :: rest, true, lf + 1))
        else if s = 1 ∧ rzIs T n rzW_not f = true then (0, rzN T n f, s :: rest, false, lf)
        else if s = 1 ∧ rzSg T n 40 f = true then
          (if rest.length < 8 then (0, rzN T n f, 1 :: 1 :: rest, false, lf) else (2, f, s :: rest, false, lf))
        else if rzSg T n 91 f = true then
          (if rest.length < 8 then (0, rzN T n f, 0 :: (if s = 1 then 2 else s) :: rest, false, lf) else (2, f, s :: rest, false, lf))
        else ((2, f, s :: rest, false, lf) : rzA)) = (1, f', lv', pr', lf') := h
    have h := congrArg (fun z : rzA => z.1) h
    revert h
    (repeat' split) <;> intro h <;> cases h
theorem rkRun_pos {d : rkC} : ∀ (k : Nat) (f : Int) (lv : List Int) (pr : Bool) (lf : Int) (c : rkC), rkRun T n ws k f lv pr lf c = some d → 0 ≤ rkM c → (pr = true → 0 < rkM c) → 0 < rkM d
  | 0, f, lv, pr, lf, c, h, _, _ => by cases h
  | k + 1, f, lv, pr, lf, c, h, h0, h1 => by
    have h : (match rzStep T n ws f lv pr lf with
      | (0, f', lv', pr', lf') => rkRun T n ws k f' lv' pr' lf' (rkSt T n ws f lv pr c)
      | (1, _, _, _, _) => some (rkRed 1 c)
      | _ => none) = some d := h
    have m := rkSt_m (T := T) (n := n) (ws := ws) (f := f) (lv := lv) (pr := pr) (c := c)
    match hs : rzStep T n ws f lv pr lf, h with
    | (0, f', lv', pr', lf'), h =>
      refine rkRun_pos k f' lv' pr' lf' _ h (Int.le_trans h0 m) fun e => ?_
      subst e
      cases pr with
      | true => exact Int.lt_of_lt_of_le (h1 rfl) m
      | false =>
        rcases rzStep_pr (c := c) hs with g | g
        · exact Int.lt_of_le_of_lt h0 g
        · cases g
    | (1, _, _, _, _), h =>
      cases pr with
      | true =>
        have e : rkRed 1 c = d := Option.some.inj h
        rw [← e]
        exact Int.lt_of_lt_of_le (h1 rfl) rkRed_m
      | false => exact absurd hs rzStep_n1
    | (q + 2, _, _, _, _), h => cases h
theorem rkEx_pos {test f lf : Int} {d : rkC} (h : rkEx T n ws test f lf d) : 0 < rkM d := by
  obtain ⟨k, hk⟩ := h
  exact rkRun_pos k f [test] false lf rkC0 hk (Int.le_refl 0) fun g => by cases g
end RKPOS
theorem rkFm_sm {ms : List (Nat × Nat)} {S S_p : Nat → Int → Int} (hs : bx_same rxL (bx_mdl ms) S S_p) (hk : [(1068, 0), (1069, 0)].all (fun q => !(bx_mdl ms q.1 q.2)) = true) : ∀ i : Int, 0 ≤ i → i < 400 → S_p 487 i = S 487 i ∧ S_p 488 i = S 488 i := fun i x y => ⟨rz_fd hs (p := 487) (n := 400) (c := 1068) (k := 0) (rzMs hk (by decide)) (by decide) (by decide +kernel) i x y, rz_fd hs (p := 488) (n := 400) (c := 1069) (k := 0) (rzMs hk (by decide)) (by decide) (by decide +kernel) i x y⟩
/-- a piece of code, from a up to e -/
def rkGz (S : Nat → Int → Int) (a e : Int) : Option rkC → Prop
  | none => e = a
  | some d => 0 ≤ a ∧ 0 < rkM d ∧ e = a + rkM d ∧ rkW d ∧ ∀ i : Int, 0 ≤ i → i < rkM d → S 487 (a + i) = rkFo d i ∧ S 488 (a + i) = rkAi a (rkFo d i) (rkFa d i)
theorem rkGz_fr {S S_p : Nat → Int → Int} {a e m : Int} {o : Option rkC} (h : rkGz S a e o) (f : rkFm S S_p m) (he : e ≤ m) : rkGz S_p a e o := by
  cases o with
  | none => exact h
  | some d =>
    obtain ⟨h0, h1, h2, h3, h4⟩ := h
    refine ⟨h0, h1, h2, h3, fun i p q => ?_⟩
    obtain ⟨f1, f2⟩ := f (a + i) (by omega) (by omega)
    rw [f1, f2]
    exact h4 i p q
theorem rkGz_mo {S : Nat → Int → Int} {b : Int} {d : rkC} (h : rkMo S b d) (hp : 0 < rkM d) (hw : rkW d) : rkGz S b (S 480 18) (some d) := ⟨h.1, hp, h.2.2.1, hw, h.2.2.2⟩
/-- a law's clause k -/
def rkCm (S : Nat → Int → Int) (k : Int) (q : rkQ) : Prop := S 486 (8 * k) = q.1 ∧ rkGz S (S 486 (8 * k + 3)) (S 486 (8 * k + 4)) q.2.2.2.1 ∧ rkGz S (S 486 (8 * k + 5)) (S 486 (8 * k + 6)) q.2.2.2.2.2
def rkWh (S0 : Nat → Int → Int) (wh : Int) : Prop := (wh = 0 ∧ rzIs (rzCut (S0 485)) (S0 480 8) rzW_slips (S0 480 9) = true ∧ rzIs (rzCut (S0 485)) (S0 480 8) rzW_bars (S0 480 9) = false) ∨ (wh = 1 ∧ rzIs (rzCut (S0 485)) (S0 480 8) rzW_hours (S0 480 9) = true ∧ rzIs (rzCut (S0 485)) (S0 480 8) rzW_bars (S0 480 9) = false) ∨ (wh = 2 ∧ rzIs (rzCut (S0 485)) (S0 480 8) rzW_bars (S0 480 9) = true)
/-- behind the head word -/
def rkL3 (S0 S : Nat → Int → Int) : Prop := S 480 9 = rzN (rzCut (S0 485)) (S0 480 8) (S0 480 9) ∧ S 480 21 = S0 480 21 ∧ S 480 18 = S0 480 18 ∧ rkFm S0 S (S0 480 18)
theorem rkL3_ne {S0 S S_p : Nat → Int → Int} (h : rkL3 S0 S) (e9 : S_p 480 9 = S 480 9) (e21 : S_p 480 21 = S 480 21) (e18 : S_p 480 18 = S 480 18) (e : ∀ i : Int, S_p 487 i = S 487 i ∧ S_p 488 i = S 488 i) : rkL3 S0 S_p := ⟨e9.trans h.1, e21.trans h.2.1, e18.trans h.2.2.1, fun i p q => ⟨(e i).1.trans (h.2.2.2 i p q).1, (e i).2.trans (h.2.2.2 i p q).2⟩⟩
/-- behind the head -/
def rkHq (S0 : Nat → Int → Int) (q : rkQ) (r : rzR) : Prop := rzLH (rzCut (S0 485)) (S0 480 8) rzLn_ (S0 480 9) (S0 480 21) r ∧ r.1 = true ∧ rkLH (rzCut (S0 485)) (S0 480 8) rzLn_ (S0 480 9) (S0 480 21) q
def rkL4 (S0 S : Nat → Int → Int) (base : Int) : Prop := ∃ (q : rkQ) (r : rzR), rkHq S0 q r ∧ S 480 9 = r.2.1 ∧ S 480 21 = r.2.2 ∧ S 486 base = q.1 ∧ rkGz S (S0 480 18) (S 480 18) q.2.2.2.1 ∧ rkFm S0 S (S0 480 18)
theorem rkGz_ne {S S_p : Nat → Int → Int} {a e : Int} {o : Option rkC} (h : rkGz S a e o) (f : ∀ i : Int, S_p 487 i = S 487 i ∧ S_p 488 i = S 488 i) : rkGz S_p a e o := rkGz_fr h (m := e) (fun i _ _ => f i) (Int.le_refl _)
theorem rkL4_ne {S0 S S_p : Nat → Int → Int} {base : Int} (h : rkL4 S0 S base) (e9 : S_p 480 9 = S 480 9) (e21 : S_p 480 21 = S 480 21) (e18 : S_p 480 18 = S 480 18) (eb : S_p 486 base = S 486 base) (e : ∀ i : Int, S_p 487 i = S 487 i ∧ S_p 488 i = S 488 i) : rkL4 S0 S_p base := by
  obtain ⟨q, r, h1, h2, h3, h4, h5, h6⟩ := h
  refine ⟨q, r, h1, e9.trans h2, e21.trans h3, eb.trans h4, ?_, fun i x y => ⟨(e i).1.trans (h6 i x y).1, (e i).2.trans (h6 i x y).2⟩⟩
  rw [e18]
  exact rkGz_ne h5 e
theorem rkL4_bars {S0 S : Nat → Int → Int} {base : Int} (h : rkL3 S0 S) (hw : rkWh S0 (S 486 base)) (h2 : S 486 base = 2) : rkL4 S0 S base := by
  obtain ⟨g1, g2, g3, g4⟩ := h
  rcases hw with v | v | v
  · omega
  · omega
  · exact ⟨(2, -1, -1, none, none, none), (true, rzN (rzCut (S0 485)) (S0 480 8) (S0 480 9), S0 480 21), ⟨rzAlt_y v.2 rfl, rfl, rzAlt_y v.2 rfl⟩, g1, g2, h2, g3, g4⟩
theorem rkL4_ex {S0 S S_p : Nat → Int → Int} {base : Int} (hW : rzWr S0 = rzLn_) (a : rzKr S0 S) (h : rkL3 S0 S) (hw : rkWh S0 (S 486 base)) (h2 : S 486 base ≠ 2) (x : rzXo S S_p 0) (y : rkEm S S_p 0) (z : S_p 480 14 = 0) (e : S_p 486 base = S 486 base) : rkL4 S0 S_p base := by
  obtain ⟨g1, g2, g3, g4⟩ := h
  unfold rzXo at x
  unfold rkEm at y
  rw [a.1, a.2.1, a.w, hW, g1, g2] at x y
  obtain ⟨-, -, r, r1, r2, r3, r4⟩ := x.1 z
  obtain ⟨f, d, d1, d2, d3⟩ := y z
  rw [g3] at f d3
  have gz := rkGz_mo d3 (rkEx_pos d1) d2
  rcases hw with ⟨v1, v2, v3⟩ | ⟨v1, v2, v3⟩ | v
  · refine ⟨(0, -1, -1, some d, none, none), r, ⟨rzAlt_n v3 (rzAlt_y (by rw [v2]; rfl) r1), r2, rzAlt_n v3 ⟨d, d1, by rw [if_pos v2]⟩⟩, r3, r4, e.trans v1, gz, g4.tr f⟩
  · have u := rzIs_u v2 (v := rzW_slips)
    have u : rzIs (rzCut (S0 485)) (S0 480 8) rzW_slips (S0 480 9) = false := u.trans (by decide)
    refine ⟨(1, -1, -1, some d, none, none), r, ⟨rzAlt_n v3 (rzAlt_y (by rw [v2, Bool.or_true]) r1), r2, rzAlt_n v3 ⟨d, d1, by rw [u]; rfl⟩⟩, r3, r4, e.trans v1, gz, g4.tr f⟩
  · exact absurd v.1 h2
/-- behind the word 'if' -/
def rkL5 (S0 S : Nat → Int → Int) (base : Int) : Prop := ∃ (q : rkQ) (r : rzR), rkHq S0 q r ∧ rzIs (rzCut (S0 485)) (S0 480 8) rzW_if r.2.1 = true ∧ S 480 9 = rzN (rzCut (S0 485)) (S0 480 8) r.2.1 ∧ S 480 21 = r.2.2 ∧ S 486 base = q.1 ∧ rkGz S (S0 480 18) (S 480 18) q.2.2.2.1 ∧ rkFm S0 S (S0 480 18)
/-- behind the clause -/
def rkL6 (S0 S : Nat → Int → Int) (base : Int) : Prop := ∃ (q : rkQ) (r : rzR) (t : Option rkC), rkHq S0 q r ∧ rkIf (rzCut (S0 485)) (S0 480 8) rzLn_ r.2.1 r.2.2 t ∧ S 486 base = q.1 ∧ rkGz S (S 486 (base + 3)) (S 486 (base + 4)) q.2.2.2.1 ∧ rkGz S (S 486 (base + 5)) (S 480 18) t ∧ rkFm S0 S (S0 480 18)
theorem rkL5_of {S0 S S_p : Nat → Int → Int} {base : Int} (h : rkL4 S0 S base) (a : rzKr S0 S) (hi : rzIs (rzCut (S 485)) (S 480 8) rzW_if (S 480 9) = true) (e9 : S_p 480 9 = rzN (rzCut (S 485)) (S 480 8) (S 480 9)) (e21 : S_p 480 21 = S 480 21) (e18 : S_p 480 18 = S 480 18) (b18 : S 480 18 ≤ 400) (eb : S_p 486 base = S 486 base) (e : ∀ i : Int, 0 ≤ i → i < 400 → S_p 487 i = S 487 i ∧ S_p 488 i = S 488 i) (b0 : S0 480 18 ≤ 400) : rkL5 S0 S_p base := by
  obtain ⟨q, r, h1, h2, h3, h4, h5, h6⟩ := h
  rw [a.1, a.2.1, h2] at hi e9
  have f : rkFm S S_p 400 := fun i x y => e i x y
  refine ⟨q, r, h1, hi, e9, e21.trans h3, eb.trans h4, ?_, h6.tr fun i x y => e i x (by omega)⟩
  rw [e18]
  exact rkGz_fr h5 f b18
theorem rkL6_no {S0 S : Nat → Int → Int} {base m : Int} (h : rkL4 S0 S base) (hi : rzIs (rzCut (S0 485)) (S0 480 8) rzW_if (S 480 9) = false) (e3 : S 486 (base + 3) = S0 480 18) (e4 : S 486 (base + 4) = m) (e5 : S 486 (base + 5) = m) (em : m = S 480 18) : rkL6 S0 S base := by
  obtain ⟨q, r, h1, h2, h3, h4, h5, h6⟩ := h
  rw [h2] at hi
  refine ⟨q, r, none, h1, rzAlt_n hi rfl, h4, ?_, ?_, h6⟩
  · rw [e3, e4, em]
    exact h5
  · show S 480 18 = S 486 (base + 5)
    omega
theorem rkL6_ex {S0 S S_p : Nat → Int → Int} {base m : Int} (hW : rzWr S0 = rzLn_) (a : rzKr S0 S) (h : rkL5 S0 S base) (e3 : S 486 (base + 3) = S0 480 18) (e4 : S 486 (base + 4) = m) (e5 : S 486 (base + 5) = m) (em : m = S 480 18) (hm : S0 480 18 ≤ m) (y : rkEm S S_p 1) (z : S_p 480 14 = 0) (e : ∀ j : Int, j = base ∨ j = base + 3 ∨ j = base + 4 ∨ j = base + 5 → S_p 486 j = S 486 j) : rkL6 S0 S_p base := by
  obtain ⟨q, r, h1, hi, h2, h3, h4, h5, h6⟩ := h
  unfold rkEm at y
  rw [a.1, a.2.1, a.w, hW, h2, h3] at y
  obtain ⟨f, d, d1, d2, d3⟩ := y z
  refine ⟨q, r, some d, h1, rzAlt_y hi ⟨d, d1, rfl⟩, (e base (Or.inl rfl)).trans h4, ?_, ?_, h6.tr fun i x y => f i x (by omega)⟩
  · rw [e (base + 3) (by omega), e (base + 4) (by omega), e3, e4, em]
    exact rkGz_fr h5 f (Int.le_refl _)
  · rw [e (base + 5) (by omega), e5, em]
    exact rkGz_mo d3 (rkEx_pos d1) d2
/-- the clause stands -/
def rkL7 (S0 S : Nat → Int → Int) : Prop := ∃ (q : rkQ) (r : rzR) (t : Option rkC), rkHq S0 q r ∧ rkIf (rzCut (S0 485)) (S0 480 8) rzLn_ r.2.1 r.2.2 t ∧ rkCm S (S0 480 16) (q.1, q.2.1, q.2.2.1, q.2.2.2.1, q.2.2.2.2.1, t) ∧ rkFm S0 S (S0 480 18) ∧ ∀ j : Int, 0 ≤ j → j < 8 * S0 480 16 → S 486 j = S0 486 j
theorem rkL7_of {S0 S : Nat → Int → Int} {base : Int} (h : rkL6 S0 S base) (eb : base = 8 * S0 480 16) (hr : ∀ j : Int, 0 ≤ j → j < base → S 486 j = S0 486 j) : rkL7 S0 (bx_up S 486 (base + 6) (S 480 18)) := by
  obtain ⟨q, r, t, h1, h2, h3, h4, h5, h6⟩ := h
  have e : ∀ i : Int, bx_up S 486 (base + 6) (S 480 18) 487 i = S 487 i ∧ bx_up S 486 (base + 6) (S 480 18) 488 i = S 488 i := fun i => ⟨bx_up_ne (by omega), bx_up_ne (by omega)⟩
  have g : ∀ j : Int, j ≠ base + 6 → bx_up S 486 (base + 6) (S 480 18) 486 j = S 486 j := fun j hj => bx_up_ne (by omega)
  refine ⟨q, r, t, h1, h2, ⟨?_, ?_, ?_⟩, fun i x y => ⟨(e i).1.trans (h6 i x y).1, (e i).2.trans (h6 i x y).2⟩, fun j x y => (g j (by omega)).trans (hr j x (by omega))⟩
  · rw [← eb, g base (by omega)]
    exact h3
  · rw [← eb, g (base + 3) (by omega), g (base + 4) (by omega)]
    exact rkGz_ne h4 e
  · rw [← eb, g (base + 5) (by omega), bx_up_at]
    exact rkGz_ne h5 e
end
section
/-! A LAW'S TEXT in the reference's rows -/
theorem rzLC_if {T : Int → Int} {n f lf : Int} {r r2 : rzR} (h : rzLC T n f lf r2) (g : rzLH T n rzLn_ f lf r) (gr : r.1 = true) : rzIf T n rzLn_ r.2.1 r.2.2 r2 := by
  rcases rzAlt_c g h with ⟨a, b⟩ | ⟨a, b⟩
  · subst a
    exact b
  · rcases rzAlt_c a b with ⟨c, d⟩ | ⟨c, d⟩
    · obtain ⟨r1, d1, d2⟩ := d
      have e := rzDet_ex r1 r d1 c
      subst e
      rcases d2 with ⟨z, -⟩ | ⟨-, z⟩
      · rw [gr] at z
        cases z
      · exact z
    · subst c
      cases gr
/-- the clauses from k on -/
def rkPm (S : Nat → Int → Int) : Int → List rkQ → Prop
  | _, [] => True
  | k, q :: L => rkCm S k q ∧ rkPm S (k + 1) L
def rkCs (S : Nat → Int → Int) : Prop := ∀ k : Int, 0 ≤ k → k < S 480 16 → rxCq S (S 486 (8 * k + 3)) (S 486 (8 * k + 4)) ∧ rxCq S (S 486 (8 * k + 5)) (S 486 (8 * k + 6))
theorem rkCm_fr {S S_p : Nat → Int → Int} {k : Int} {q : rkQ} (h : rkCm S k q) (r : ∀ j : Int, 0 ≤ j → j < 8 * S 480 16 → S_p 486 j = S 486 j) (f : rkFm S S_p (S 480 18)) (hc : rkCs S) (k0 : 0 ≤ k) (k1 : k < S 480 16) : rkCm S_p k q := by
  obtain ⟨h1, h2, h3⟩ := h
  obtain ⟨c1, c2⟩ := hc k k0 k1
  refine ⟨(r _ (by omega) (by omega)).trans h1, ?_, ?_⟩
  · rw [r (8 * k + 3) (by omega) (by omega), r (8 * k + 4) (by omega) (by omega)]
    exact rkGz_fr h2 f c1.2.1
  · rw [r (8 * k + 5) (by omega) (by omega), r (8 * k + 6) (by omega) (by omega)]
    exact rkGz_fr h3 f c2.2.1
theorem rkPm_fr {S S_p : Nat → Int → Int} (r : ∀ j : Int, 0 ≤ j → j < 8 * S 480 16 → S_p 486 j = S 486 j) (f : rkFm S S_p (S 480 18)) (hc : rkCs S) : ∀ {L : List rkQ} {k : Int}, 0 ≤ k → k + (L.length : Int) ≤ S 480 16 → rkPm S k L → rkPm S_p k L
  | [], _, _, _, _ => trivial
  | q :: L, k, k0, hl, h => by
    simp only [List.length_cons] at hl
    exact ⟨rkCm_fr h.1 r f hc k0 (by omega), rkPm_fr r f hc (by omega) (by omega) h.2⟩
theorem rkPm_ne {S S_p : Nat → Int → Int} (r : ∀ j : Int, S_p 486 j = S 486 j) (f : ∀ i : Int, S_p 487 i = S 487 i ∧ S_p 488 i = S 488 i) : ∀ {L : List rkQ} {k : Int}, rkPm S k L → rkPm S_p k L
  | [], _, _ => trivial
  | q :: L, k, h => by
    refine ⟨⟨(r _).trans h.1.1, ?_, ?_⟩, rkPm_ne r f h.2⟩
    · rw [r, r]
      exact rkGz_ne h.1.2.1 f
    · rw [r, r]
      exact rkGz_ne h.1.2.2 f
theorem rkPm_ap {S : Nat → Int → Int} {q : rkQ} : ∀ {L : List rkQ} {k : Int}, rkPm S k L → rkCm S (k + (L.length : Int)) q → rkPm S k (L ++ [q])
  | [], k, _, h => by
    simp only [List.length_nil] at h
    exact ⟨by rw [show k = k + ((0 : Nat) : Int) by omega]; exact h, trivial⟩
  | x :: L, k, g, h => by
    simp only [List.length_cons] at h
    exact ⟨g.1, rkPm_ap g.2 (by rw [show k + 1 + (L.length : Int) = k + ((L.length + 1 : Nat) : Int) by omega]; exact h)⟩
/-- ahead of a clause -/
def rkMp (S0 S : Nat → Int → Int) : Prop := ∃ L : List rkQ, S 480 16 = (L.length : Int) ∧ rkPm S 0 L ∧ ∀ L' : List rkQ, rkTx false (rzCut (S0 485)) (S0 480 8) (12 - S 480 16).toNat (S 480 9) (S 480 21) L' → rkText false (rzCut (S0 485)) (S0 480 8) (L ++ L')
/-- behind it -/
def rkMq (S0 S : Nat → Int → Int) : Prop := ∃ L : List rkQ, S 480 16 = (L.length : Int) ∧ rkPm S 0 L ∧ ∀ L' : List rkQ, rzAlt (rzSg (rzCut (S0 485)) (S0 480 8) 59 (S 480 9)) (rkTx false (rzCut (S0 485)) (S0 480 8) (12 - S 480 16).toNat (rzN (rzCut (S0 485)) (S0 480 8) (S 480 9)) (S 480 21) L') (L' = []) → rkText false (rzCut (S0 485)) (S0 480 8) (L ++ L')
/-- the whole -/
def rkMz (S0 S : Nat → Int → Int) : Prop := ∃ L : List rkQ, rkText false (rzCut (S0 485)) (S0 480 8) L ∧ S 480 16 = (L.length : Int) ∧ rkPm S 0 L
theorem rkMp_0 {S0 S : Nat → Int → Int} (e16 : S 480 16 = 0) (e9 : S 480 9 = rzF (rzCut (S0 485)) (S0 480 8) 0) (e21 : S 480 21 = 0) : rkMp S0 S := by
  refine ⟨[], e16, trivial, fun L' h => ?_⟩
  rw [e16, e9, e21] at h
  exact h
theorem rkMq_of {S0 S S_p : Nat → Int → Int} {P : rzR → Prop} (h : rkMp S0 S) (hc : rkCs S) (eT : rzCut (S 485) = rzCut (S0 485)) (en : S 480 8 = S0 480 8) (b16 : 0 ≤ S 480 16) (g : rkL7 S S_p) (x : rzCo S S_p P) (z : S_p 480 14 = 0) (e16 : S_p 480 16 = S 480 16 + 1) (hP : ∀ r : rzR, P r → r.1 = true → S 480 16 < 12 ∧ rzLC (rzCut (S 485)) (S 480 8) (S 480 9) (S 480 21) r) : rkMq S0 S_p := by
  obtain ⟨L, h1, h2, h3⟩ := h
  obtain ⟨q, r, t, ⟨g1, g2, g3⟩, g4, g5, g6, g7⟩ := g
  obtain ⟨-, -, r2, p1, p2, p3, p4⟩ := x.1 z
  obtain ⟨n12, lc⟩ := hP r2 p1 p2
  have hf := rzLC_if lc g1 g2
  rw [eT, en] at g1 g3 g4 hf
  have hl : ((L ++ [((q.1, q.2.1, q.2.2.1, q.2.2.2.1, q.2.2.2.2.1, t) : rkQ)]).length : Int) = (L.length : Int) + 1 := by simp
  refine ⟨L ++ [(q.1, q.2.1, q.2.2.1, q.2.2.2.1, q.2.2.2.2.1, t)], by omega, rkPm_ap (rkPm_fr g7 g6 hc (Int.le_refl 0) (by omega) h2) (by rw [← h1, Int.zero_add]; exact g5), fun L' hL => ?_⟩
  rw [List.append_assoc]
  refine h3 _ ?_
  rw [show (12 - S 480 16).toNat = (12 - S_p 480 16).toNat + 1 by omega]
  rw [p3, p4] at hL
  exact ⟨r, r2, q, t, L', g1, g3, hf, g4, rfl, hL⟩
theorem rkMp_of {S0 S S_p : Nat → Int → Int} (h : rkMq S0 S) (hs : rzSg (rzCut (S0 485)) (S0 480 8) 59 (S 480 9) = true) (e9 : S_p 480 9 = rzN (rzCut (S0 485)) (S0 480 8) (S 480 9)) (e21 : S_p 480 21 = S 480 21) (e16 : S_p 480 16 = S 480 16) (hp : ∀ L : List rkQ, S 480 16 = (L.length : Int) → rkPm S 0 L → rkPm S_p 0 L) : rkMp S0 S_p := by
  obtain ⟨L, h1, h2, h3⟩ := h
  refine ⟨L, e16.trans h1, hp L h1 h2, fun L' hL => h3 L' (rzAlt_y hs ?_)⟩
  rw [e16, e9, e21] at hL
  exact hL
theorem rkMz_of {S0 S S_p : Nat → Int → Int} (h : rkMq S0 S) (hs : rzSg (rzCut (S0 485)) (S0 480 8) 59 (S 480 9) = false) (e16 : S_p 480 16 = S 480 16) (hp : ∀ L : List rkQ, S 480 16 = (L.length : Int) → rkPm S 0 L → rkPm S_p 0 L) : rkMz S0 S_p := by
  obtain ⟨L, h1, h2, h3⟩ := h
  have t := h3 [] (rzAlt_n hs rfl)
  rw [List.append_nil] at t
  exact ⟨L, t, e16.trans h1, hp L h1 h2⟩
theorem rkMz_ne {S0 S S_p : Nat → Int → Int} (h : rkMz S0 S) (e16 : S_p 480 16 = S 480 16) (r : ∀ j : Int, S_p 486 j = S 486 j) (f : ∀ i : Int, S_p 487 i = S 487 i ∧ S_p 488 i = S 488 i) : rkMz S0 S_p := by
  obtain ⟨L, h1, h2, h3⟩ := h
  exact ⟨L, h1, e16.trans h2, rkPm_ne r f h3⟩
theorem rkPm_sm {ms : List (Nat × Nat)} {S S_p : Nat → Int → Int} (hs : bx_same rxL (bx_mdl ms) S S_p) (hk : [(1068, 0), (1069, 0)].all (fun q => !(bx_mdl ms q.1 q.2)) = true) (hr : ∀ j : Int, 0 ≤ j → j < 96 → S_p 486 j = S 486 j) (hc : rkCs S) (b16 : S 480 16 ≤ 12) (b18 : S 480 18 ≤ 400) (L : List rkQ) (hL : S 480 16 = (L.length : Int)) (h : rkPm S 0 L) : rkPm S_p 0 L :=
  rkPm_fr (fun j x y => hr j x (by omega)) (fun i x y => rkFm_sm hs hk i x (by omega)) hc (Int.le_refl 0) (by omega) h
/-! the row's texts -/
def rkGt (R : Int → Int) (b a e : Int) : Option rkC → Prop
  | none => e = a
  | some d => 0 ≤ a ∧ 0 < rkM d ∧ e = a + rkM d ∧ e ≤ 400 ∧ rkW d ∧ ∀ i : Int, 0 ≤ i → i < rkM d → R (b + 98 + 2 * (a + i)) = rkFo d i ∧ R (b + 98 + 2 * (a + i) + 1) = rkAi a (rkFo d i) (rkFa d i)
def rkCt (R : Int → Int) (b k : Int) (q : rkQ) : Prop := R (b + 2 + 8 * k) = q.1 ∧ rkGt R b (R (b + 2 + 8 * k + 3)) (R (b + 2 + 8 * k + 4)) q.2.2.2.1 ∧ rkGt R b (R (b + 2 + 8 * k + 5)) (R (b + 2 + 8 * k + 6)) q.2.2.2.2.2
def rkPt (R : Int → Int) (b : Int) : Int → List rkQ → Prop
  | _, [] => True
  | k, q :: L => rkCt R b k q ∧ rkPt R b (k + 1) L
/-- text number n holds these clauses -/
def rkTr (R : Int → Int) (n : Int) (L : List rkQ) : Prop := R (780 + 900 * n + 1) = (L.length : Int) ∧ (L.length : Int) ≤ 12 ∧ rkPt R (780 + 900 * n) 0 L
theorem rkGt_of {S : Nat → Int → Int} {R : Int → Int} {b a e : Int} {o : Option rkC} (h : rkGz S a e o) (he : e ≤ S 480 18) (h18 : S 480 18 ≤ 400) (ho : ∀ j : Int, 0 ≤ j → j < S 480 18 → R (b + 98 + 2 * j) = S 487 j ∧ R (b + 98 + 2 * j + 1) = S 488 j) : rkGt R b a e o := by
  cases o with
  | none => exact h
  | some d =>
    obtain ⟨h0, h1, h2, h3, h4⟩ := h
    refine ⟨h0, h1, h2, by omega, h3, fun i p q => ?_⟩
    obtain ⟨o1, o2⟩ := ho (a + i) (by omega) (by omega)
    rw [o1, o2]
    exact h4 i p q
theorem rkPt_of {S : Nat → Int → Int} {R : Int → Int} {b : Int} (hc : ∀ j : Int, 0 ≤ j → j < 8 * S 480 16 → R (b + 2 + j) = S 486 j) (ho : ∀ j : Int, 0 ≤ j → j < S 480 18 → R (b + 98 + 2 * j) = S 487 j ∧ R (b + 98 + 2 * j + 1) = S 488 j) (hs : rkCs S) (h18 : S 480 18 ≤ 400) : ∀ {L : List rkQ} {k : Int}, 0 ≤ k → k + (L.length : Int) ≤ S 480 16 → rkPm S k L → rkPt R b k L
  | [], _, _, _, _ => trivial
  | q :: L, k, k0, hl, h => by
    simp only [List.length_cons] at hl
    have e : ∀ c : Int, 0 ≤ c → c < 8 → R (b + 2 + 8 * k + c) = S 486 (8 * k + c) := fun c c0 c1 => by
      rw [show b + 2 + 8 * k + c = b + 2 + (8 * k + c) by omega]
      exact hc (8 * k + c) (by omega) (by omega)
    obtain ⟨c1, c2⟩ := hs k k0 (by omega)
    obtain ⟨⟨g1, g2, g3⟩, g4⟩ := h
    refine ⟨⟨(hc (8 * k) (by omega) (by omega)).trans g1, ?_, ?_⟩, rkPt_of hc ho hs h18 (by omega) (by omega) g4⟩
    · rw [e 3 (by omega) (by omega), e 4 (by omega) (by omega)]
      exact rkGt_of g2 c1.2.1 h18 ho
    · rw [e 5 (by omega) (by omega), e 6 (by omega) (by omega)]
      exact rkGt_of g3 c2.2.1 h18 ho
theorem rkGt_cg {R R' : Int → Int} {b a e : Int} {o : Option rkC} (h : rkGt R b a e o) (hr : ∀ j : Int, b ≤ j → j < b + 900 → R' j = R j) : rkGt R' b a e o := by
  cases o with
  | none => exact h
  | some d =>
    obtain ⟨h0, h1, h2, h3, h4, h5⟩ := h
    refine ⟨h0, h1, h2, h3, h4, fun i p q => ?_⟩
    rw [hr _ (by omega) (by omega), hr _ (by omega) (by omega)]
    exact h5 i p q
theorem rkPt_cg {R R' : Int → Int} {b : Int} (hr : ∀ j : Int, b ≤ j → j < b + 900 → R' j = R j) : ∀ {L : List rkQ} {k : Int}, 0 ≤ k → k + (L.length : Int) ≤ 12 → rkPt R b k L → rkPt R' b k L
  | [], _, _, _, _ => trivial
  | q :: L, k, k0, hl, h => by
    simp only [List.length_cons] at hl
    obtain ⟨⟨g1, g2, g3⟩, g4⟩ := h
    refine ⟨⟨(hr _ (by omega) (by omega)).trans g1, ?_, ?_⟩, rkPt_cg hr (by omega) (by omega) g4⟩
    · rw [hr (b + 2 + 8 * k + 3) (by omega) (by omega), hr (b + 2 + 8 * k + 4) (by omega) (by omega)]
      exact rkGt_cg g2 hr
    · rw [hr (b + 2 + 8 * k + 5) (by omega) (by omega), hr (b + 2 + 8 * k + 6) (by omega) (by omega)]
      exact rkGt_cg g3 hr
theorem rkTr_cg {R R' : Int → Int} {n : Int} {L : List rkQ} (h : rkTr R n L) (hr : ∀ j : Int, 780 + 900 * n ≤ j → j < 780 + 900 * n + 900 → R' j = R j) : rkTr R' n L :=
  ⟨(hr _ (by omega) (by omega)).trans h.1, h.2.1, rkPt_cg hr (Int.le_refl 0) (by have := h.2.1; omega) h.2.2⟩
/-- what law leaves in the row -/
def rkLw (S0 S : Nat → Int → Int) : Prop := (S 482 3 = S0 482 3 ∧ ∀ j : Int, 0 ≤ j → j < 6180 → S 482 j = S0 482 j) ∨ (S 482 3 = S0 482 3 + 1 ∧ (∀ j : Int, 0 ≤ j → j < 6180 → j ≠ 3 → (j < 780 + 900 * S0 482 3 ∨ 780 + 900 * S0 482 3 + 900 ≤ j) → S 482 j = S0 482 j) ∧ ∃ L : List rkQ, rkText false (rzCut (S0 485)) (S0 480 8) L ∧ rkTr (S 482) (S0 482 3) L)
def rkMt (S0 S : Nat → Int → Int) : Prop := 0 ≤ S0 482 3 ∧ (∀ j : Int, 0 ≤ j → j < 6180 → (j < 780 + 900 * S0 482 3 ∨ 780 + 900 * S0 482 3 + 900 ≤ j) → S 482 j = S0 482 j) ∧ ∃ L : List rkQ, rkText false (rzCut (S0 485)) (S0 480 8) L ∧ rkTr (S 482) (S0 482 3) L
theorem rkMt_of {S0 S : Nat → Int → Int} {base : Int} (h : rkMz S0 S) (hr : rxRx S0 S base) (hc : ∀ j : Int, 0 ≤ j → j < 8 * S 480 16 → S 482 (base + 2 + j) = S 486 j) (ho : ∀ j : Int, 0 ≤ j → j < S 480 18 → S 482 (base + 98 + 2 * j) = S 487 j ∧ S 482 (base + 98 + 2 * j + 1) = S 488 j) (h16 : S 480 16 ≤ 12) (h18 : S 480 18 ≤ 400) : rkMt S0 S := by
  obtain ⟨L, h1, h2, h3⟩ := h
  obtain ⟨r1, r2, r3, r4, r5, r6, r7⟩ := hr
  subst r5
  exact ⟨r6, r1, L, h1, r2.trans h2, by omega, rkPt_of hc ho r3 h18 (Int.le_refl 0) (by omega) h3⟩
theorem rkLw_of {S0 S : Nat → Int → Int} {v : Int} (h : rkMt S0 S) (e : v = S0 482 3 + 1) : rkLw S0 (bx_up S 482 3 v) := by
  obtain ⟨h0, h1, L, h2, h3⟩ := h
  refine Or.inr ⟨bx_up_at.trans e, fun j x y n3 z => (bx_up_ne (by omega)).trans (h1 j x y z), L, h2, rkTr_cg h3 fun j x y => bx_up_ne (by omega)⟩
theorem rkLw_ne {S0 S S_p : Nat → Int → Int} (h : rkLw S0 S) (e : ∀ j : Int, S_p 482 j = S 482 j) : rkLw S0 S_p := by
  have e : S_p 482 = S 482 := funext e
  unfold rkLw
  rw [e]
  exact h
end
