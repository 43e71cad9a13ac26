/-! READING AN EXPRESSION, with its code -/
def rkXs (S0 S : Nat → Int → Int) (tst t : Int) : Prop := rzKr S0 S ∧ rzDq S ∧ ∃ (s : Int) (rest : List Int) (c : rkC), rzSr S tst (s :: rest) ∧ (rzTc t s ∨ (t = 2 ∧ s = 3 ∧ ¬ rzSm (rzCut (S 485)) (S 480 8) (S 480 9))) ∧ rkMd S (S0 480 18) c ∧ rkW c ∧ rkFm S0 S (S0 480 18) ∧ ∀ d : rkC, rkRes (rzCut (S0 485)) (S0 480 8) (rzWr S0) (S 480 9) (s :: rest) (decide (2 ≤ t)) (S 480 21) c d → rkEx (rzCut (S0 485)) (S0 480 8) (rzWr S0) tst (S0 480 9) (S0 480 21) d
def rkXo (S0 S : Nat → Int → Int) (tst : Int) : Prop := S 480 14 = 0 → ∃ c : rkC, rkMd S (S0 480 18) c ∧ rkW c ∧ rkFm S0 S (S0 480 18) ∧ rkEx (rzCut (S0 485)) (S0 480 8) (rzWr S0) tst (S0 480 9) (S0 480 21) (rkRed 1 c)
def rkXi (S0 S : Nat → Int → Int) (tst t : Int) : Prop := S 480 14 = 0 → (t = 4 ∧ rkXo S0 S tst) ∨ (t ≠ 4 ∧ rkXs S0 S tst t)
theorem rzWr_pos {S : Nat → Int → Int} : ∀ w : List Int, w ∈ rzWr S → 0 < w.length := fun w hw => by
  have h := rzWr_ok hw
  unfold rzOkW at h
  rw [Bool.and_eq_true, Bool.and_eq_true, Nat.blt_eq] at h
  exact h.1.1
theorem rzWr_len {S : Nat → Int → Int} : (rzWr S).length ≤ 8 := by
  unfold rzWr
  by_cases h : S 480 15 = 1
  · rw [if_pos h]
    decide
  · rw [if_neg h]
    decide
section RKXI
variable {S0 S S_p : Nat → Int → Int} {tst t s : Int} {rest : List Int} {pr : Bool} {c : rkC}
theorem rkXi_tn (k : rzKr S0 S) (h : rzTn S S_p tst (s :: rest) pr (some t)) (q : rkTq S S_p (s :: rest) pr) (h1 : rkMd S (S0 480 18) c) (h2 : rkW c) (h3 : rkFm S0 S (S0 480 18)) (h4 : ∀ d : rkC, rkRes (rzCut (S0 485)) (S0 480 8) (rzWr S0) (S 480 9) (s :: rest) pr (S 480 21) c d → rkEx (rzCut (S0 485)) (S0 480 8) (rzWr S0) tst (S0 480 9) (S0 480 21) d) : rkXi S0 S_p tst t := fun z => by
  obtain ⟨k2, d, t2, s', rest', e, r, hs, hc⟩ := h.1 z
  have e := Option.some.inj e
  subst e
  have st := rzStep_s rzWr_pos hs
  have bN := (rzN_b (T := rzCut (S 485)) (n := S 480 8) (f := S 480 9)).2.2 st.1
  obtain ⟨g1, g2⟩ := q z (by omega) _ c h1 h2
  have w := (rkSt_w (T := rzCut (S 485)) (n := S 480 8) (f := S 480 9) (s := s) (rest := rest) (pr := pr) (rzWr_len (S := S)) h2).1
  refine Or.inr ⟨by unfold rzTc at hc; omega, k.tr k2, d, s', rest', _, r, Or.inl hc, g1, w, h3.tr g2, fun d hd => h4 d ?_⟩
  rw [k.1, k.2.1, k.w] at hs hd
  exact rkRes_step hs hd
theorem rkXi_to (k : rzKr S0 S) (dq : rzDq S) (r : rzSr S tst (s :: rest)) (h : rzTo S S_p tst s rest (some t)) (q : rkTq S S_p (s :: rest) true) (h1 : rkMd S (S0 480 18) c) (h2 : rkW c) (h3 : rkFm S0 S (S0 480 18)) (h4 : ∀ d : rkC, rkRes (rzCut (S0 485)) (S0 480 8) (rzWr S0) (S 480 9) (s :: rest) true (S 480 21) c d → rkEx (rzCut (S0 485)) (S0 480 8) (rzWr S0) tst (S0 480 9) (S0 480 21) d) : rkXi S0 S_p tst t := by
  rcases h with h | ⟨e, e2, e3, ns⟩ | ⟨e, e2, hs⟩
  · exact rkXi_tn k h q h1 h2 h3 h4
  · subst e
    have e2 := Option.some.inj e2
    subst e2
    exact fun _ => Or.inr ⟨by omega, k, dq, s, rest, c, r, Or.inr ⟨rfl, e3, ns⟩, h1, h2, h3, h4⟩
  · subst e
    have e2 := Option.some.inj e2
    subst e2
    rw [k.1, k.2.1, k.w] at hs
    exact fun _ => Or.inl ⟨rfl, fun _ => ⟨c, h1, h2, h3, h4 _ (rkRes_done hs)⟩⟩
theorem rkXi_0 (hD : rzDq S0) (k : rzKr S0 S) (ts : rzTs S0 S) (e21 : S 480 21 = S0 480 21) (e24 : S 480 24 = 0) (e25 : S 480 25 = 0) (e18 : S 480 18 = S0 480 18) (b18 : 0 ≤ S0 480 18) (hf : ∀ i : Int, S 487 i = S0 487 i ∧ S 488 i = S0 488 i) (ht : (tst = 0 ∧ t = 1) ∨ (tst = 1 ∧ t = 0)) : rkXi S0 S tst t := fun _ => by
  refine Or.inr ⟨by omega, k, rzDq_c hD k ts, tst, [], rkC0, ⟨?_, by rw [e25]; rfl, by omega⟩, Or.inl ?_, ⟨b18, Int.le_refl 0, e24, by show _ = S0 480 18 + (0 : Int); omega, fun j a b => ?_, fun j a b => ?_⟩, rkW_0, fun i _ _ => hf i, fun d hd => ?_⟩
  · rw [e24]
    exact ⟨fun j a b => by omega, by omega, Iff.rfl, fun _ j a b => by omega, fun _ => rzCm_0 (Int.le_refl 0), fun g => by omega⟩
  · unfold rzTc
    omega
  · have b : j < 0 := b
    omega
  · have b : j < 0 := b
    omega
  · rw [ts.1, e21, decide_eq_false (by omega)] at hd
    exact hd
end RKXI
/-- what is written of an expression that is whole -/
def rkMo (S : Nat → Int → Int) (b : Int) (d : rkC) : Prop := 0 ≤ b ∧ 0 ≤ rkM d ∧ S 480 18 = b + rkM d ∧ ∀ i : Int, 0 ≤ i → i < rkM d → S 487 (b + i) = rkFo d i ∧ S 488 (b + i) = rkAi b (rkFo d i) (rkFa d i)
theorem rkMo_of {S : Nat → Int → Int} {b : Int} {d : rkC} (h : rkMd S b d) : rkMo S b d := ⟨h.1, h.2.1, h.2.2.2.1, h.2.2.2.2.2⟩
/-- what reading an expression leaves -/
def rkEm (S0 S : Nat → Int → Int) (tst : Int) : Prop := S 480 14 = 0 → rkFm S0 S (S0 480 18) ∧ ∃ d : rkC, rkEx (rzCut (S0 485)) (S0 480 8) (rzWr S0) tst (S0 480 9) (S0 480 21) d ∧ rkW d ∧ rkMo S (S0 480 18) d
