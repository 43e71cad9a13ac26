/-! an expression, as the developers read it -/
/-- where the expression's code begins is told by the clause's row -/
def rkSs (S0 S : Nat → Int → Int) (sa : Int) : Prop := S 427 4 = S0 427 4 ∧ ∀ p : Nat, p = 434 ∨ p = 435 ∨ p = 436 → ∀ i : Int, 0 ≤ i → i < 12 → S p i = (if (p : Int) = sa ∧ i = S0 427 4 - 1 then S0 427 0 else S0 p i)
theorem rkSs_ne {S0 S S_p : Nat → Int → Int} {sa : Int} (h : rkSs S0 S sa) (e4 : S_p 427 4 = S 427 4) (e : ∀ p : Nat, p = 434 ∨ p = 435 ∨ p = 436 → ∀ i : Int, 0 ≤ i → i < 12 → S_p p i = S p i) : rkSs S0 S_p sa := ⟨e4.trans h.1, fun p hp i a b => (e p hp i a b).trans (h.2 p hp i a b)⟩
theorem rkSs_sm {ms : List (Nat × Nat)} {S0 S S_p : Nat → Int → Int} {sa : Int} (h : rkSs S0 S sa) (hs : bx_same rxL (bx_mdl ms) S S_p) (hk : [(6, 4), (1027, 0)].all (fun q => !(bx_mdl ms q.1 q.2)) = true) : rkSs S0 S_p sa := by
  have hq : ∀ a b : Nat, (a, b) ∈ [(6, 4), (1027, 0)] → bx_mdl ms a b = false := fun a b hm => by
    have := List.all_eq_true.mp hk (a, b) hm
    rw [Bool.not_eq_true'] at this
    exact this
  refine rkSs_ne h (hs 427 4 (by decide) (by decide) (hq 6 4 (by decide))) fun p hp i a b => ?_
  rcases hp with rfl | rfl | rfl
  · exact rz_fd hs (p := 434) (n := 12) (c := 1027) (k := 0) (hq 1027 0 (by decide)) (by decide) (by decide +kernel) i a b
  · exact rz_fd hs (p := 435) (n := 12) (c := 1027) (k := 0) (hq 1027 0 (by decide)) (by decide) (by decide +kernel) i a b
  · exact rz_fd hs (p := 436) (n := 12) (c := 1027) (k := 0) (hq 1027 0 (by decide)) (by decide) (by decide +kernel) i a b
def rkS1 (S0 S : Nat → Int → Int) (sa : Int) : Prop := (0 < S0 427 4 → S = bx_up S0 sa.toNat (S0 427 4 - 1) (S0 427 0)) ∧ (S0 427 4 ≤ 0 → S = S0)
theorem rkSs_0 {S0 S : Nat → Int → Int} {sa : Int} (hsa : sa = 434 ∨ sa = 435 ∨ sa = 436) (h : 0 < S0 427 4) (e : rkS1 S0 S sa) : rkSs S0 S sa ∧ S 427 0 = S0 427 0 ∧ ∀ i : Int, S 428 i = S0 428 i ∧ S 429 i = S0 429 i := by
  have e := e.1 h
  subst e
  refine ⟨⟨bx_up_ne (by omega), fun p hp i a b => ?_⟩, bx_up_ne (by omega), fun i => ⟨bx_up_ne (by omega), bx_up_ne (by omega)⟩⟩
  by_cases g : (p : Int) = sa ∧ i = S0 427 4 - 1
  · rw [if_pos g, g.2, show p = sa.toNat by omega]
    exact bx_up_at
  · rw [if_neg g]
    exact bx_up_ne (by omega)
def rkRe (S0 S : Nat → Int → Int) (sa sg : Int) (pr : Bool) : Prop := (sa = 434 ∨ sa = 435 ∨ sa = 436) → 0 < S0 427 4 → S0 427 0 + 1 ≤ S0 412 2 → rkSs S0 S sa ∧ rkFr S0 S (S0 427 0) ∧ ∃ c : rkC, rkD S (S0 427 0) c ∧ rkW c ∧ S0 427 0 + (c.1 : Int) + rkM c + 1 ≤ S 412 2 ∧ ∀ d : rkC, rkRes (rzCut (S0 411)) (S0 412 1) (rzWs S0) (S 412 2) (rzLv S) pr (S 412 7) c d → rkEx (rzCut (S0 411)) (S0 412 1) (rzWs S0) sg (S0 412 2) (S0 412 7) d
theorem rzN_ao {T : Int → Int} {n f : Int} {w : List Int} (h : rzIs T n w f = true) (hw : 0 < w.length) : f + (w.length : Int) ≤ rzN T n f := by
  have e := rzWd_len h
  have q := (rzN_b (T := T) (n := n) (f := f)).2.2 (rzIs_lt hw h)
  have b : rzT T n f ≤ rzN T n f := rzF_b.1
  omega
theorem rkRe_step {S0 S S_p : Nat → Int → Int} {sa sg : Int} {pr pr' : Bool} (h : rkRe S0 S sa sg pr) (k : rzKp S0 S) (b0 : 0 ≤ S 412 8) (hn : S 412 1 ≤ 400) (hs : rzStep (rzCut (S 411)) (S 412 1) (rzWs S) (S 412 2) (rzLv S) pr (S 412 7) = (0, S_p 412 2, rzLv S_p, pr', S_p 412 7)) (tk : rkTk S S_p pr) (fs : ∀ {S0 : Nat → Int → Int} {sa : Int}, rkSs S0 S sa → rkSs S0 S_p sa) : rkRe S0 S_p sa sg pr' := fun h1 h2 h3 => by
  obtain ⟨g1, g2, c, c1, c2, c3, c4⟩ := h h1 h2 h3
  have q := rzStep_s rzWs_pos hs
  have bN := (rzN_b (T := rzCut (S 411)) (n := S 412 1) (f := S 412 2)).2.2 q.1
  obtain ⟨t1, t2⟩ := tk _ c c1 c2 (by omega)
  have ew := rzLv_eq b0
  have w := rkSt_w (T := rzCut (S 411)) (n := S 412 1) (f := S 412 2) (s := S 424 (S 412 8)) (rest := rzLq S) (pr := pr) (rzWs_len (S := S)) c2
  rw [← ew] at w
  refine ⟨fs g1, g2.tr t2, rkSt (rzCut (S 411)) (S 412 1) (rzWs S) (S 412 2) (rzLv S) pr c, t1, w.1, ?_, fun d hd => c4 d ?_⟩
  · rcases w.2 with v | ⟨v, u⟩
    · omega
    · have b2 : S 412 2 + 2 ≤ rzN (rzCut (S 411)) (S 412 1) (S 412 2) := by
        rcases v with v | v
        · have := rzN_ao v (by decide)
          have e : ((rzW_and.length : Nat) : Int) = 3 := rfl
          omega
        · have := rzN_ao v (by decide)
          have e : ((rzW_or.length : Nat) : Int) = 2 := rfl
          omega
      omega
  · rw [k.1, k.2.1, k.ws] at hs hd
    exact rkRes_step hs hd
/-- what is written of an expression that is whole -/
def rkEo (S0 S : Nat → Int → Int) (sa sg : Int) : Prop := (sa = 434 ∨ sa = 435 ∨ sa = 436) → 0 < S0 427 4 → S0 427 0 + 1 ≤ S0 412 2 → rkSs S0 S sa ∧ rkFr S0 S (S0 427 0) ∧ S 427 0 ≤ S 412 2 ∧ ∃ d : rkC, rkEx (rzCut (S0 411)) (S0 412 1) (rzWs S0) sg (S0 412 2) (S0 412 7) d ∧ rkW d ∧ rkDo S (S0 427 0) d
theorem rkRe_done {S0 S S_p : Nat → Int → Int} {sa sg f' lf' : Int} {lv' : List Int} {pr' : Bool} (h : rkRe S0 S sa sg true) (k : rzKp S0 S) (hn : S 412 1 ≤ 400) (h2n : S 412 2 ≤ S 412 1) (hs : rzStep (rzCut (S 411)) (S 412 1) (rzWs S) (S 412 2) (rzLv S) true (S 412 7) = (1, f', lv', pr', lf')) (e2 : S_p 412 2 = S 412 2) (ce : ∀ (b : Int) (c : rkC), rkD S b c → rkW c → b + (c.1 : Int) + rkM c ≤ 399 → rkDo S_p b (rkRed 1 c) ∧ rkFr S S_p b) (fs : ∀ {S0 : Nat → Int → Int} {sa : Int}, rkSs S0 S sa → rkSs S0 S_p sa) : rkEo S0 S_p sa sg := fun h1 h2 h3 => by
  obtain ⟨g1, g2, c, c1, c2, c3, c4⟩ := h h1 h2 h3
  rw [k.1, k.2.1, k.ws] at hs
  obtain ⟨t1, t2⟩ := ce _ c c1 c2 (by omega)
  have rw_ := rkRed_w (l := 1) (by omega) c2
  have z := t1.2.1
  have m0 := t1.1
  exact ⟨fs g1, g2.tr t2, by omega, rkRed 1 c, c4 _ (rkRes_done hs), rw_.1, t1⟩
