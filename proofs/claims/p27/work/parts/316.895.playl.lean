section
noncomputable def rjW1 (P : Int → Int) (c sl : Int) (x : (Int → Int) × Int × Int) : (Int → Int) × Int × Int :=
  if x.2.1 = -1 then x else if P (6 * x.2.1 + c) = -1 then (x.1, -1, x.2.2) else
  if x.1 (6 * x.2.1 + c) = -1 then (rkUp x.1 (6 * x.2.1 + c) (if x.2.2 = sl then (P (6 * x.2.1 + c) + 6) % 60 else P (6 * x.2.1 + c)), P (6 * x.2.1 + c) % 6, x.2.2 + 1)
  else (x.1, P (6 * x.2.1 + c) % 6, x.2.2)
noncomputable def rjHs : Int → Int := rjSc (fun _ => -1) 0
theorem rjHs_of {R : Int → Int} {b : Int} (h : ∀ t : Int, 0 ≤ t → t < 36 → R (b + t) = -1) : rjSc R b = rjHs := funext fun t => by
  unfold rjHs rjSc
  by_cases c : 0 ≤ t ∧ t < 36
  · rw [if_pos c, if_pos c]
    exact h t c.1 c.2
  · rw [if_neg c, if_neg c]
noncomputable def rjW (P C : Int → Int) (sl : Int) : Nat → (Int → Int) × Int × Int
  | 0 => (rjHs, 0, 0)
  | k + 1 => rjW1 P (C (k : Int)) sl (rjW P C sl k)
theorem rjW1_e {P : Int → Int} {c sl : Int} {x : (Int → Int) × Int × Int} (h : x.2.1 = -1) : rjW1 P c sl x = x := if_pos h
theorem rjW1_h {P : Int → Int} {c sl : Int} {s : Int → Int} {st m : Int} (h : st ≠ -1) (g : P (6 * st + c) = -1) : rjW1 P c sl (s, st, m) = (s, -1, m) := by
  unfold rjW1
  rw [if_neg (show ¬ (s, st, m).2.1 = -1 from h), if_pos (show P (6 * (s, st, m).2.1 + c) = -1 from g)]
theorem rjW1_n {P : Int → Int} {c sl : Int} {s : Int → Int} {st m : Int} (h : st ≠ -1) (g : P (6 * st + c) ≠ -1) (f : s (6 * st + c) = -1) : rjW1 P c sl (s, st, m) = (rkUp s (6 * st + c) (if m = sl then (P (6 * st + c) + 6) % 60 else P (6 * st + c)), P (6 * st + c) % 6, m + 1) := by
  unfold rjW1
  rw [if_neg (show ¬ (s, st, m).2.1 = -1 from h), if_neg (show ¬ P (6 * (s, st, m).2.1 + c) = -1 from g), if_pos (show (s, st, m).1 (6 * (s, st, m).2.1 + c) = -1 from f)]
theorem rjW1_o {P : Int → Int} {c sl : Int} {s : Int → Int} {st m : Int} (h : st ≠ -1) (g : P (6 * st + c) ≠ -1) (f : s (6 * st + c) ≠ -1) : rjW1 P c sl (s, st, m) = (s, P (6 * st + c) % 6, m) := by
  unfold rjW1
  rw [if_neg (show ¬ (s, st, m).2.1 = -1 from h), if_neg (show ¬ P (6 * (s, st, m).2.1 + c) = -1 from g), if_neg (show ¬ (s, st, m).1 (6 * (s, st, m).2.1 + c) = -1 from f)]
theorem rjW_end {P C : Int → Int} {sl : Int} {k : Nat} (h : (rjW P C sl k).2.1 = -1) : ∀ n : Nat, k ≤ n → rjW P C sl n = rjW P C sl k
  | 0, g => by rw [Nat.le_zero.mp g]
  | n + 1, g => by
    rcases Nat.lt_or_ge n k with g2 | g2
    · rw [show k = n + 1 by omega]
    · have e := rjW_end h n g2
      show rjW1 P (C (n : Int)) sl (rjW P C sl n) = _
      rw [e]
      exact rjW1_e h
noncomputable def rjdWh (S0 : Nat → Int → Int) (pl le a b : Int) (P : Int → Int) : Prop := pl = 23 + 3 * a ∧ le = 23 + 3 * b ∧ (0 ≤ a ∧ a ≤ 17) ∧ (0 ≤ b ∧ b ≤ 17) ∧ a ≠ b ∧ rjdRw S0 a P ∧ rjdRw S0 b rjHs
theorem rjd_ho {S : Nat → Int → Int} {a : Int} (h : ∀ t : Int, 0 ≤ t → t < 36 → S (24 + 3 * a).toNat t = -1 ∧ S (25 + 3 * a).toNat t = -1) : rjdRw S a rjHs := fun t t0 t1 => by
  have e : rjHs t = -1 := rjSc_in (R := fun _ => -1) (b := 0) t0 t1
  obtain ⟨x, y⟩ := h t t0 t1
  rw [e]
  exact ⟨⟨by decide, by decide⟩, x.trans (if_pos rfl).symm, y.trans (if_pos rfl).symm⟩
theorem rjW_fn {P C D : Int → Int} {sl : Int} {n : Nat} (h : ∀ k : Nat, k < n → C (k : Int) = D (k : Int)) : ∀ k : Nat, k ≤ n → rjW P C sl k = rjW P D sl k
  | 0, _ => rfl
  | k + 1, hk => by
    show rjW1 P (C (k : Int)) sl (rjW P C sl k) = rjW1 P (D (k : Int)) sl (rjW P D sl k)
    rw [rjW_fn h k (by omega), h k (by omega)]
end
section
theorem rjd_sg : (List.range 18).all (fun a => decide (23 + 3 * a ∈ rkSg)) = true := by decide +kernel
theorem rjd_sgm {a : Nat} (h : a < 18) : 23 + 3 * a ∈ rkSg := of_decide_eq_true (List.all_eq_true.mp rjd_sg a (List.mem_range.mpr h))
theorem rjd_sp {S : Nat → Int → Int} (h : rkPl S) {a : Nat} (ha : a < 18) : rkSp S (23 + 3 * a) := by
  obtain ⟨x, y⟩ := rjd_px h (a := (a : Int)) (by omega) (by omega)
  rw [show (23 + 3 * (a : Int)).toNat = 23 + 3 * a by omega] at x y
  exact ⟨x.trans (by omega), y.trans (by omega)⟩
theorem rjd_cz {S : Nat → Int → Int} (h : rkPl S) {a b : Int} (a0 : 0 ≤ a) (a1 : a ≤ 17) (b0 : 0 ≤ b) (b1 : b ≤ 17) (hab : a ≠ b) : ∃ t s : Nat, [23 + 3 * a, 23 + 3 * b] = [(t : Int), (s : Int)] ∧ (t ∈ rkSg ∧ s ∈ rkSg ∧ (t + 3 ≤ s ∨ s + 3 ≤ t)) ∧ rkSp S s ∧ rkSp S t := by
  refine ⟨23 + 3 * a.toNat, 23 + 3 * b.toNat, ?_, ⟨rjd_sgm (by omega), rjd_sgm (by omega), by omega⟩, rjd_sp h (by omega), rjd_sp h (by omega)⟩
  rw [show ((23 + 3 * a.toNat : Nat) : Int) = 23 + 3 * a by omega, show ((23 + 3 * b.toNat : Nat) : Int) = 23 + 3 * b by omega]
theorem rjd_sc {U S : Nat → Int → Int} {a b : Int} (a0 : 0 ≤ a) (b0 : 0 ≤ b) (h : ∀ t s : Nat, [23 + 3 * a, 23 + 3 * b] = [(t : Int), (s : Int)] → rkSc U S t s) : (∀ t : Int, 0 ≤ t → t < 36 → S (24 + 3 * a).toNat t = U (24 + 3 * b).toNat t ∧ S (25 + 3 * a).toNat t = U (25 + 3 * b).toNat t) ∧ ∀ (p : Nat) (j : Int), p ≠ (24 + 3 * a).toNat → p ≠ (25 + 3 * a).toNat → S p j = U p j := by
  obtain ⟨x, y, z⟩ := h (23 + 3 * a.toNat) (23 + 3 * b.toNat) (by
    rw [show ((23 + 3 * a.toNat : Nat) : Int) = 23 + 3 * a by omega, show ((23 + 3 * b.toNat : Nat) : Int) = 23 + 3 * b by omega])
  rw [show 23 + 3 * a.toNat + 1 = (24 + 3 * a).toNat by omega, show 23 + 3 * b.toNat + 1 = (24 + 3 * b).toNat by omega] at x
  rw [show 23 + 3 * a.toNat + 2 = (25 + 3 * a).toNat by omega, show 23 + 3 * b.toNat + 2 = (25 + 3 * b).toNat by omega] at y
  rw [show 23 + 3 * a.toNat + 1 = (24 + 3 * a).toNat by omega, show 23 + 3 * a.toNat + 2 = (25 + 3 * a).toNat by omega] at z
  exact ⟨fun t t0 t1 => ⟨x t t0 t1, y t t0 t1⟩, z⟩
theorem rjdSm_v {S T : Nat → Int → Int} {c f : Nat} (v : ∀ (p i : Nat), p < rxL.2.1 → i < bx_wd (rxL.1 p) → bx_mc (rxL.1 p) i ≠ (c, f) → T p (i : Int) = S p (i : Int)) (h1 : (1019, 0) ≠ (c, f)) (h2 : (1020, 0) ≠ (c, f)) : rjdSm S T := fun p t hp t0 t1 => by
  have hp_p := hp
  unfold rjdRg at hp_p
  have g := List.all_eq_true.mp rjdSm_c p (List.mem_range.mpr (by omega))
  rw [Bool.or_eq_true, Bool.not_eq_true', decide_eq_false_iff_not] at g
  have g := List.all_eq_true.mp (g.resolve_left (fun n => n hp)) t.toNat (List.mem_range.mpr (by omega))
  rw [Bool.and_eq_true, Nat.blt_eq, Bool.or_eq_true, decide_eq_true_eq, decide_eq_true_eq] at g
  obtain ⟨g1, g2⟩ := g
  have a := v p t.toNat (show p < 522 by omega) g1 (by
    rcases g2 with e | e
    · rw [e]
      exact h1
    · rw [e]
      exact h2)
  rw [Int.toNat_of_nonneg t0] at a
  exact a
noncomputable def rkDu (S : Nat → Int → Int) : Prop := rkSp S 444 ∧ rkSp S 447 ∧ rkSp S 476
theorem rkDu_sm {ms : List (Nat × Nat)} {S S_p : Nat → Int → Int} (hs : bx_same rxL (bx_mdl ms) S S_p) (hk : [(9, 0), (9, 1)].all (fun q => !(bx_mdl ms q.1 q.2)) = true) (h : rkDu S) : rkDu S_p := by
  have hq : ∀ x : Nat × Nat, x ∈ [(9, 0), (9, 1)] → bx_mdl ms x.1 x.2 = false := fun x hm => by
    have := List.all_eq_true.mp hk x hm
    rw [Bool.not_eq_true'] at this
    exact this
  obtain ⟨⟨a, b⟩, ⟨c, d⟩, e, f⟩ := h
  have q0 := hq (9, 0) (by decide)
  have q1 := hq (9, 1) (by decide)
  exact ⟨⟨(hs 444 0 (by decide) (by decide) q0).trans a, (hs 444 1 (by decide) (by decide) q1).trans b⟩, ⟨(hs 447 0 (by decide) (by decide) q0).trans c, (hs 447 1 (by decide) (by decide) q1).trans d⟩, (hs 476 0 (by decide) (by decide) q0).trans e, (hs 476 1 (by decide) (by decide) q1).trans f⟩
theorem rkDu_st : rkDu rzS := ⟨⟨by decide +kernel, by decide +kernel⟩, ⟨by decide +kernel, by decide +kernel⟩, by decide +kernel, by decide +kernel⟩
theorem rjd_cd {S : Nat → Int → Int} (h : rkPl S) {t : Nat} (ht : t ∈ rkSg) (hd : rkSp S t) (h3 : 350 ≤ t) {a : Int} (a0 : 0 ≤ a) (a1 : a ≤ 17) : ∃ t_p s : Nat, [(t : Int), 23 + 3 * a] = [(t_p : Int), (s : Int)] ∧ (t_p ∈ rkSg ∧ s ∈ rkSg ∧ (t_p + 3 ≤ s ∨ s + 3 ≤ t_p)) ∧ rkSp S s ∧ rkSp S t_p := by
  refine ⟨t, 23 + 3 * a.toNat, ?_, ⟨ht, rjd_sgm (by omega), by omega⟩, rjd_sp h (by omega), hd⟩
  rw [show ((23 + 3 * a.toNat : Nat) : Int) = 23 + 3 * a by omega]
theorem rjd_sd {U S : Nat → Int → Int} {t : Nat} {a : Int} (a0 : 0 ≤ a) (h : ∀ t_p s : Nat, [(t : Int), 23 + 3 * a] = [(t_p : Int), (s : Int)] → rkSc U S t_p s) : (∀ j : Int, 0 ≤ j → j < 36 → S (t + 1) j = U (24 + 3 * a).toNat j ∧ S (t + 2) j = U (25 + 3 * a).toNat j) ∧ ∀ (p : Nat) (j : Int), p ≠ t + 1 → p ≠ t + 2 → S p j = U p j := by
  obtain ⟨x, y, z⟩ := h t (23 + 3 * a.toNat) (by
    rw [show ((23 + 3 * a.toNat : Nat) : Int) = 23 + 3 * a by omega])
  rw [show 23 + 3 * a.toNat + 1 = (24 + 3 * a).toNat by omega] at x
  rw [show 23 + 3 * a.toNat + 2 = (25 + 3 * a).toNat by omega] at y
  exact ⟨fun j a b => ⟨x j a b, y j a b⟩, z⟩
noncomputable def rxCSOP : bx_Ct := ([(3, (1, 1, 0)), (0, (0, 0, 5))], some (3, (2, 10, 0)), [], 0, [])
noncomputable def rxISOP_0 (S0 : Nat → Int → Int) (ws : List Int) (S : Nat → Int → Int) (k : Int) : Prop := S = S0 ∧ ws = [1, k]
noncomputable def rxmSOP_0 (S0 : Nat → Int → Int) (ws : List Int) (S : Nat → Int → Int) (k : Int) : Nat := 100
noncomputable def rxzSOP_0 : rx_Z := ([(0, 0), (0, 0), (0, 0), (0, 0), (0, 0), (0, 0), (0, 0), (0, 0), (0, 5)], [], [], 0, 0, 0, [(0, .inr (3, (0, 1))), (1, .inr (0, (8, 0)))], [])
noncomputable def rxeSOP_0_0 : rx_End × List (Nat × Int × Int) := (([(0, 0), (0, 0), (0, 0), (0, 0), (0, 0), (0, 0), (0, 0), (0, 0), (0, 5), (0, 1522)], [], [(((0, 0), 1851192626986356797424364830707437625680387377997778264866947072000000), .inr (3, (9, 0))), (((9, 0), 1000010), .inl none), (((0, 1), 3), .inr (3, (0, 4)))], some (.inr (3, (9, 0)))), [])
noncomputable def rxYSOP : List bx_HE := [(rxzSOP_0, [], [rxeSOP_0_0])]
noncomputable def rxUSOP (q : bx_HE) : Bool := false
noncomputable def rxYBSOP : bx_B := (rxV, rxNP, rxDmf, bx_mdH rxCSOP.2.2.1)
set_option maxRecDepth 100000 in
theorem rxYcSOP : bx_chkH rxYBSOP rxM105 rxCSOP rxYSOP (rxUSOP, fun cut z => rx_ex2 (rxCT rxYBSOP rxCnE) cut 30000 rxCSOP.2.2.2.1 105 z) = true := by decide +kernel
noncomputable def rxISOP (S0 : Nat → Int → Int) (ws : List Int) (i : Nat) : bx_SP := fun S r => match i with | 0 => rxISOP_0 S0 ws S (r 8) | _ => False
noncomputable def rxmSOP (S0 : Nat → Int → Int) (ws : List Int) (i : Nat) (S : Nat → Int → Int) (r : Nat → Int) : Nat := match i with | 0 => rxmSOP_0 S0 ws S (r 8) | _ => 0
noncomputable def rxPSOP (S0 : Nat → Int → Int) (ws : List Int) : Prop := True
noncomputable def rxPSSOP (S0 : Nat → Int → Int) (ws : List Int) (S : Nat → Int → Int) (w : Option Int) : Prop := S = S0 ∧ ∃ k : Int, ws = [1, k] ∧ w = some (S0 4 k)
theorem rxdSOP_0_0 {S0 : Nat → Int → Int} {ws : List Int} {S : Nat → Int → Int} {k x9 : Int} (hP : rxPSOP S0 ws) (hin : bx_same rxL (bx_mdl rxCSOP.2.2.1) S0 S) (hin2 : bx_same rxL (bx_mdl rxCSOP.2.2.1) S S) (I0 : bx_Inv rxL S) (I1 : bx_Inv rxL S) (hinv : rxISOP_0 S0 ws S k) (l8 : 0 ≤ k) (u8 : k ≤ 5) (l9 : 0 ≤ x9) (u9 : x9 ≤ 1522) (e0 : S 4 k = x9) : (True) ∧ rxPSSOP S0 ws S (some x9) := by
  obtain ⟨rfl, hw⟩ := hinv
  exact ⟨trivial, rfl, k, hw, congrArg some (e0.symm.trans (congrArg (S 4) (by omega)))⟩
theorem rxfSOP_0_0 {X : (Nat → Int → Int) → Prop} {S0 : Nat → Int → Int} {ws : List Int} (hP : rxPSOP S0 ws) : bx_obE rxL X S0 rxCSOP.2.2.1 (rxISOP S0 ws) (rxPSSOP S0 ws) 0 rxzSOP_0 rxeSOP_0_0 := by
  intro S S_p r r_p hinv hX hin hsm_ hseg
  obtain ⟨I0, I1, h0_, hr_, b_, f_, d_⟩ := bx_cl (evs := [(0, (0, 4), (8, 0), .inr (3, (9, 0)))]) (fvs := []) hseg (by decide +kernel) (by decide +kernel)
  have hinv : rxISOP_0 S0 ws S (r 8) := hinv
  rw [← hr_ 8 (by decide)] at hinv
  obtain ⟨⟨l8, u8⟩, ⟨l9, u9⟩, -⟩ := b_
  obtain ⟨e0, w_⟩ := d_
  subst w_
  have g := rxdSOP_0_0 hP hin hsm_ I0 I1 hinv l8 u8 l9 u9 e0
  refine ⟨bx_narP_ok (l := []) g.1, ?_⟩
  show rxPSSOP S0 ws S_p (some (bx_num r_p (.inr (3, (9, 0)))))
  rw [bx_xv_ok h0_]
  exact g.2
theorem rxgCSOP {X : (Nat → Int → Int) → Prop} {S0 : Nat → Int → Int} {ws : List Int} (hP : rxPSOP S0 ws) : bx_allI (fun i q => rxUSOP q = true ∨ bx_allP (fun o => bx_obC rxL X S0 rxCSOP.2.2.1 (rxISOP S0 ws) (rxmSOP S0 ws) i q.1 o) q.2.1) 0 rxYSOP := ⟨Or.inr trivial, trivial⟩
theorem rxgESOP {X : (Nat → Int → Int) → Prop} {S0 : Nat → Int → Int} {ws : List Int} (hP : rxPSOP S0 ws) : bx_allI (fun i q => rxUSOP q = true ∨ bx_allP (fun E => bx_obE rxL X S0 rxCSOP.2.2.1 (rxISOP S0 ws) (rxPSSOP S0 ws) i q.1 E) q.2.2) 0 rxYSOP := ⟨Or.inr ⟨rxfSOP_0_0 hP, trivial⟩, trivial⟩
theorem rxQSOP {PX : State → Prop} {Dg : va_G} {A : Nat → Prop} {ad xa : Nat → Nat} {l : Launch} {X : (Nat → Int → Int) → Prop} (hPX : rx_PXOK rxNW A PX) (hsl : ∀ s : State, PX s → ∀ o idx n : Nat, rxSl o idx = some n → ∃ tx : String, vk_R (rxNm o) idx tx (ad n) s)
    (hX : ∀ S S_p : Nat → Int → Int, X S → bx_same rxL (bx_mdl rxCSOP.2.2.1) S S_p → X S_p)
    (ih : ∀ (j2 : Nat) (ct2 : bx_Ct) (M2 : rx_Mt), ct2 ∈ rxCnE j2 → ct2.2.2.2.1 + 1 ≤ rxCSOP.2.2.2.1 → rxT.2.2.2.2.2 j2 = some M2 → bx_Con rxG rxNW rxAO PX Dg rxL X vwCl A ad l M2 ct2) : bx_ConP rxG rxNW rxAO PX Dg rxL X vwCl A ad l rxM105 rxCSOP rxPSOP rxPSSOP :=
  rxQof (xa := xa) (Cn := rxCnE) (f := 30000) (j := 105) (tab := rxYSOP) (us := rxUSOP) hPX hsl hX ih rfl rxYcSOP rxISOP rxmSOP
    (fun S0 ws r I0 I ht0 ht as he he1 hX0 hI0 hP hs ha => by
      have e := he.symm.trans (show bx_ent0 rxNP rxCSOP.1 bx_I0 [] = some ([(0, 0), (0, 0), (0, 0), (0, 0), (0, 0), (0, 0), (0, 0), (0, 0), (0, 5)], [], [.inr (3, (0, 1)), .inr (0, (8, 0))]) from rfl)
      cases e
      subst ha
      have h0 : r 0 = 0 := hs.1
      show rxISOP_0 S0 _ S0 (r 8)
      refine ⟨rfl, ?_⟩
      simp only [List.map_cons, List.map_nil, bx_xv_ok h0]
      rfl)
    (fun S0 ws hP => fun i q hq hus => absurd (show false = true from hus) Bool.false_ne_true) (fun S0 ws hP => rxgCSOP hP) (fun S0 ws hP => rxgESOP hP)
noncomputable def rxCSOV : bx_Ct := ([(3, (1, 1, 0)), (0, (0, 0, 11))], some (3, (2, 10, 0)), [], 0, [])
noncomputable def rxISOV_0 (S0 : Nat → Int → Int) (ws : List Int) (S : Nat → Int → Int) (k : Int) : Prop := S = S0 ∧ ws = [1, k]
noncomputable def rxmSOV_0 (S0 : Nat → Int → Int) (ws : List Int) (S : Nat → Int → Int) (k : Int) : Nat := 100
noncomputable def rxzSOV_0 : rx_Z := ([(0, 0), (0, 0), (0, 0), (0, 0), (0, 0), (0, 0), (0, 0), (0, 0), (0, 11)], [], [], 0, 0, 0, [(0, .inr (3, (0, 1))), (1, .inr (0, (8, 0)))], [])
noncomputable def rxeSOV_0_0 : rx_End × List (Nat × Int × Int) := (([(0, 0), (0, 0), (0, 0), (0, 0), (0, 0), (0, 0), (0, 0), (0, 0), (0, 11), (0, 1522)], [], [(((0, 0), 1851192626986356797424364830707437625680387377997778264871665664000000), .inr (3, (9, 0))), (((9, 0), 1000010), .inl none), (((0, 1), 9), .inr (3, (0, 12)))], some (.inr (3, (9, 0)))), [])
noncomputable def rxYSOV : List bx_HE := [(rxzSOV_0, [], [rxeSOV_0_0])]
noncomputable def rxUSOV (q : bx_HE) : Bool := false
noncomputable def rxYBSOV : bx_B := (rxV, rxNP, rxDmf, bx_mdH rxCSOV.2.2.1)
set_option maxRecDepth 100000 in
theorem rxYcSOV : bx_chkH rxYBSOV rxM124 rxCSOV rxYSOV (rxUSOV, fun cut z => rx_ex2 (rxCT rxYBSOV rxCnE) cut 30000 rxCSOV.2.2.2.1 124 z) = true := by decide +kernel
noncomputable def rxISOV (S0 : Nat → Int → Int) (ws : List Int) (i : Nat) : bx_SP := fun S r => match i with | 0 => rxISOV_0 S0 ws S (r 8) | _ => False
noncomputable def rxmSOV (S0 : Nat → Int → Int) (ws : List Int) (i : Nat) (S : Nat → Int → Int) (r : Nat → Int) : Nat := match i with | 0 => rxmSOV_0 S0 ws S (r 8) | _ => 0
noncomputable def rxPSOV (S0 : Nat → Int → Int) (ws : List Int) : Prop := True
noncomputable def rxPSSOV (S0 : Nat → Int → Int) (ws : List Int) (S : Nat → Int → Int) (w : Option Int) : Prop := S = S0 ∧ ∃ k : Int, ws = [1, k] ∧ w = some (S0 12 k)
theorem rxdSOV_0_0 {S0 : Nat → Int → Int} {ws : List Int} {S : Nat → Int → Int} {k x9 : Int} (hP : rxPSOV S0 ws) (hin : bx_same rxL (bx_mdl rxCSOV.2.2.1) S0 S) (hin2 : bx_same rxL (bx_mdl rxCSOV.2.2.1) S S) (I0 : bx_Inv rxL S) (I1 : bx_Inv rxL S) (hinv : rxISOV_0 S0 ws S k) (l8 : 0 ≤ k) (u8 : k ≤ 11) (l9 : 0 ≤ x9) (u9 : x9 ≤ 1522) (e0 : S 12 k = x9) : (True) ∧ rxPSSOV S0 ws S (some x9) := by
  obtain ⟨rfl, hw⟩ := hinv
  exact ⟨trivial, rfl, k, hw, congrArg some (e0.symm.trans (congrArg (S 12) (by omega)))⟩
theorem rxfSOV_0_0 {X : (Nat → Int → Int) → Prop} {S0 : Nat → Int → Int} {ws : List Int} (hP : rxPSOV S0 ws) : bx_obE rxL X S0 rxCSOV.2.2.1 (rxISOV S0 ws) (rxPSSOV S0 ws) 0 rxzSOV_0 rxeSOV_0_0 := by
  intro S S_p r r_p hinv hX hin hsm_ hseg
  obtain ⟨I0, I1, h0_, hr_, b_, f_, d_⟩ := bx_cl (evs := [(0, (0, 12), (8, 0), .inr (3, (9, 0)))]) (fvs := []) hseg (by decide +kernel) (by decide +kernel)
  have hinv : rxISOV_0 S0 ws S (r 8) := hinv
  rw [← hr_ 8 (by decide)] at hinv
  obtain ⟨⟨l8, u8⟩, ⟨l9, u9⟩, -⟩ := b_
  obtain ⟨e0, w_⟩ := d_
  subst w_
  have g := rxdSOV_0_0 hP hin hsm_ I0 I1 hinv l8 u8 l9 u9 e0
  refine ⟨bx_narP_ok (l := []) g.1, ?_⟩
  show rxPSSOV S0 ws S_p (some (bx_num r_p (.inr (3, (9, 0)))))
  rw [bx_xv_ok h0_]
  exact g.2
theorem rxgCSOV {X : (Nat → Int → Int) → Prop} {S0 : Nat → Int → Int} {ws : List Int} (hP : rxPSOV S0 ws) : bx_allI (fun i q => rxUSOV q = true ∨ bx_allP (fun o => bx_obC rxL X S0 rxCSOV.2.2.1 (rxISOV S0 ws) (rxmSOV S0 ws) i q.1 o) q.2.1) 0 rxYSOV := ⟨Or.inr trivial, trivial⟩
theorem rxgESOV {X : (Nat → Int → Int) → Prop} {S0 : Nat → Int → Int} {ws : List Int} (hP : rxPSOV S0 ws) : bx_allI (fun i q => rxUSOV q = true ∨ bx_allP (fun E => bx_obE rxL X S0 rxCSOV.2.2.1 (rxISOV S0 ws) (rxPSSOV S0 ws) i q.1 E) q.2.2) 0 rxYSOV := ⟨Or.inr ⟨rxfSOV_0_0 hP, trivial⟩, trivial⟩
theorem rxQSOV {PX : State → Prop} {Dg : va_G} {A : Nat → Prop} {ad xa : Nat → Nat} {l : Launch} {X : (Nat → Int → Int) → Prop} (hPX : rx_PXOK rxNW A PX) (hsl : ∀ s : State, PX s → ∀ o idx n : Nat, rxSl o idx = some n → ∃ tx : String, vk_R (rxNm o) idx tx (ad n) s)
    (hX : ∀ S S_p : Nat → Int → Int, X S → bx_same rxL (bx_mdl rxCSOV.2.2.1) S S_p → X S_p)
    (ih : ∀ (j2 : Nat) (ct2 : bx_Ct) (M2 : rx_Mt), ct2 ∈ rxCnE j2 → ct2.2.2.2.1 + 1 ≤ rxCSOV.2.2.2.1 → rxT.2.2.2.2.2 j2 = some M2 → bx_Con rxG rxNW rxAO PX Dg rxL X vwCl A ad l M2 ct2) : bx_ConP rxG rxNW rxAO PX Dg rxL X vwCl A ad l rxM124 rxCSOV rxPSOV rxPSSOV :=
  rxQof (xa := xa) (Cn := rxCnE) (f := 30000) (j := 124) (tab := rxYSOV) (us := rxUSOV) hPX hsl hX ih rfl rxYcSOV rxISOV rxmSOV
    (fun S0 ws r I0 I ht0 ht as he he1 hX0 hI0 hP hs ha => by
      have e := he.symm.trans (show bx_ent0 rxNP rxCSOV.1 bx_I0 [] = some ([(0, 0), (0, 0), (0, 0), (0, 0), (0, 0), (0, 0), (0, 0), (0, 0), (0, 11)], [], [.inr (3, (0, 1)), .inr (0, (8, 0))]) from rfl)
      cases e
      subst ha
      have h0 : r 0 = 0 := hs.1
      show rxISOV_0 S0 _ S0 (r 8)
      refine ⟨rfl, ?_⟩
      simp only [List.map_cons, List.map_nil, bx_xv_ok h0]
      rfl)
    (fun S0 ws hP => fun i q hq hus => absurd (show false = true from hus) Bool.false_ne_true) (fun S0 ws hP => rxgCSOV hP) (fun S0 ws hP => rxgESOV hP)
end
