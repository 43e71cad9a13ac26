section
noncomputable def bx_x (r : Nat → Int) (e : rx_E) : Int := match e with
  | (0, c) => c
  | (n + 1, .ofNat 0) => r (n + 1)
  | (n + 1, c) => r (n + 1) + c
theorem bx_x_ok {r : Nat → Int} (h : r 0 = 0) (e : rx_E) : rx_ev r e = bx_x r e := by
  obtain ⟨n, c⟩ := e
  match n, c with
  | 0, c =>
    show r 0 + c = c
    rw [h, Int.zero_add]
  | n + 1, .ofNat 0 => exact Int.add_zero _
  | n + 1, .ofNat (m + 1) => rfl
  | n + 1, .negSucc m => rfl
noncomputable def bx_xv (r : Nat → Int) (v : rx_V) : Int := match v with
  | .inl _ => 0
  | .inr (_, e) => bx_x r e
theorem bx_xv_ok {r : Nat → Int} (h : r 0 = 0) (v : rx_V) : bx_num r v = bx_xv r v := by
  match v with
  | .inl _ => rfl
  | .inr (_, e) => exact bx_x_ok h e
noncomputable def bx_xp (r : Nat → Int) (e : rx_E) : Nat := match e with
  | (0, c) => c.toNat
  | (n + 1, c) => (bx_x r (n + 1, c)).toNat
theorem bx_xp_ok {r : Nat → Int} (h : r 0 = 0) (e : rx_E) : (rx_ev r e).toNat = bx_xp r e := by
  rw [bx_x_ok h]
  obtain ⟨n, c⟩ := e
  match n with
  | 0 => rfl
  | n + 1 => rfl
noncomputable abbrev bx_EV : Type := Nat × rx_E × rx_E × rx_V
noncomputable def bx_ev1 (q : rx_C) : bx_EV := if bx_kd q = 2 then (2, ((bx_hc q).1, 0), ((bx_hc q).2, 0), .inl none) else (bx_kd q, bx_pe q, bx_ie q, q.2)
noncomputable def bx_evs : List rx_C → List bx_EV
  | [] => []
  | q :: l => if bx_isE q = true then bx_ev1 q :: bx_evs l else bx_evs l
noncomputable def bx_den (L : bx_L) (r : Nat → Int) (S0 : Nat → Int → Int) : List bx_EV → (Nat → Int → Int) → Prop
  | [], S => S = S0
  | (0, p, ix, v) :: l, S => S (bx_xp r p) (bx_x r ix) = bx_xv r v ∧ bx_den L r S0 l S
  | (1, p, ix, v) :: l, S => ∃ S1 : Nat → Int → Int, bx_den L r S0 l S1 ∧ S = bx_up S1 (bx_xp r p) (bx_x r ix) (bx_xv r v)
  | (_ + 2, c, f, _) :: l, S => ∃ S1 : Nat → Int → Int, bx_den L r S0 l S1 ∧ ∀ (p i : Nat), p < L.2.1 → i < bx_wd (L.1 p) → bx_mc (L.1 p) i ≠ (c.1, f.1) → S p (i : Int) = S1 p (i : Int)
theorem bx_den_ok {L : bx_L} {N : Nat} {r : Nat → Int} {S0 : Nat → Int → Int} (h : r 0 = 0) : ∀ {ht : List rx_C} {S : Nat → Int → Int}, bx_chain L N r S0 ht S → bx_den L r S0 (bx_evs ht) S
  | [], _, hc => hc
  | q :: l, S, hc => by
    unfold bx_evs
    rcases bx_chain_cases hc with ⟨h1, h2⟩ | ⟨h1, h2⟩
    · rw [if_neg h1]
      exact bx_den_ok h h2
    · rw [if_pos h1]
      obtain ⟨-, h3⟩ := h2
      unfold bx_ev1
      split at h3
      · rename_i h4
        rw [if_neg (by omega), h4]
        obtain ⟨h5, h6⟩ := h3
        rw [bx_xp_ok h, bx_x_ok h, bx_xv_ok h] at h5
        exact ⟨h5, bx_den_ok h h6⟩
      · split at h3
        · rename_i h4
          rw [if_neg (by omega), h4]
          obtain ⟨S1, h5, h6⟩ := h3
          rw [bx_xp_ok h, bx_x_ok h, bx_xv_ok h] at h6
          exact ⟨S1, bx_den_ok h h5, h6⟩
        · rename_i h4 h5
          have h6 : bx_kd q = 2 := by
            have : bx_kd q < 3 := Nat.mod_lt _ (by omega)
            omega
          rw [if_pos h6]
          obtain ⟨S1, h7, h8⟩ := h3
          exact ⟨S1, bx_den_ok h h7, h8⟩
noncomputable def bx_bds (r : Nat → Int) : Nat → rx_I → Prop
  | _, [] => True
  | n, q :: l => (q.1 ≤ r n ∧ r n ≤ q.2) ∧ bx_bds r (n + 1) l
theorem bx_bds_ok {r : Nat → Int} : ∀ {l : rx_I} {n : Nat}, (∀ (k : Nat) (q : Int × Int), l[k]? = some q → q.1 ≤ r (n + k) ∧ r (n + k) ≤ q.2) → bx_bds r n l
  | [], _, _ => trivial
  | q :: l, n, h => ⟨h 0 q rfl, bx_bds_ok fun k q2 hk => by
    have := h (k + 1) q2 hk
    rw [show n + (k + 1) = n + 1 + k by omega] at this
    exact this⟩
theorem bx_bds_sat {r : Nat → Int} {I : rx_I} (h : rx_sat I r) : bx_bds r 8 (I.drop 8) := bx_bds_ok fun k q hk => by
  rw [List.getElem?_drop] at hk
  exact h.2.2 (8 + k) q.1 q.2 hk
noncomputable abbrev bx_FV : Type := Nat × rx_E × rx_E × rx_E
noncomputable def bx_fv1 (f : Nat × rx_E × rx_E) : bx_FV := if f.1 < 4 then (f.1, f.2.1, f.2.2, (0, 0)) else if f.1 < 1000000 then (4, f.2.1, f.2.2, (0, ((f.1 - 4 : Nat) : Int))) else (5, f.2.1, f.2.2, bx_de (f.1 / 1000000))
noncomputable def bx_fvP (r : Nat → Int) (f : bx_FV) : Prop := match f with
  | (0, a, b, _) => bx_x r a < bx_x r b
  | (1, a, b, _) => bx_x r a ≤ bx_x r b
  | (2, a, b, _) => bx_x r a = bx_x r b
  | (3, a, b, _) => bx_x r a ≠ bx_x r b
  | (4, a, b, c) => bx_x r a = bx_x r c * bx_x r b
  | (_ + 5, a, b, c) => bx_x r a = bx_x r b + bx_x r c
theorem bx_fv1_ok {r : Nat → Int} {f : Nat × rx_E × rx_E} (h : r 0 = 0) : rx_fact r f ↔ bx_fvP r (bx_fv1 f) := by
  obtain ⟨k, a, b⟩ := f
  unfold bx_fv1 rx_fact
  dsimp only
  match k with
  | 0 => rw [if_pos (by omega), bx_x_ok h, bx_x_ok h]; exact Iff.rfl
  | 1 => rw [if_pos (by omega), bx_x_ok h, bx_x_ok h]; exact Iff.rfl
  | 2 => rw [if_pos (by omega), bx_x_ok h, bx_x_ok h]; exact Iff.rfl
  | 3 => rw [if_pos (by omega), bx_x_ok h, bx_x_ok h]; exact Iff.rfl
  | k + 4 =>
    rw [if_neg (by omega)]
    dsimp only
    by_cases hk : k < 999996
    · rw [if_pos hk, if_pos (by omega), bx_x_ok h, bx_x_ok h, show k + 4 - 4 = k by omega]
      exact Iff.rfl
    · rw [if_neg hk, if_neg (by omega), bx_x_ok h, bx_x_ok h, bx_x_ok h]
      exact Iff.rfl
noncomputable def bx_fcl (r : Nat → Int) : List bx_FV → Prop
  | [] => True
  | f :: l => bx_fvP r f ∧ bx_fcl r l
theorem bx_fcl_ok {r : Nat → Int} (h : r 0 = 0) : ∀ {F : rx_F}, rx_facts F r → bx_fcl r (F.map bx_fv1)
  | [], _ => trivial
  | f :: F, hF => ⟨(bx_fv1_ok h).mp (hF f List.mem_cons_self), bx_fcl_ok h fun g hg => hF g (List.mem_cons_of_mem _ hg)⟩
noncomputable def bx_qEV (a b : bx_EV) : Bool := Nat.beq a.1 b.1 && (Nat.beq a.2.1.1 b.2.1.1 && (decide (a.2.1.2 = b.2.1.2) && (Nat.beq a.2.2.1.1 b.2.2.1.1 && (decide (a.2.2.1.2 = b.2.2.1.2) && bx_qV a.2.2.2 b.2.2.2))))
theorem bx_qEV_ok (a b : bx_EV) (h : bx_qEV a b = true) : a = b := by
  obtain ⟨a1, ⟨a2, a3⟩, ⟨a4, a5⟩, a6⟩ := a
  obtain ⟨b1, ⟨b2, b3⟩, ⟨b4, b5⟩, b6⟩ := b
  have h : (Nat.beq a1 b1 && (Nat.beq a2 b2 && (decide (a3 = b3) && (Nat.beq a4 b4 && (decide (a5 = b5) && bx_qV a6 b6))))) = true := h
  simp only [Bool.and_eq_true, decide_eq_true_eq] at h
  obtain ⟨h1, h2, h3, h4, h5, h6⟩ := h
  rw [Nat.eq_of_beq_eq_true h1, Nat.eq_of_beq_eq_true h2, h3, Nat.eq_of_beq_eq_true h4, h5, bx_qV_ok h6]
theorem bx_cl {L : bx_L} {z : rx_Z} {I : rx_I} {F : rx_F} {ht : List rx_C} {S0 S : Nat → Int → Int} {r r_p : Nat → Int} {evs : List bx_EV} {fvs : List bx_FV} (h : bx_Seg L z I F ht S0 S r r_p) (h1 : bx_qL bx_qEV (bx_evs ht) evs = true) (h2 : F.map bx_fv1 = fvs) :
    bx_Inv L S0 ∧ bx_Inv L S ∧ r_p 0 = 0 ∧ (∀ n, n < z.1.length → r_p n = r n) ∧ bx_bds r_p 8 (I.drop 8) ∧ bx_fcl r_p fvs ∧ bx_den L r_p S0 evs S := by
  obtain ⟨a1, a2, -, a4, a5, a6, a7⟩ := h
  have h1 := bx_qL_ok bx_qEV_ok h1
  subst h1
  subst h2
  exact ⟨a1, a2, a5.1, a4, bx_bds_sat a5, bx_fcl_ok a5.1 a6, bx_den_ok a5.1 a7⟩
theorem bx_val_x {σ : List rx_E} {r : Nat → Int} {n : Nat} {e : rx_E} (h : r 0 = 0) (he : σ[n]? = some e) : bx_val σ r n = bx_x r e := by
  unfold bx_val
  rw [he]
  exact bx_x_ok h e
noncomputable def bx_narP (r : Nat → Int) : List (Nat × Int × Int) → Prop
  | [] => True
  | b :: l => (b.2.1 ≤ r b.1 ∧ r b.1 ≤ b.2.2) ∧ bx_narP r l
theorem bx_narP_ok {r : Nat → Int} : ∀ {l : List (Nat × Int × Int)}, bx_narP r l → ∀ b ∈ l, b.2.1 ≤ r b.1 ∧ r b.1 ≤ b.2.2
  | [], _, b, hb => absurd hb List.not_mem_nil
  | b :: l, h, q, hq => by
    rcases List.mem_cons.mp hq with h1 | h1
    · subst h1
      exact h.1
    · exact bx_narP_ok h.2 q h1
theorem bx_nfP_ok {r : Nat → Int} (h0 : r 0 = 0) {F : rx_F} {fvs : List bx_FV} (h : F.map bx_fv1 = fvs) (hf : bx_fcl r fvs) : ∀ f ∈ F, rx_fact r f := by
  subst h
  induction F with
  | nil => exact fun f hf => absurd hf List.not_mem_nil
  | cons a t ih =>
    intro f hfm
    rcases List.mem_cons.mp hfm with h1 | h1
    · subst h1
      exact (bx_fv1_ok h0).mpr hf.1
    · exact ih hf.2 f h1
noncomputable def bx_allP {α : Type} (P : α → Prop) : List α → Prop
  | [] => True
  | a :: l => P a ∧ bx_allP P l
noncomputable def bx_allI {α : Type} (P : Nat → α → Prop) : Nat → List α → Prop
  | _, [] => True
  | i, a :: l => P i a ∧ bx_allI P (i + 1) l
theorem bx_allP_ok {α : Type} {P : α → Prop} : ∀ {l : List α}, bx_allP P l → ∀ a ∈ l, P a
  | [], _, a, h => absurd h List.not_mem_nil
  | b :: l, h, a, hm => by
    rcases List.mem_cons.mp hm with h1 | h1
    · subst h1
      exact h.1
    · exact bx_allP_ok h.2 a h1
theorem bx_allI_ok {α : Type} {P : Nat → α → Prop} : ∀ {l : List α} {k i : Nat} {a : α}, bx_allI P k l → l[i]? = some a → P (k + i) a
  | [], _, _, _, _, h => by cases h
  | b :: l, k, 0, a, h, hm => by
    cases hm
    exact h.1
  | b :: l, k, i + 1, a, h, hm => by
    have := bx_allI_ok (l := l) (k := k + 1) (i := i) (a := a) h.2 hm
    rw [show k + 1 + i = k + (i + 1) by omega] at this
    exact this
end
section
theorem rx_sg_mem : ∀ {l : bx_S} {j : Int}, bx_sg l j = (0, 1, 0) ∨ ∃ s ∈ l, s.1 ≤ j ∧ j ≤ s.2.1 ∧ (j - s.1) % s.2.2.1 = 0 ∧ bx_sg l j = s.2.2.2
  | [], _ => Or.inl rfl
  | s :: l, j => by
    unfold bx_sg
    split
    · rename_i h
      exact Or.inr ⟨s, List.mem_cons_self, h.1, h.2.1, h.2.2, rfl⟩
    · rcases rx_sg_mem (l := l) (j := j) with h | ⟨a, h1, h2⟩
      · exact Or.inl h
      · exact Or.inr ⟨a, List.mem_cons_of_mem _ h1, h2⟩
noncomputable def bx_cov1 (q : bx_Pl) (off lo hi : Int) (s : Int × Int × Int × bx_T) : Bool := decide (s.2.1 < lo) || (decide (hi < s.1) || decide (bx_dW q (s.1 + off) (s.2.1 + off) s.2.2.1 = some s.2.2.2))
theorem bx_cov_ok {L : bx_L} {k : bx_K} {n : Nat} {ss : bx_S} {q : bx_Pl} {off lo hi j v : Int} (h : ss.all (bx_cov1 q off lo hi) = true) (h1 : lo ≤ j) (h2 : j ≤ hi) (hv : bx_okT L (bx_dT (k, n, .inr ss) j) v) : bx_okT L (bx_dT q (j + off)) v := by
  have hv : bx_okT L (bx_sg ss j) v := hv
  rcases rx_sg_mem (l := ss) (j := j) with h3 | ⟨s, h3, h4, h5, h6, h7⟩
  · rw [h3] at hv
    have hv : (1 : Int) ≤ v ∧ v ≤ 0 := hv
    omega
  · rw [h7] at hv
    have h8 := List.all_eq_true.mp h s h3
    unfold bx_cov1 at h8
    rw [Bool.or_eq_true, Bool.or_eq_true, decide_eq_true_eq, decide_eq_true_eq, decide_eq_true_eq] at h8
    rcases h8 with h8 | h8 | h8
    · omega
    · omega
    · rw [bx_dW_ok h8 (j := j + off) (by omega) (by omega) (by rw [show j + off - (s.1 + off) = j - s.1 by omega]; exact h6)]
      exact hv
noncomputable def bx_ssOf (p : bx_Pl) : bx_S := match p.2.2 with
  | .inl _ => []
  | .inr ss => ss
theorem rxCov1 : (bx_ssOf rxPl482).all (bx_cov1 rxPl483 0 0 6179) = true := by decide +kernel
theorem rxCov2 : (bx_ssOf rxPl482).all (bx_cov1 rxPl483 6180 0 6179) = true := by decide +kernel
theorem rxCov3 : (bx_ssOf rxPl483).all (bx_cov1 rxPl482 0 0 6179) = true := by decide +kernel
theorem rxCov4 : (bx_ssOf rxPl483).all (bx_cov1 rxPl482 (-6180) 6180 12359) = true := by decide +kernel
theorem rxT482 (j : Int) : rxL.2.2.1 482 j = bx_dT rxPl482 j := rfl
theorem rxT483 (j : Int) : rxL.2.2.1 483 j = bx_dT rxPl483 j := rfl
theorem rxW482 : bx_wd (rxL.1 482) = 6180 := rfl
theorem rxW483 : bx_wd (rxL.1 483) = 12360 := rfl
theorem rx_inv {S : Nat → Int → Int} (h : bx_Inv rxL S) {p : Nat} {j : Int} {n : Nat} {t : bx_T} (hp : p < 522) (hw : bx_wd (rxL.1 p) = n) (h0 : 0 ≤ j) (h1 : j < (n : Int)) (ht : rxL.2.2.1 p j = t) : bx_okT rxL t (S p j) := by
  have := h p j.toNat hp (by omega)
  rw [show ((j.toNat : Nat) : Int) = j by omega, ht] at this
  exact this
theorem rxImgT {S : Nat → Int → Int} (h : bx_Inv rxL S) {k i : Int} (hk : 0 ≤ k ∧ k ≤ 1) (hi : 0 ≤ i ∧ i ≤ 6179) : bx_okT rxL (rxL.2.2.1 483 (6180 * k + i)) (S 482 i) := by
  have h1 := rx_inv h (p := 482) (j := i) (by omega) rxW482 hi.1 (by omega) (rxT482 i)
  rw [rxT483]
  rcases (show k = 0 ∨ k = 1 by omega) with rfl | rfl
  · rw [show (6180 : Int) * 0 + i = i + 0 by omega]
    exact bx_cov_ok (k := rxPl482.1) (n := rxPl482.2.1) rxCov1 hi.1 hi.2 h1
  · rw [show (6180 : Int) * 1 + i = i + 6180 by omega]
    exact bx_cov_ok (k := rxPl482.1) (n := rxPl482.2.1) rxCov2 hi.1 hi.2 h1
theorem rxRowT {S : Nat → Int → Int} (h : bx_Inv rxL S) {k i : Int} (hk : 0 ≤ k ∧ k ≤ 1) (hi : 0 ≤ i ∧ i ≤ 6179) : bx_okT rxL (rxL.2.2.1 482 i) (S 483 (6180 * k + i)) := by
  have h1 := rx_inv h (p := 483) (j := 6180 * k + i) (by omega) rxW483 (by omega) (by omega) (rxT483 _)
  rw [rxT482]
  rcases (show k = 0 ∨ k = 1 by omega) with rfl | rfl
  · rw [show (6180 : Int) * 0 + i = i by omega] at h1 ⊢
    have := bx_cov_ok (k := rxPl483.1) (n := rxPl483.2.1) rxCov3 hi.1 hi.2 h1
    rw [Int.add_zero] at this
    exact this
  · rw [show (6180 : Int) * 1 + i = i + 6180 by omega] at h1 ⊢
    have := bx_cov_ok (k := rxPl483.1) (n := rxPl483.2.1) rxCov4 (by omega) (by omega) h1
    rw [show i + 6180 + -6180 = i by omega] at this
    exact this
noncomputable def rx_clK (k : bx_K) : Bool := match k with
  | .inl (ci, _) => Nat.blt ci 999999
  | .inr (_, _, g) => Nat.blt (1000 + g) 999999
theorem rxClK : rxPs.all (fun l => l.all (fun p => rx_clK p.1)) = true := by decide +kernel
theorem rxHcl (p i : Nat) : (bx_mc (rxL.1 p) i).1 ≠ 999999 := by
  show (bx_mc (match rxPf p with
    | some x => x.1
    | none => .inr (0, 0, 0)) i).1 ≠ 999999
  have key : ∀ k : bx_K, rx_clK k = true → (bx_mc k i).1 ≠ 999999 := fun k hk => by
    match k, hk with
    | .inl (ci, fs), hk =>
      have hk : Nat.blt ci 999999 = true := hk
      have := Nat.le_of_ble_eq_true hk
      show ci ≠ 999999
      omega
    | .inr (a, b, g), hk =>
      have hk : Nat.blt (1000 + g) 999999 = true := hk
      have := Nat.le_of_ble_eq_true hk
      show 1000 + g ≠ 999999
      omega
  split
  · rename_i x hx
    unfold rxPf at hx
    split at hx
    · rename_i l hl
      exact key _ (List.all_eq_true.mp (List.all_eq_true.mp rxClK l (rx_nth_mem hl)) x (rx_nth_mem hx))
    · cases hx
  · exact key _ rfl
end
section
theorem bx_okH_ex {dmf : Nat → Int → Bool} {ret : Option (Nat × bx_T)} {tab : List bx_HE} {q : bx_HE} {r1 r2 : (rx_Z → Bool) → rx_Z → Option (List rx_End)} (hr : ∀ cut z Es, r1 cut z = some Es → r2 cut z = some Es) (h : bx_okH dmf ret tab q r1 = true) : bx_okH dmf ret tab q r2 = true := by
  unfold bx_okH at h ⊢
  rw [Bool.and_eq_true, Bool.and_eq_true] at h ⊢
  refine ⟨h.1, h.2.1, ?_⟩
  have h2 := h.2.2
  split at h2
  · rename_i Es hEs
    rw [hr _ _ _ hEs]
    exact h2
  · exact absurd h2 Bool.false_ne_true
theorem bx_chkH_ex {B : bx_B} {M : rx_Mt} {ct : bx_Ct} {tab : List bx_HE} {us : bx_HE → Bool} {r1 r2 : (rx_Z → Bool) → rx_Z → Option (List rx_End)} (hr : ∀ cut z Es, r1 cut z = some Es → r2 cut z = some Es) (h : bx_chkH B M ct tab (us, r1) = true) : bx_chkH B M ct tab (us, r2) = true := by
  unfold bx_chkH at h ⊢
  split at h
  · split at h
    · rw [Bool.and_eq_true, Bool.and_eq_true] at h ⊢
      refine ⟨h.1, h.2.1, List.all_eq_true.mpr fun q hq => ?_⟩
      have h3 := List.all_eq_true.mp h.2.2 q hq
      rw [Bool.and_eq_true, Bool.or_eq_true] at h3 ⊢
      exact ⟨h3.1, h3.2.imp id (bx_okH_ex hr)⟩
    · exact absurd h Bool.false_ne_true
  · exact absurd h Bool.false_ne_true
section RXQ
variable {PX : State → Prop} {Dg : va_G} {A : Nat → Prop} {ad xa : Nat → Nat} {l : Launch} {X : (Nat → Int → Int) → Prop}
theorem rxQof {Cn : Nat → List bx_Ct} {f j : Nat} {M : rx_Mt} {ct : bx_Ct} {tab : List bx_HE} {us : bx_HE → Bool} {P : (Nat → Int → Int) → List Int → Prop} {PS : (Nat → Int → Int) → List Int → (Nat → Int → Int) → Option Int → Prop}
    (hPX : rx_PXOK rxNW A PX) (hsl : ∀ s : State, PX s → ∀ o idx n : Nat, rxSl o idx = some n → ∃ tx : String, vk_R (rxNm o) idx tx (ad n) s)
    (hX : ∀ S S_p : Nat → Int → Int, X S → bx_same rxL (bx_mdl ct.2.2.1) S S_p → X S_p)
    (ih : ∀ (j2 : Nat) (ct2 : bx_Ct) (M2 : rx_Mt), ct2 ∈ Cn j2 → ct2.2.2.2.1 + 1 ≤ ct.2.2.2.1 → rxT.2.2.2.2.2 j2 = some M2 → bx_Con rxG rxNW rxAO PX Dg rxL X vwCl A ad l M2 ct2)
    (hj : rxT.2.2.2.2.2 j = some M) (hc : bx_chkH (rxV, rxNP, rxDmf, bx_mdH ct.2.2.1) M ct tab (us, fun cut z => rx_ex2 (rxCT (rxV, rxNP, rxDmf, bx_mdH ct.2.2.1) Cn) cut f ct.2.2.2.1 j z) = true)
    (inv : (Nat → Int → Int) → List Int → Nat → bx_SP) (mea : (Nat → Int → Int) → List Int → Nat → (Nat → Int → Int) → (Nat → Int) → Nat)
    (h0 : ∀ (S0 : Nat → Int → Int) (ws : List Int) (r : Nat → Int) (I0 I : rx_I) (ht0 ht : List rx_C) (as : List rx_V), bx_ent0 rxNP ct.1 bx_I0 [] = some (I0, ht0, as) → bx_ent1 (rxV, rxNP, rxDmf, bx_mdH ct.2.2.1) ct.2.2.2.2 I0 ht0 = some (I, ht) → X S0 → bx_Inv rxL S0 → P S0 ws → rx_sat I r → as.map (bx_num r) = ws → inv S0 ws 0 S0 r)
    (hU : ∀ (S0 : Nat → Int → Int) (ws : List Int), P S0 ws → ∀ (i : Nat) (q : bx_HE), tab[i]? = some q → us q = true → ∀ {p : Program} {e : Env} {R : Room} {s : State} {m : MethodId} {args : Array Value} {below : List Frame} {meth : Method} {c : Code} {Q : State → Prop} {H0 : Heap}, rx_Fr rxG rxNW rxAO PX p s m args meth c M → (∀ q, H0.size ≤ q → A q) → H0 = s.heap → M.2.2.2.2.2.2.1 ≤ R.cells → M.2.2.2.2.2.2.2 ≤ R.slots → ct.2.2.2.1 ≤ R.frames → ct.2.2.2.1 * 40 ≤ R.locals → bx_Step p l e R s m args below meth c Q Dg rxL X vwCl A xa H0 ad M tab (inv S0 ws) (mea S0 ws) S0 ct.2.2.1 i q)
    (hC : ∀ (S0 : Nat → Int → Int) (ws : List Int), P S0 ws → bx_allI (fun i q => us q = true ∨ bx_allP (fun o => bx_obC rxL X S0 ct.2.2.1 (inv S0 ws) (mea S0 ws) i q.1 o) q.2.1) 0 tab)
    (hE : ∀ (S0 : Nat → Int → Int) (ws : List Int), P S0 ws → bx_allI (fun i q => us q = true ∨ bx_allP (fun E => bx_obE rxL X S0 ct.2.2.1 (inv S0 ws) (PS S0 ws) i q.1 E) q.2.2) 0 tab) :
    bx_ConP rxG rxNW rxAO PX Dg rxL X vwCl A ad l M ct P PS := by
  have hmea : ∀ S0 ws, P S0 ws → ∀ (i : Nat) (q : bx_HE), tab[i]? = some q → us q = false → ∀ o ∈ q.2.1, bx_obC rxL X S0 ct.2.2.1 (inv S0 ws) (mea S0 ws) i q.1 o := fun S0 ws hP i q hq hus o ho => by
    have h1 := bx_allI_ok (hC S0 ws hP) hq
    rw [Nat.zero_add] at h1
    rcases h1 with h1 | h1
    · rw [h1] at hus
      cases hus
    · exact bx_allP_ok h1 o ho
  intro S0 ws
  have main := @bx_conH (rxV, rxNP, rxDmf, bx_mdH ct.2.2.1) rxG rxNW rxAO vwCl rxT rxNm (bx_xh (rxV, rxNP, rxDmf, bx_mdH ct.2.2.1) rxT Cn rxCp rxSl) l Dg rxL A xa PX X ad f j M ct tab (fun S0_p ws_p => S0_p = S0 ∧ ws_p = ws ∧ P S0 ws) PS rxGgood hPX rxFr_ok rxKc_ok rxMl_ok rxCj_ok rxVok rfl rfl rfl rxHcl hX
    (fun S0 hX0 => bx_xh_ok rxVok rfl (bx_hook_ok rxGgood hPX rxMl_ok rxCj_ok rxVok rfl rfl rfl (fun S hs => hX S0 S hX0 (bx_mdH_same rxHcl hs)) (fun j2 ct2 M2 hc hd2 hM => ih j2 ct2 M2 hc hd2 hM)) rxCp_ok rxMw_ok rxCw_ok hsl)
    hj us (bx_chkH_ex (fun cut z Es h => rx_ex2_ok (fun j M pc e hm he => rxCT_ok j M pc e hm he) f ct.2.2.2.1 j cut M z Es hj h) hc) inv (mea S0 ws)
    (fun S0_p ws_p r I0 I ht0 ht as g1 g2 g3 g4 g5 g6 g7 => h0 S0_p ws_p r I0 I ht0 ht as g1 g2 g3 g4 (by obtain ⟨rfl, rfl, g⟩ := g5; exact g) g6 g7)
    (fun S0_p ws_p hP i q hq hus => by
      obtain ⟨rfl, rfl, hP⟩ := hP
      exact hU S0_p ws_p hP i q hq hus)
    (fun S0_p ws_p hP i q hq hus o ho => by
      obtain ⟨rfl, rfl, hP⟩ := hP
      exact hmea S0_p ws_p hP i q hq hus o ho)
    (fun S0_p ws_p hP i q hq hus E hE1 => by
      obtain ⟨rfl, rfl, hP⟩ := hP
      have h1 := bx_allI_ok (hE S0_p ws_p hP) hq
      rw [Nat.zero_add] at h1
      rcases h1 with h1 | h1
      · rw [h1] at hus
        cases hus
      · exact bx_allP_ok h1 E hE1)
  intro hX0 hargs hpre hP Qc hQc
  exact main S0 ws hX0 hargs hpre ⟨rfl, rfl, hP⟩ Qc hQc
end RXQ
section RXST
variable {PX : State → Prop} {Dg : va_G} {A : Nat → Prop} {ad xa : Nat → Nat} {l : Launch} {X : (Nat → Int → Int) → Prop}
variable {p : Program} {e : Env} {R : Room} {s : State} {m : MethodId} {args : Array Value} {below : List Frame} {meth : Method} {c : Code} {Q : State → Prop} {H0 : Heap}
noncomputable def rx_obS (X : (Nat → Int → Int) → Prop) (Sin : Nat → Int → Int) (ms : List (Nat × Nat)) (inv : Nat → bx_SP) (mea : Nat → (Nat → Int → Int) → (Nat → Int) → Nat) (i i_p : Nat) (z : rx_Z) (pl a b : Nat) : Prop :=
  ∀ (S : Nat → Int → Int) (r : Nat → Int), inv i S r → X S → bx_Inv rxL S → bx_same rxL (bx_mdl ms) Sin S → rx_sat z.1 r → rx_facts z.2.1 r →
    bx_okT rxL (rxL.2.2.1 pl (r a)) (r b) ∧ inv i_p (bx_up S pl (r a) (r b)) r ∧ mea i_p (bx_up S pl (r a) (r b)) r < mea i S r ∧ X (bx_up S pl (r a) (r b)) ∧ bx_same rxL (bx_mdl ms) Sin (bx_up S pl (r a) (r b))
theorem rx_stepS {M : rx_Mt} {tab : List bx_HE} {inv : Nat → bx_SP} {mea : Nat → (Nat → Int → Int) → (Nat → Int) → Nat} {Sin : Nat → Int → Int} {ms : List (Nat × Nat)} {i i_p : Nat} {z : rx_Z} {os : List bx_HO} {es : List (rx_End × List (Nat × Int × Int))} {q_p : bx_HE} {pl a b n g : Nat} {lo hi : Int} {ty : bx_T} {t : List rx_V}
    (hF : rx_Fr rxG rxNW rxAO PX p s m args meth c M) (hdg : decode M.2.1 (rx_zpc z) = .ok (.iastore, 1)) (hne : bx_noE z.2.2.1 = true) (hst : rx_zst z = .inr (0, (b, 0)) :: .inr (0, (a, 0)) :: .inr (3, (0, (pl : Int))) :: t)
    (hk : rxV.1 none (pl : Int) = some (.inr (0, n, g))) (hbi : rx_bi z.1 (a, 0) = some (lo, hi)) (c3 : 0 ≤ lo) (c4 : hi < (n : Int)) (c5 : bx_fits rxDmf z.1 z.2.2.1 0 0 ty (.inr (0, (b, 0))) = true)
    (htab : tab[i_p]? = some q_p) (hq_p : rx_nxh (z.2.2.1.filter (bx_keepR rxV z.2.2.1 lo hi g)) z 1 t = q_p.1) (hob : rx_obS X Sin ms inv mea i i_p z pl a b) :
    bx_Step p l e R s m args below meth c Q Dg rxL X vwCl A xa H0 ad M tab inv mea Sin ms i (z, os, es) := by
  intro S r H locs ls hinv hXS hsin hR K
  obtain ⟨Sq, ⟨ws0, tys0, hInv0, hrest0⟩, -, ⟨-, hch0⟩, -⟩ := id hR.2.2.2.1
  have eSq : Sq = S := bx_noE_eq hne (hch0 rfl)
  rw [eSq] at hInv0
  have hInv0 : bx_Inv rxL S := hInv0
  have h0 : r 0 = 0 := hR.1.1
  obtain ⟨o1, o2, o3, o4, o5⟩ := hob S r hinv hXS hInv0 hsin hR.1 hR.2.1
  have ea : rx_ev r (a, 0) = r a := Int.add_zero _
  have eb : bx_num r (.inr (0, (b, 0))) = r b := Int.add_zero _
  have ep : (rx_ev r (0, (pl : Int))).toNat = pl := by
    show (r 0 + (pl : Int)).toNat = pl
    rw [h0, Int.zero_add]
    rfl
  refine bx_storeI (V := rxV) (dmf := rxDmf) (v := .inr (0, (b, 0))) (ix := (a, 0)) (e0 := (0, (pl : Int))) (t := t) (d := none) (n := n) (g := g) (lo := lo) (hi := hi) (ty := ty) hF.1 hF.2.1 rfl rxVok rfl hdg hne hR hst rfl hk hbi c3 c4 c5 ?_ fun H1 locs1 hR1 => ?_
  · rw [ea, eb, ep]
    exact o1
  · rw [ea, eb, ep, hq_p] at hR1
    have := K i_p q_p (bx_up S pl (r a) (r b)) r H1 locs1 ls htab o2 o3 o4 o5 hR1
    rw [← hq_p] at this
    obtain ⟨zI, zF, zh, zc, zs, zp, zl, zt⟩ := z
    exact this
end RXST
noncomputable def bx_noG (ms : List (Nat × Nat)) (c : Nat) : Bool := ms.all (fun q => !(q.1 == c))
theorem bx_noG_ok {ms : List (Nat × Nat)} {c : Nat} (h : bx_noG ms c = true) (k : Nat) : bx_mdl ms c k = false := by
  unfold bx_mdl
  refine Bool.eq_false_iff.mpr fun h2 => ?_
  obtain ⟨q, h3, h4⟩ := List.any_eq_true.mp h2
  have h5 := List.all_eq_true.mp h q h3
  rw [Bool.and_eq_true] at h4
  rw [h4.1] at h5
  cases h5
theorem rx_sameR {ms : List (Nat × Nat)} {S0 S : Nat → Int → Int} (h : bx_same rxL (bx_mdl ms) S0 S) {p tc n g : Nat} {j : Int} (hk : rxL.1 p = .inr (tc, n, g)) (hp : p < 522) (h1 : bx_noG ms (1000 + g) = true) (h2 : bx_noG ms (1000 + g) = true) (h0 : 0 ≤ j) (hj : j < (n : Int)) : S p j = S0 p j := by
  have := h p j.toNat hp (by rw [hk]; show j.toNat < n; omega) (by
    rw [hk]
    exact bx_noG_ok h1 _)
  rw [show ((j.toNat : Nat) : Int) = j by omega] at this
  exact this
theorem rx_sameO {ms : List (Nat × Nat)} {S0 S : Nat → Int → Int} (h : bx_same rxL (bx_mdl ms) S0 S) {p ci : Nat} {fs : List Nat} {j : Nat} (hk : rxL.1 p = .inl (ci, fs)) (hp : p < 522) (h1 : bx_mdl ms ci j = false) (hj : j < fs.length) : S p (j : Int) = S0 p (j : Int) :=
  h p j hp (by rw [hk]; exact hj) (by rw [hk]; exact h1)
theorem rx_same_upR {ms : List (Nat × Nat)} {S0 S : Nat → Int → Int} (h : bx_same rxL (bx_mdl ms) S0 S) {p tc n g : Nat} {j v : Int} (hk : rxL.1 p = .inr (tc, n, g)) {lo hi : Int} (h1 : bx_mdr (bx_mdl ms) g lo hi = true) (hl : lo ≤ j) (hu : j ≤ hi) : bx_same rxL (bx_mdl ms) S0 (bx_up S p j v) := fun q i hq hi_p hm => by
  by_cases hc : q = p ∧ (i : Int) = j
  · exfalso
    obtain ⟨e1, e2⟩ := hc
    subst e1
    rw [hk] at hm
    have hm : bx_mdl ms (1000 + g) (bx_sk g i) = false := hm
    rw [bx_mdr_ok h1 (by omega) (by omega)] at hm
    cases hm
  · rw [bx_up_ne hc]
    exact h q i hq hi_p hm
section RXCL
variable {PX : State → Prop} {Dg : va_G} {A : Nat → Prop} {ad xa : Nat → Nat} {l : Launch} {X : (Nat → Int → Int) → Prop}
variable {p : Program} {e : Env} {R : Room} {s : State} {m : MethodId} {args : Array Value} {below : List Frame} {meth : Method} {c : Code} {Q : State → Prop} {H0 : Heap}
theorem rx_same_sub {ms ms2 : List (Nat × Nat)} {S0 S S_p : Nat → Int → Int} (h : bx_same rxL (bx_mdl ms) S0 S) (hs : ms2.all (fun q => bx_mdl ms q.1 q.2) = true) (h2 : bx_same rxL (bx_mdl ms2) S S_p) : bx_same rxL (bx_mdl ms) S0 S_p := fun p i hp hi hm => by
  have h3 : bx_mdl ms2 (bx_mc (rxL.1 p) i).1 (bx_mc (rxL.1 p) i).2 = false := by
    cases h4 : bx_mdl ms2 (bx_mc (rxL.1 p) i).1 (bx_mc (rxL.1 p) i).2 with
    | false => rfl
    | true =>
      obtain ⟨q, hq, h5⟩ := List.any_eq_true.mp h4
      rw [Bool.and_eq_true, beq_iff_eq, beq_iff_eq] at h5
      have h6 := List.all_eq_true.mp hs q hq
      rw [h5.1, h5.2, hm] at h6
      cases h6
  rw [h2 p i hp hi h3, h p i hp hi hm]
noncomputable def rx_obK (X : (Nat → Int → Int) → Prop) (Sin : Nat → Int → Int) (ms ms2 : List (Nat × Nat)) (inv : Nat → bx_SP) (mea : Nat → (Nat → Int → Int) → (Nat → Int) → Nat) (i i_p : Nat) (z z_p : rx_Z) (as : List rx_V) (n : Option Nat) (P : (Nat → Int → Int) → List Int → Prop) (PS : (Nat → Int → Int) → List Int → (Nat → Int → Int) → Option Int → Prop) : Prop :=
  ∀ (S : Nat → Int → Int) (r : Nat → Int), inv i S r → X S → bx_Inv rxL S → bx_same rxL (bx_mdl ms) Sin S → rx_sat z.1 r → rx_facts z.2.1 r →
    P S (as.map (bx_num r)) ∧ ∀ (S_p : Nat → Int → Int) (w : Option Int) (r_p : Nat → Int), PS S (as.map (bx_num r)) S_p w → X S_p → bx_Inv rxL S_p → bx_same rxL (bx_mdl ms2) S S_p → rx_same z.1.length r r_p → (∀ k, n = some k → w = some (r_p k)) → rx_sat z_p.1 r_p →
      inv i_p S_p r_p ∧ mea i_p S_p r_p < mea i S r
theorem rx_stepC {M M_p : rx_Mt} {tab : List bx_HE} {inv : Nat → bx_SP} {mea : Nat → (Nat → Int → Int) → (Nat → Int) → Nat} {Sin : Nat → Int → Int} {ms : List (Nat × Nat)} {i i_p len d : Nat} {ins : Instr} {z : rx_Z} {os : List bx_HO} {es : List (rx_End × List (Nat × Int × Int))} {q_p : bx_HE} {as t : List rx_V} {ct : bx_Ct} {n : Option Nat} {P : (Nat → Int → Int) → List Int → Prop} {PS : (Nat → Int → Int) → List Int → (Nat → Int → Int) → Option Int → Prop}
    (hPX : rx_PXOK rxNW A PX) (hF : rx_Fr rxG rxNW rxAO PX p s m args meth c M) (hn : rxNm M.1 = M.2.2.2.2.1.cls) (hA : ∀ q, H0.size ≤ q → A q) (hH0 : H0 = s.heap) (hmc : M.2.2.2.2.2.2.1 ≤ R.cells) (hms : M.2.2.2.2.2.2.2 ≤ R.slots) (hd : d ≤ R.frames) (hdl : d * 40 ≤ R.locals)
    (hdg : decode M.2.1 (rx_zpc z) = .ok (ins, len)) (hne : bx_noE z.2.2.1 = true) (hprep : (rx_prep (rxV, rxNP, rxDmf, bx_mdH ms) rxT M ins len z).map (fun x => x.2) = some (M_p, as, t)) (g1 : ct.2.2.2.1 + 1 ≤ d) (g2 : bx_fitP (rxV, rxNP, rxDmf, bx_mdH ms) z ct as = true)
    (hC : bx_ConP rxG rxNW rxAO PX Dg rxL X vwCl A ad l M_p ct P PS) (hsub : ct.2.2.1.all (fun q => bx_mdl ms q.1 q.2) = true)
    (htab : tab[i_p]? = some q_p)
    (hq_p : (ct.2.1 = none ∧ n = none ∧ q_p.1 = bx_bk M_p z.1 (z.2.2.1.filter (bx_keepC rxV z.2.2.1 ct.2.2.1)) z t) ∨
      ∃ (a : Nat × bx_T) (I2 : rx_I) (ht2 : List rx_C) (kk : Nat), ct.2.1 = some a ∧ n = some z.1.length ∧ 0 < kk ∧ bx_nv a.1 0 rxNP a.2 z.1 (z.2.2.1.filter (bx_keepC rxV z.2.2.1 ct.2.2.1)) = some (I2, ht2, .inr (kk - 1, (z.1.length, 0))) ∧ bx_noE ht2 = true ∧ q_p.1 = bx_bk M_p I2 ht2 z (.inr (kk - 1, (z.1.length, 0)) :: t))
    (hob : rx_obK X Sin ms ct.2.2.1 inv mea i i_p z q_p.1 as n P PS) :
    bx_Step p l e R s m args below meth c Q Dg rxL X vwCl A xa H0 ad M tab inv mea Sin ms i (z, os, es) := by
  intro S r H locs ls hinv hXS hsin hR K
  obtain ⟨⟨jq, M2, as2, t2⟩, hprep, hpe⟩ := Option.map_eq_some_iff.mp hprep
  cases hpe
  obtain ⟨Sq, ⟨ws0, tys0, hInv0, hrest0⟩, -, ⟨-, hch0⟩, -⟩ := id hR.2.2.2.1
  have eSq : Sq = S := bx_noE_eq hne (hch0 rfl)
  rw [eSq] at hInv0
  have hInv0 : bx_Inv rxL S := hInv0
  obtain ⟨o1, o2⟩ := hob S r hinv hXS hInv0 hsin hR.1 hR.2.1
  refine bx_callP (B := (rxV, rxNP, rxDmf, bx_mdH ms)) (md := bx_mdH ms) (M_p := M_p) (q := jq) (d := d) rxGgood hPX rxMl_ok rxCj_ok rxVok rfl rfl rfl hne hXS hF hn hA hH0 hmc hms hd hdl hdg hR hprep g1 g2 hC o1 (fun S_p w H1 locs1 hPS hX_p hI_p hsm => ?_) (fun a ha => ?_)
  · refine ⟨fun hr0 hR1 => ?_, fun a I2 ht2 v2 hr0 hnv r_p hrs hw hR1 => ?_⟩
    · rcases hq_p with ⟨-, k2, k3⟩ | ⟨a, I2, ht2, kk, k1, -⟩
      · obtain ⟨u1, u2⟩ := o2 S_p w r hPS hX_p hI_p hsm rx_same.rf (fun k hk => by rw [k2] at hk; cases hk) (by rw [k3]; obtain ⟨zI, zF, zh, zc, zs, zp, zl, zt⟩ := z; exact hR.1)
        have := K i_p q_p S_p r H1 locs1 ls htab u1 u2 hX_p (rx_same_sub hsin hsub hsm) (by rw [k3]; exact hR1)
        rw [k3] at this
        obtain ⟨zI, zF, zh, zc, zs, zp, zl, zt⟩ := z
        exact this
      · rw [hr0] at k1
        cases k1
    · rcases hq_p with ⟨k1, -⟩ | ⟨a_p, I2_p, ht2_p, kk, k1, k2, k3, k4, k5, k6⟩
      · rw [hr0] at k1
        cases k1
      · rw [hr0] at k1
        cases k1
        rw [hnv] at k4
        cases k4
        obtain ⟨u1, u2⟩ := o2 S_p w r_p hPS hX_p hI_p hsm hrs (fun k hk => by
          rw [k2] at hk
          cases hk
          rw [hw]
          exact congrArg some (Int.add_zero _)) (by rw [k6]; exact hR1.1)
        have := K i_p q_p S_p r_p H1 locs1 ls htab u1 u2 hX_p (rx_same_sub hsin hsub hsm) (by rw [k6]; exact hR1)
        rw [k6] at this
        obtain ⟨zI, zF, zh, zc, zs, zp, zl, zt⟩ := z
        exact this
  · rcases hq_p with ⟨k1, -⟩ | ⟨a_p, I2_p, ht2_p, kk, k1, k2, k3, k4, k5, k6⟩
    · rw [ha] at k1
      cases k1
    · rw [ha] at k1
      cases k1
      exact ⟨_, k4, k5⟩
end RXCL
end
section
noncomputable def rx_cnt (f : Int → Int) : Nat → Nat
  | 0 => 0
  | n + 1 => rx_cnt f n + (if f (n : Int) = -1 then 0 else 1)
theorem rx_cnt_le {f : Int → Int} : ∀ {n : Nat}, rx_cnt f n ≤ n
  | 0 => Nat.le_refl _
  | n + 1 => by
    have := rx_cnt_le (f := f) (n := n)
    unfold rx_cnt
    split <;> omega
theorem rx_cnt_lt {f : Int → Int} {x : Int} : ∀ {n : Nat}, 0 ≤ x → x < (n : Int) → f x = -1 → rx_cnt f n < n
  | 0, h0, h1, _ => by omega
  | n + 1, h0, h1, h2 => by
    unfold rx_cnt
    by_cases h : x = (n : Int)
    · subst h
      rw [if_pos h2]
      have := rx_cnt_le (f := f) (n := n)
      omega
    · have := rx_cnt_lt (n := n) h0 (by omega) h2
      split <;> omega
theorem rx_cnt_congr {f g : Int → Int} : ∀ {n : Nat}, (∀ x : Int, 0 ≤ x → x < (n : Int) → f x = g x) → rx_cnt f n = rx_cnt g n
  | 0, _ => rfl
  | n + 1, h => by
    unfold rx_cnt
    rw [rx_cnt_congr (n := n) fun x h1 h2 => h x h1 (by omega), h (n : Int) (by omega) (by omega)]
theorem rx_cnt_upd {f g : Int → Int} {x : Int} : ∀ {n : Nat}, 0 ≤ x → x < (n : Int) → f x = -1 → g x ≠ -1 → (∀ y : Int, y ≠ x → g y = f y) → rx_cnt g n = rx_cnt f n + 1
  | 0, h0, h1, _, _, _ => by omega
  | n + 1, h0, h1, h2, h3, h4 => by
    unfold rx_cnt
    by_cases h : x = (n : Int)
    · subst h
      rw [if_pos h2, if_neg h3, rx_cnt_congr (f := g) (g := f) fun y h5 h6 => h4 y (by omega)]
    · rw [rx_cnt_upd (n := n) h0 (by omega) h2 h3 h4, h4 (n : Int) (by omega)]
      omega
theorem rx_cnt_zero {f : Int → Int} : ∀ {n : Nat}, (∀ x : Int, 0 ≤ x → x < (n : Int) → f x = -1) → rx_cnt f n = 0
  | 0, _ => rfl
  | n + 1, h => by
    unfold rx_cnt
    rw [rx_cnt_zero (n := n) fun x h1 h2 => h x h1 (by omega), if_pos (h (n : Int) (by omega) (by omega))]
noncomputable def rx_rk (f : Int → Int) (N m : Int) : Prop := ∃ ρ : Int → Nat, ∀ x : Int, 0 ≤ x → x < N → f x ≠ -1 → (ρ x : Int) < m ∧ 0 ≤ f x ∧ f x < N ∧ f (f x) ≠ -1 ∧ (f x ≠ x → ρ (f x) < ρ x)
theorem rx_rk_congr {f g : Int → Int} {N m : Int} (h : rx_rk f N m) (hg : ∀ x : Int, 0 ≤ x → x < N → g x = f x) : rx_rk g N m := by
  obtain ⟨ρ, h⟩ := h
  refine ⟨ρ, fun x h0 h1 h2 => ?_⟩
  rw [hg x h0 h1] at h2
  obtain ⟨a1, a2, a3, a4, a5⟩ := h x h0 h1 h2
  rw [hg x h0 h1, hg (f x) a2 a3]
  exact ⟨a1, a2, a3, a4, a5⟩
theorem rx_rk_one {f : Int → Int} {N x : Int} (h0 : 0 ≤ x) (h1 : x < N) (hx : f x = x) (hf : ∀ y : Int, 0 ≤ y → y < N → y ≠ x → f y = -1) : rx_rk f N 1 := by
  refine ⟨fun _ => 0, fun y g0 g1 g2 => ?_⟩
  have : y = x := by
    by_cases h : y = x
    · exact h
    · exact absurd (hf y g0 g1 h) g2
  subst this
  refine ⟨by show ((0 : Nat) : Int) < 1; omega, by omega, by omega, by rw [hx]; exact g2, fun h => absurd hx h⟩
theorem rx_rk_upd {f g : Int → Int} {N m x y : Int} (h : rx_rk f N m) (y0 : 0 ≤ y) (y1 : y < N) (hy : f y ≠ -1) (hx : f x = -1) (hg : g x = y) (ho : ∀ z : Int, z ≠ x → g z = f z) : rx_rk g N (m + 1) := by
  obtain ⟨ρ, h⟩ := h
  have hm := (h y y0 y1 hy).1
  have hyx : y ≠ x := fun q => by
    subst q
    exact hy hx
  refine ⟨fun z => if z = x then m.toNat else ρ z, fun z h0 h1 h2 => ?_⟩
  by_cases hz : z = x
  · subst hz
    dsimp only
    rw [if_pos rfl, hg, if_neg hyx, ho y hyx]
    exact ⟨by omega, y0, y1, hy, fun _ => by omega⟩
  · rw [ho z hz] at h2 ⊢
    obtain ⟨a1, a2, a3, a4, a5⟩ := h z h0 h1 h2
    have hfz : f z ≠ x := fun q => by
      rw [q] at a4
      exact a4 hx
    dsimp only
    rw [if_neg hz, if_neg hfz, ho (f z) hfz]
    exact ⟨by omega, a2, a3, a4, a5⟩
theorem rx_rk_mono {f : Int → Int} {N m m_p : Int} (h : rx_rk f N m) (hm : m ≤ m_p) : rx_rk f N m_p := by
  obtain ⟨ρ, h⟩ := h
  refine ⟨ρ, fun x h0 h1 h2 => ?_⟩
  have := h x h0 h1 h2
  exact ⟨by omega, this.2⟩
end
section
noncomputable def bx_opv (o : Nat) (a b : Int) : Int := match o with
  | 4 => a % b
  | 9 => a / ((2 ^ b.toNat : Nat) : Int)
  | 6 => ((a.toNat ||| b.toNat : Nat) : Int)
  | _ => a % 2
noncomputable def bx_opc (o : Nat) (a b : Int) : Prop := (0 ≤ a ∧ a ≤ 2147483647) ∧ match o with
  | 4 => 0 < b ∧ b ≤ 2147483647
  | 9 => 0 ≤ b ∧ b ≤ 31
  | 5 => b = 1
  | 6 => 0 ≤ b ∧ b ≤ 2147483647
  | _ => False
theorem bx_toI {a : Int} (h : -2147483648 ≤ a ∧ a ≤ 2147483647) : (Int32.ofInt a).toInt = a := by
  rw [Int32.toInt_ofInt]
  exact rx_bmod0 h.1 h.2
theorem bx_opv_ok {o : Nat} {a b : Int} (h : bx_opc o a b) : (rx_op o (Int32.ofInt a) (Int32.ofInt b)).toInt = bx_opv o a b := by
  obtain ⟨ha, hb⟩ := h
  have ea := bx_toI (a := a) (by omega)
  match o, hb with
  | 4, hb =>
    have hb : 0 < b ∧ b ≤ 2147483647 := hb
    show (Int32.ofInt a - Int32.ofInt a / Int32.ofInt b * Int32.ofInt b).toInt = a % b
    rw [rem_toInt, ea, bx_toI (by omega), Int.tmod_eq_emod_of_nonneg ha.1]
  | 9, hb =>
    have hb : 0 ≤ b ∧ b ≤ 31 := hb
    show (Int32.ofInt a >>> (Int32.ofInt b &&& 31)).toInt = a / ((2 ^ b.toNat : Nat) : Int)
    rw [← Int32.toInt_toBitVec (Int32.ofInt a >>> (Int32.ofInt b &&& 31)), Int32.toBitVec_shiftRight]
    unfold BitVec.sshiftRight'
    rw [BitVec.toInt_sshiftRight, Int32.toInt_toBitVec, Int.shiftRight_eq_div_pow, ea]
    have := rx_shn b.toNat (by omega)
    rw [show ((b.toNat : Nat) : Int) = b by omega] at this
    rw [this]
  | 5, hb =>
    have hb : b = 1 := hb
    subst hb
    show (Int32.ofInt a &&& Int32.ofInt 1).toInt = a % 2
    have h0 : 0 ≤ (Int32.ofInt a).toInt := by omega
    obtain ⟨-, h1⟩ := rx_nn h0
    have h2 := rx_andb (y := Int32.ofInt 1) h0
    obtain ⟨-, h3⟩ := rx_nn h2.1
    rw [h3, Int32.toBitVec_and, BitVec.toNat_and]
    rw [ea] at h1
    rw [show (Int32.ofInt 1).toBitVec.toNat = 1 by decide, Nat.and_one_is_mod]
    omega
  | 6, hb =>
    have hb : 0 ≤ b ∧ b ≤ 2147483647 := hb
    have eb := bx_toI (a := b) (by omega)
    show (Int32.ofInt a ||| Int32.ofInt b).toInt = ((a.toNat ||| b.toNat : Nat) : Int)
    have h0 : 0 ≤ (Int32.ofInt a).toInt := by omega
    have h1 : 0 ≤ (Int32.ofInt b).toInt := by omega
    obtain ⟨-, h2⟩ := rx_nn h0
    obtain ⟨-, h3⟩ := rx_nn h1
    have h4 := (rx_orb (n := 31) h0 h1 (by rw [ea]; omega) (by rw [eb]; omega)).1.1
    obtain ⟨-, h5⟩ := rx_nn h4
    rw [h5, Int32.toBitVec_or, BitVec.toNat_or, show (Int32.ofInt a).toBitVec.toNat = a.toNat by omega, show (Int32.ofInt b).toBitVec.toNat = b.toNat by omega]
section RXOP
variable {PX : State → Prop} {Dg : va_G} {A : Nat → Prop} {ad xa : Nat → Nat} {l : Launch} {X : (Nat → Int → Int) → Prop}
variable {p : Program} {e : Env} {R : Room} {s : State} {m : MethodId} {args : Array Value} {below : List Frame} {meth : Method} {c : Code} {Q : State → Prop} {H0 : Heap}
noncomputable def rx_obB (X : (Nat → Int → Int) → Prop) (Sin : Nat → Int → Int) (ms : List (Nat × Nat)) (inv : Nat → bx_SP) (mea : Nat → (Nat → Int → Int) → (Nat → Int) → Nat) (i i_p : Nat) (z : rx_Z) (o : Nat) (a b : rx_E) (lo hi : Int) : Prop :=
  ∀ (S : Nat → Int → Int) (r : Nat → Int), inv i S r → X S → bx_Inv rxL S → bx_same rxL (bx_mdl ms) Sin S → rx_sat z.1 r → rx_facts z.2.1 r →
    bx_opc o (rx_ev r a) (rx_ev r b) ∧ ∀ r_p : Nat → Int, rx_same z.1.length r r_p → r_p 0 = 0 → r_p z.1.length = bx_opv o (rx_ev r a) (rx_ev r b) → (lo ≤ r_p z.1.length ∧ r_p z.1.length ≤ hi) ∧ inv i_p S r_p ∧ mea i_p S r_p < mea i S r
theorem rx_stepB {M : rx_Mt} {tab : List bx_HE} {inv : Nat → bx_SP} {mea : Nat → (Nat → Int → Int) → (Nat → Int) → Nat} {Sin : Nat → Int → Int} {ms : List (Nat × Nat)} {i i_p o : Nat} {ins : Instr} {z : rx_Z} {os : List bx_HO} {es : List (rx_End × List (Nat × Int × Int))} {q_p : bx_HE} {a b : rx_E} {lo hi : Int} {t : List rx_V}
    (hF : rx_Fr rxG rxNW rxAO PX p s m args meth c M) (ho : (o = 4 ∧ ins = .irem) ∨ (o = 9 ∧ ins = .ishr) ∨ (o = 5 ∧ ins = .iand) ∨ (o = 6 ∧ ins = .ior)) (hdg : decode M.2.1 (rx_zpc z) = .ok (ins, 1)) (hne : bx_noE z.2.2.1 = true) (hst : rx_zst z = .inr (0, b) :: .inr (0, a) :: t)
    (htab : tab[i_p]? = some q_p) (hq_p : rx_nxI (z.1 ++ [(lo, hi)]) z 1 (.inr (0, (z.1.length, 0)) :: t) = q_p.1) (hob : rx_obB X Sin ms inv mea i i_p z o a b lo hi) :
    bx_Step p l e R s m args below meth c Q Dg rxL X vwCl A xa H0 ad M tab inv mea Sin ms i (z, os, es) := by
  intro S r H locs ls hinv hXS hsin hR K
  obtain ⟨Sq, ⟨ws0, tys0, hInv0, hrest0⟩, -, ⟨-, hch0⟩, -⟩ := id hR.2.2.2.1
  have eSq : Sq = S := bx_noE_eq hne (hch0 rfl)
  rw [eSq] at hInv0
  have hInv0 : bx_Inv rxL S := hInv0
  obtain ⟨o1, o2⟩ := hob S r hinv hXS hInv0 hsin hR.1 hR.2.1
  have hv := bx_opv_ok o1
  have hb0 : o = 4 → ¬ Int32.ofInt (rx_ev r b) = 0 := fun ho4 hz => by
    subst ho4
    have h1 : 0 < rx_ev r b ∧ rx_ev r b ≤ 2147483647 := o1.2
    have h2 := bx_toI (a := rx_ev r b) (by omega)
    rw [hz] at h2
    have h3 : (0 : Int32).toInt = 0 := rfl
    omega
  obtain ⟨b1, b2, b3⟩ := o2 (rx_up r z.1.length (rx_op o (Int32.ofInt (rx_ev r a)) (Int32.ofInt (rx_ev r b))).toInt) rx_up_same ((rx_up_same 0 (rx_pos hR.1)).trans hR.1.1) (rx_up_self.trans hv)
  rw [rx_up_self] at b1
  have hsat := rx_sat_up (lo := lo) (hi := hi) hR.1 b1.1 b1.2
  have hsc := rx_stsc hR
  rw [hst] at hsc
  have ht2 : ∀ v ∈ t, rx_sc z.1.length z.2.2.1.length v := fun v hv => hsc v (List.mem_cons_of_mem _ (List.mem_cons_of_mem _ hv))
  have hlen : z.1.length ≤ (z.1 ++ [(lo, hi)]).length := by simp
  have hN := rx_R_nxI (d := 1) (st := .inr (0, (z.1.length, 0)) :: t) hR hlen rx_up_same hsat (fun v hv => by
    rcases List.mem_cons.mp hv with h | h
    · subst h
      show z.1.length < (z.1 ++ [(lo, hi)]).length
      simp
    · exact rx_sc.mono (ht2 v h) hlen trivial)
  rw [hq_p] at hN
  have k := K i_p q_p S _ H locs ls htab b2 b3 hXS hsin hN
  rw [← hq_p] at k
  have ev : rx_iv (rx_up r z.1.length (rx_op o (Int32.ofInt (rx_ev r a)) (Int32.ofInt (rx_ev r b))).toInt) ad xa (.inr (0, (z.1.length, 0))) = Value.int (rx_op o (Int32.ofInt (rx_ev r a)) (Int32.ofInt (rx_ev r b))) := by
    show Value.int (Int32.ofInt (rx_ev _ (z.1.length, 0))) = _
    unfold rx_ev
    rw [rx_up_self, Int.add_zero, Int32.ofInt_toInt]
  have et := rx_st_ext (ad := ad) (ad_p := ad) (xa := xa) ht2 (rx_up_same (r := r) (n := z.1.length) (z := (rx_op o (Int32.ofInt (rx_ev r a)) (Int32.ofInt (rx_ev r b))).toInt)) rx_sameA.rf
  have row : W p l e R s m args below meth c H locs z.2.2.2.1 z.2.2.2.2.1 Q (F0 m (rx_zpc z + 1) ls (.int (rx_op o (Int32.ofInt (rx_ev r a)) (Int32.ofInt (rx_ev r b))) :: t.map (rx_iv r ad xa))) → W p l e R s m args below meth c H locs z.2.2.2.1 z.2.2.2.2.1 Q (F0 m (rx_zpc z) ls (.int (Int32.ofInt (rx_ev r b)) :: .int (Int32.ofInt (rx_ev r a)) :: t.map (rx_iv r ad xa))) := fun k => by
    rcases ho with ⟨h1, h2⟩ | ⟨h1, h2⟩ | ⟨h1, h2⟩ | ⟨h1, h2⟩
    · have := hb0 h1
      subst h1
      subst h2
      exact lv_irem hF.1 hF.2.1 hdg this k
    · subst h1
      subst h2
      exact lv_ishr hF.1 hF.2.1 hdg k
    · subst h1
      subst h2
      exact lv_iand hF.1 hF.2.1 hdg k
    · subst h1
      subst h2
      exact lv_ior hF.1 hF.2.1 hdg k
  rw [hst]
  refine row ?_
  rw [← ev, ← et]
  obtain ⟨zI, zF, zh, zc, zs, zp, zl, zt⟩ := z
  exact k
end RXOP
end
section
noncomputable def rxSum (f : Int → Int) : Nat → Int
  | 0 => 0
  | n + 1 => rxSum f n + f (n : Int) * ((8 ^ (11 - n) : Nat) : Int)
theorem rxSum_cg {f g : Int → Int} : ∀ {n : Nat}, (∀ j : Int, 0 ≤ j → j < (n : Int) → f j = g j) → rxSum f n = rxSum g n
  | 0, _ => rfl
  | n + 1, h => by
    unfold rxSum
    rw [rxSum_cg (n := n) fun j h0 h1 => h j h0 (by omega), h (n : Int) (by omega) (by omega)]
theorem rxSum_lo {f : Int → Int} : ∀ {n : Nat}, (∀ j : Int, 0 ≤ j → j < (n : Int) → 0 ≤ f j) → 0 ≤ rxSum f n
  | 0, _ => Int.le_refl 0
  | n + 1, h => by
    unfold rxSum
    have h1 := rxSum_lo (n := n) fun j a b => h j a (by omega)
    have h2 := Int.mul_nonneg (h (n : Int) (by omega) (by omega)) (Int.natCast_nonneg (8 ^ (11 - n)))
    omega
theorem rxSum_hi {f : Int → Int} : ∀ {n : Nat}, n ≤ 12 → (∀ j : Int, 0 ≤ j → j < (n : Int) → f j ≤ 7) → rxSum f n + ((8 ^ (12 - n) : Nat) : Int) ≤ ((8 ^ 12 : Nat) : Int)
  | 0, _, _ => by
    show 0 + ((8 ^ 12 : Nat) : Int) ≤ ((8 ^ 12 : Nat) : Int)
    omega
  | n + 1, hn, h => by
    have h1 := rxSum_hi (n := n) (by omega) fun j a b => h j a (by omega)
    have h2 := h (n : Int) (by omega) (by omega)
    have e : 8 ^ (12 - n) = 8 ^ (11 - n) * 8 := by
      rw [show 12 - n = 11 - n + 1 by omega, Nat.pow_succ]
    have e2 : 12 - (n + 1) = 11 - n := by omega
    unfold rxSum
    rw [e2]
    rw [e] at h1
    have h3 : f (n : Int) * ((8 ^ (11 - n) : Nat) : Int) ≤ 7 * ((8 ^ (11 - n) : Nat) : Int) := Int.mul_le_mul_of_nonneg_right h2 (Int.natCast_nonneg _)
    omega
noncomputable def rxSP (f : Int → Int) (k : Int) : Int := rxSum f k.toNat + (f k + 1) * ((8 ^ (11 - k.toNat) : Nat) : Int)
noncomputable def rxSQ (f : Int → Int) (k : Int) : Int := rxSum f k.toNat + f k * ((8 ^ (11 - k.toNat) : Nat) : Int)
theorem rxS_pos : ∀ n : Nat, 1 ≤ ((8 ^ n : Nat) : Int)
  | 0 => Int.le_refl 1
  | n + 1 => by
    have := rxS_pos n
    rw [Nat.pow_succ]
    omega
theorem rxSP_lo {f : Int → Int} {k : Int} (h : ∀ j : Int, 0 ≤ j → j < k → 0 ≤ f j) (hk : -1 ≤ f k) : 0 ≤ rxSP f k := by
  unfold rxSP
  have h1 := rxSum_lo (f := f) (n := k.toNat) fun j a b => h j a (by omega)
  have h2 := Int.mul_nonneg (show 0 ≤ f k + 1 by omega) (Int.natCast_nonneg (8 ^ (11 - k.toNat)))
  omega
theorem rxSP_hi {f : Int → Int} {k : Int} (h0 : 0 ≤ k) (h1 : k ≤ 11) (h : ∀ j : Int, 0 ≤ j → j < k → f j ≤ 7) (hk : f k ≤ 6) : rxSP f k ≤ 68719476736 := by
  unfold rxSP
  have h2 := rxSum_hi (f := f) (n := k.toNat) (by omega) fun j a b => h j a (by omega)
  have e : 8 ^ (12 - k.toNat) = 8 ^ (11 - k.toNat) * 8 := by
    rw [show 12 - k.toNat = 11 - k.toNat + 1 by omega, Nat.pow_succ]
  rw [e] at h2
  have h3 : (f k + 1) * ((8 ^ (11 - k.toNat) : Nat) : Int) ≤ 7 * ((8 ^ (11 - k.toNat) : Nat) : Int) := Int.mul_le_mul_of_nonneg_right (by omega) (Int.natCast_nonneg _)
  have h4 : ((8 ^ 12 : Nat) : Int) = 68719476736 := rfl
  have h5 := rxS_pos (11 - k.toNat)
  omega
theorem rxSP_next {f : Int → Int} {k : Int} : rxSQ f k + 1 ≤ rxSP f k := by
  unfold rxSP rxSQ
  have := rxS_pos (11 - k.toNat)
  rw [Int.add_mul, Int.one_mul]
  omega
theorem rxSQ_inc {f g : Int → Int} {k : Int} (h : ∀ j : Int, 0 ≤ j → j < k → g j = f j) (hk : g k = f k + 1) : rxSQ g k = rxSP f k := by
  unfold rxSP rxSQ
  rw [rxSum_cg (f := g) (g := f) fun j a b => h j a (by omega), hk]
theorem rxSQ_cg {f g : Int → Int} {k : Int} (h : ∀ j : Int, 0 ≤ j → j ≤ k → g j = f j) (hk : 0 ≤ k) : rxSQ g k = rxSQ f k := by
  unfold rxSQ
  rw [rxSum_cg (f := g) (g := f) fun j a b => h j a (by omega), h k hk (by omega)]
theorem rxSP_cg {f g : Int → Int} {k : Int} (h : ∀ j : Int, 0 ≤ j → j ≤ k → g j = f j) (hk : 0 ≤ k) : rxSP g k = rxSP f k := by
  unfold rxSP
  rw [rxSum_cg (f := g) (g := f) fun j a b => h j a (by omega), h k hk (by omega)]
theorem rxSP_push {f g : Int → Int} {k : Int} (h0 : 0 ≤ k) (h : ∀ j : Int, 0 ≤ j → j ≤ k → g j = f j) (hk : g (k + 1) = -1) : rxSP g (k + 1) = rxSQ f k := by
  unfold rxSP rxSQ
  rw [hk, show (k + 1).toNat = k.toNat + 1 by omega, show rxSum g (k.toNat + 1) = rxSum g k.toNat + g ((k.toNat : Nat) : Int) * ((8 ^ (11 - k.toNat) : Nat) : Int) from rfl]
  rw [rxSum_cg (f := g) (g := f) fun j a b => h j a (by omega), show ((k.toNat : Nat) : Int) = k by omega, h k h0 (by omega)]
  omega
theorem rxSP_pop {f g : Int → Int} {k : Int} (h0 : 1 ≤ k) (h1 : k ≤ 11) (h : ∀ j : Int, 0 ≤ j → j < k → g j = f j) (hk : f k ≤ 5) : rxSP f k + 2 ≤ rxSP g (k + -1) := by
  unfold rxSP
  have e : k.toNat = (k + -1).toNat + 1 := by omega
  rw [e]
  rw [show rxSum f ((k + -1).toNat + 1) = rxSum f (k + -1).toNat + f (((k + -1).toNat : Nat) : Int) * ((8 ^ (11 - (k + -1).toNat) : Nat) : Int) from rfl]
  rw [rxSum_cg (f := g) (g := f) fun j a b => h j a (by omega), show (((k + -1).toNat : Nat) : Int) = k + -1 by omega, h (k + -1) (by omega) (by omega)]
  have e3 : 8 ^ (11 - (k + -1).toNat) = 8 ^ (11 - ((k + -1).toNat + 1)) * 8 := by
    rw [show 11 - (k + -1).toNat = 11 - ((k + -1).toNat + 1) + 1 by omega, Nat.pow_succ]
  have h3 : (f k + 1) * ((8 ^ (11 - ((k + -1).toNat + 1)) : Nat) : Int) ≤ 6 * ((8 ^ (11 - ((k + -1).toNat + 1)) : Nat) : Int) := Int.mul_le_mul_of_nonneg_right (by omega) (Int.natCast_nonneg _)
  have h4 := rxS_pos (11 - ((k + -1).toNat + 1))
  rw [Int.add_mul (f (k + -1)) 1, Int.one_mul]
  have e4 : ((8 ^ (11 - (k + -1).toNat) : Nat) : Int) = ((8 ^ (11 - ((k + -1).toNat + 1)) : Nat) : Int) * 8 := by
    rw [e3]
    rfl
  rw [e4]
  omega
theorem rxDeed1 {S : Nat → Int → Int} (h : bx_Inv rxL S) {j : Int} (h0 : 0 ≤ j) (h1 : j < 12) : 0 ≤ S 482 (743 + 3 * j) ∧ S 482 (743 + 3 * j) ≤ 5 := by
  have e : bx_dT rxPl482 (743 + 3 * j) = (0, 0, 5) := bx_dW_ok (show bx_dW rxPl482 743 776 3 = some (0, 0, 5) by decide +kernel) (by omega) (by omega) (by omega)
  exact rx_inv h (p := 482) (j := 743 + 3 * j) (by omega) rxW482 (by omega) (by omega) ((rxT482 _).trans e)
theorem rxDeed2 {S : Nat → Int → Int} (h : bx_Inv rxL S) {j : Int} (h0 : 0 ≤ j) (h1 : j < 12) : 0 ≤ S 482 (744 + 3 * j) ∧ S 482 (744 + 3 * j) ≤ 9 := by
  have e : bx_dT rxPl482 (744 + 3 * j) = (0, 0, 9) := bx_dW_ok (show bx_dW rxPl482 744 777 3 = some (0, 0, 9) by decide +kernel) (by omega) (by omega) (by omega)
  exact rx_inv h (p := 482) (j := 744 + 3 * j) (by omega) rxW482 (by omega) (by omega) ((rxT482 _).trans e)
theorem rxDeed0 {S : Nat → Int → Int} (h : bx_Inv rxL S) {j : Int} (h0 : 0 ≤ j) (h1 : j < 12) : 0 ≤ S 482 (742 + 3 * j) ∧ S 482 (742 + 3 * j) ≤ 3 := by
  have e : bx_dT rxPl482 (742 + 3 * j) = (0, 0, 3) := bx_dW_ok (show bx_dW rxPl482 742 775 3 = some (0, 0, 3) by decide +kernel) (by omega) (by omega) (by omega)
  exact rx_inv h (p := 482) (j := 742 + 3 * j) (by omega) rxW482 (by omega) (by omega) ((rxT482 _).trans e)
theorem rxN6 {S : Nat → Int → Int} (h : bx_Inv rxL S) : 0 ≤ S 482 6 ∧ S 482 6 ≤ 12 := rx_inv h (p := 482) (j := 6) (t := (0, 0, 12)) (by omega) rxW482 (by omega) (by omega) ((rxT482 _).trans (by decide +kernel))
noncomputable def rxOrd (S : Nat → Int → Int) : Prop := ∀ k : Int, 0 ≤ k → k < S 482 6 → ∃ j : Int, 0 ≤ j ∧ j < 12 ∧ S 512 k = 742 + 3 * j
noncomputable def rxLast (S : Nat → Int → Int) (k : Int) : Prop := k = S 482 6 - 1 ∨ S 482 (S 512 (k + 1)) ≠ S 482 (S 512 k)
theorem rxOrd_cg {S S_p : Nat → Int → Int} (h : rxOrd S) (h1 : S_p 482 6 = S 482 6) (hn : S 482 6 ≤ 12) (h2 : ∀ k : Int, 0 ≤ k → k < 12 → S_p 512 k = S 512 k) : rxOrd S_p := fun k a b => by
  rw [h1] at b
  rw [h2 k a (by omega)]
  exact h k a b
theorem rxLast_cg {S S_p : Nat → Int → Int} {k : Int} (h1 : S_p 482 = S 482) (h2 : S_p 512 = S 512) : rxLast S_p k = rxLast S k := by
  unfold rxLast
  rw [h1, h2]
end
section
theorem rx_havR {S T : Nat → Int → Int} {c f : Nat} (v : ∀ (p i : Nat), p < rxL.2.1 → i < bx_wd (rxL.1 p) → bx_mc (rxL.1 p) i ≠ (c, f) → T p (i : Int) = S p (i : Int)) {p tc n g : Nat} {j : Int} (hk : rxL.1 p = .inr (tc, n, g)) (hp : p < 522) (h : 1000 + g ≠ c) (h0 : 0 ≤ j) (hj : j < (n : Int)) : T p j = S p j := by
  have := v p j.toNat hp (by rw [hk]; show j.toNat < n; omega) (by
    rw [hk]
    intro q
    exact h (congrArg Prod.fst q))
  rw [show ((j.toNat : Nat) : Int) = j by omega] at this
  exact this
theorem rx_cnt_all {f : Int → Int} : ∀ {n : Nat}, (∀ x : Int, 0 ≤ x → x < (n : Int) → f x ≠ -1) → rx_cnt f n = n
  | 0, _ => rfl
  | n + 1, h => by
    unfold rx_cnt
    rw [rx_cnt_all (n := n) fun x h1 h2 => h x h1 (by omega), if_neg (h (n : Int) (by omega) (by omega))]
noncomputable def rxDf (S : Nat → Int → Int) (r k x : Int) : Int := if S 482 (742 + 3 * x) < r ∨ (S 482 (742 + 3 * x) = r ∧ x < k) then 0 else -1
end
section
theorem bx_cpS_in {S : Nat → Int → Int} {P0 P1 n : Nat} {j : Int} (h0 : 0 ≤ j) (h1 : j < (n : Int)) : bx_cpS S P0 P1 n P1 j = S P0 j := if_pos ⟨rfl, h0, h1⟩
theorem bx_cpS_ne {S : Nat → Int → Int} {P0 P1 n p : Nat} {j : Int} (h : p ≠ P1) : bx_cpS S P0 P1 n p j = S p j := if_neg fun q => h q.1
theorem bx_nN {n : Nat} (h : n < 2000000000) : ¬ Int32.ofInt (n : Int) < 0 ∧ (Int32.ofInt (n : Int)).toNatClampNeg = n := by
  have e : (Int32.ofInt (n : Int)).toInt = (n : Int) := rx_i32 (by omega) (by omega)
  refine ⟨?_, ?_⟩
  · rw [Int32.lt_iff_toInt_lt, e, Int32.toInt_zero]
    omega
  · show (Int32.ofInt (n : Int)).toInt.toNat = n
    rw [e]
    rfl
section BXCY
variable {G NW : List Jvm.Cond} {AO : List String} {cl : List vw_C} {nm : Nat → String} {A : Nat → Prop} {xa : Nat → Nat} {PX : State → Prop} {l : Launch} {Dg : va_G} {L : bx_L} {md : Nat → Nat → Bool} {S : Nat → Int → Int}
variable {p : Program} {e : Env} {R : Room} {s : State} {m : MethodId} {args : Array Value} {below : List Frame} {meth : Method} {c : Code} {Q : State → Prop} {H0 H : Heap} {locs : List Loc} {ls : Array Slot} {r : Nat → Int} {ad : Nat → Nat}
variable {M : rx_Mt} {z : rx_Z} {idx : Nat}
theorem bx_copyI {P0 P1 n g0 g1 : Nat} {t : List rx_V} (hlg : bx_lg md = true) (hht : z.2.2.1 = []) (hF : rx_Fr G NW AO PX p s m args meth c M) (hn : nm M.1 = M.2.2.2.2.1.cls) (hd : 1 ≤ R.frames) (hdl : 40 ≤ R.locals) (hw : Jvm.Cond.methodLink (nm M.1) idx arraycopyName ∈ G ∧ Jvm.Cond.native arraycopyName ∈ G ∧ Jvm.Cond.static arraycopyName ∈ G ∧ Jvm.Cond.initialized "java/lang/System" ∈ G)
    (hdg : decode M.2.1 (rx_zpc z) = .ok (.invokestatic idx, 3)) (hR : rx_R (Dg, L, S, md) cl A s xa M.2.2.1 H0 z r ad H locs ls) (hst : rx_zst z = .inr (0, (0, (n : Int))) :: .inr (0, (0, 0)) :: .inr (3, (0, (P1 : Int))) :: .inr (0, (0, 0)) :: .inr (3, (0, (P0 : Int))) :: t)
    (hp0 : P0 < L.2.1) (hp1 : P1 < L.2.1) (hk0 : L.1 P0 = .inr (0, n, g0)) (hk1 : L.1 P1 = .inr (0, n, g1)) (hcat : rx_cats t ≤ 8) (hn2 : n < 2000000000) (hfit : ∀ j : Nat, j < n → bx_okT L (L.2.2.1 P1 (j : Int)) (S P0 (j : Int)))
    (K : ∀ (H1 : Heap) (locs1 : List Loc), rx_R (Dg, L, bx_cpS S P0 P1 n, md) cl A s xa M.2.2.1 H0 (rx_nxh [] z 3 t) r ad H1 locs1 ls → W p l e R s m args below meth c H1 locs1 z.2.2.2.1 z.2.2.2.2.1 Q (F0 m (rx_zpc z + 3) ls (t.map (rx_iv r ad xa)))) :
    W p l e R s m args below meth c H locs z.2.2.2.1 z.2.2.2.2.1 Q (F0 m (rx_zpc z) ls ((rx_zst z).map (rx_iv r ad xa))) := by
  obtain ⟨S1, ⟨ws, tys, hInv, hK, hP, hD, hl, hcell⟩, hS, ⟨-, hch⟩, hkn⟩ := id hR.2.2.2.1
  have eS : S1 = S := bx_noE_eq (by rw [hht]; rfl) (hch hlg)
  subst eS
  have hInv : bx_Inv L S1 := hInv
  have hl : ws.length = L.2.1 := hl
  have h0 : r 0 = 0 := hR.1.1
  obtain ⟨x0, hw0, hce0⟩ := hcell P0 hp0
  obtain ⟨x1, hw1, hce1⟩ := hcell P1 hp1
  have hce0 : bx_cell cl tys ad (L.1 P0) (S1 P0) x0 := hce0
  have hce1 : bx_cell cl tys ad (L.1 P1) (S1 P1) x1 := hce1
  rw [hk0] at hce0
  rw [hk1] at hce1
  obtain ⟨cA0, q0, c0, hx0, hty0, hsh0, hel0⟩ := hce0
  obtain ⟨cA1, q1, c1, hx1, hty1, hsh1, hel1⟩ := hce1
  obtain ⟨f, hf⟩ := hsh0
  obtain ⟨g, hg⟩ := hsh1
  subst hx0; subst hx1; subst hf; subst hg
  obtain ⟨a1, a2⟩ := bx_nN hn2
  have hz0 : (0 : Int) = ((0 : Nat) : Int) := rfl
  obtain ⟨b1, b2⟩ := bx_nN (n := 0) (by decide)
  have hsc := rx_stsc hR
  obtain ⟨hx, hb, hr, hml, hown, hlk, hts, -⟩ := id hF
  rw [hn] at hw
  have hwlen : P1 < ws.length := by rw [hl]; exact hp1
  rw [hst] at hsc ⊢
  have e0 : (r 0 + (P0 : Int)).toNat = P0 := by rw [h0]; omega
  have e1 : (r 0 + (P1 : Int)).toNat = P1 := by rw [h0]; omega
  have en : r 0 + (n : Int) = (n : Int) := by rw [h0]; omega
  have ez : r 0 + (0 : Int) = ((0 : Nat) : Int) := by rw [h0]; rfl
  show W p l e R s m args below meth c H locs z.2.2.2.1 z.2.2.2.2.1 Q (F0 m (rx_zpc z) ls (.int (Int32.ofInt (r 0 + (n : Int))) :: .int (Int32.ofInt (r 0 + (0 : Int))) :: .ref (ad (r 0 + (P1 : Int)).toNat) :: .int (Int32.ofInt (r 0 + (0 : Int))) :: .ref (ad (r 0 + (P0 : Int)).toNat) :: t.map (rx_iv r ad xa)))
  rw [e0, e1, en, ez]
  refine va_copyi hx hb (by rw [hml]; exact (rx_lvh hR).1.symm) hown (hts _ hw.1) (hts _ hw.2.1) (hts _ hw.2.2.1) (hts _ hw.2.2.2) hK hP hD hS _ _ q0 q1 hw0 hw1 hty0 hty1 rfl b1 b1 a1 (by rw [b2, a2]; omega) (by rw [b2, a2]; omega) (fun _ _ => rfl) hd ?_ hdg (fun H1 locs1 hP1 hD1 hS1 => ?_)
  · rw [rx_cats_sum]
    show rx_cats t + (7 + 11) ≤ R.locals
    omega
  · rw [b2, a2] at hP1 hD1
    refine K H1 locs1 ⟨hR.1, hR.2.1, hR.2.2.1, ⟨bx_cpS S1 P0 P1 n, ⟨_, tys, ?_, hK, hP1, hD1, by rw [List.length_set]; exact hl, ?_⟩, hS1, ⟨fun _ _ _ _ _ => rfl, fun _ => bx_noE_chain rfl⟩, fun q hq => absurd hq List.not_mem_nil⟩, hR.2.2.2.2.1, fun q hq => rx_sc.any (hR.2.2.2.2.2.1 q hq), fun w hw => rx_sc.any (hsc w (List.mem_cons_of_mem _ (List.mem_cons_of_mem _ (List.mem_cons_of_mem _ (List.mem_cons_of_mem _ (List.mem_cons_of_mem _ hw))))))⟩
    · intro p_p j_p hp_p hj_p
      by_cases hpe : p_p = P1
      · subst hpe
        have hj_p : j_p < bx_wd (L.1 p_p) := hj_p
        rw [hk1] at hj_p
        have hj_p : j_p < n := hj_p
        show bx_okT L (L.2.2.1 p_p (j_p : Int)) (bx_cpS S1 P0 p_p n p_p (j_p : Int))
        rw [bx_cpS_in (by omega) (by omega)]
        exact hfit j_p hj_p
      · show bx_okT L (L.2.2.1 p_p (j_p : Int)) (bx_cpS S1 P0 P1 n p_p (j_p : Int))
        rw [bx_cpS_ne hpe]
        exact hInv p_p j_p hp_p hj_p
    · intro p_p hp_p
      by_cases hpe : p_p = P1
      · subst hpe
        refine ⟨_, List.getElem?_set_self hwlen, ?_⟩
        show bx_cell cl tys ad (L.1 p_p) (bx_cpS S1 P0 p_p n p_p) _
        rw [hk1]
        refine ⟨cA1, q1, _, rfl, hty1, ⟨_, rfl⟩, fun j hj => ?_⟩
        show Value.int (va_cpy f g 0 0 n j) = bx_fv ad 0 (bx_cpS S1 P0 p_p n p_p (j : Int))
        rw [bx_cpS_in (by omega) (by omega), pk_cpy_in (Nat.zero_le _) (by omega), Nat.zero_add, Nat.sub_zero]
        exact hel0 j hj
      · obtain ⟨e1_p, h1_p, h2_p⟩ := hcell p_p hp_p
        refine ⟨e1_p, by rw [List.getElem?_set_ne (Ne.symm hpe)]; exact h1_p, ?_⟩
        have hrow : bx_cpS S1 P0 P1 n p_p = S1 p_p := funext fun j => bx_cpS_ne hpe
        show bx_cell cl tys ad (L.1 p_p) (bx_cpS S1 P0 P1 n p_p) e1_p
        rw [hrow]
        exact h2_p
end BXCY
section RXCY
variable {PX : State → Prop} {Dg : va_G} {A : Nat → Prop} {ad xa : Nat → Nat} {l : Launch} {X : (Nat → Int → Int) → Prop}
variable {p : Program} {e : Env} {R : Room} {s : State} {m : MethodId} {args : Array Value} {below : List Frame} {meth : Method} {c : Code} {Q : State → Prop} {H0 : Heap}
theorem rx_same_cp {ms : List (Nat × Nat)} {S0 S : Nat → Int → Int} (h : bx_same rxL (bx_mdl ms) S0 S) {P0 P1 n g1 : Nat} (hk : rxL.1 P1 = .inr (0, n, g1)) (h1 : bx_mdr (bx_mdl ms) g1 0 ((n : Int) - 1) = true) : bx_same rxL (bx_mdl ms) S0 (bx_cpS S P0 P1 n) := fun q i hq hi hm => by
  by_cases hc : q = P1
  · exfalso
    subst hc
    rw [hk] at hm hi
    have hi : i < n := hi
    have hm : bx_mdl ms (1000 + g1) (bx_sk g1 i) = false := hm
    rw [bx_mdr_ok h1 (by omega) (by omega)] at hm
    cases hm
  · rw [bx_cpS_ne hc]
    exact h q i hq hi hm
noncomputable def rx_obY (X : (Nat → Int → Int) → Prop) (Sin : Nat → Int → Int) (ms : List (Nat × Nat)) (inv : Nat → bx_SP) (mea : Nat → (Nat → Int → Int) → (Nat → Int) → Nat) (i i_p : Nat) (z : rx_Z) (P0 P1 n : Nat) : Prop :=
  ∀ (S : Nat → Int → Int) (r : Nat → Int), inv i S r → X S → bx_Inv rxL S → bx_same rxL (bx_mdl ms) Sin S → rx_sat z.1 r → rx_facts z.2.1 r →
    inv i_p (bx_cpS S P0 P1 n) r ∧ mea i_p (bx_cpS S P0 P1 n) r < mea i S r ∧ X (bx_cpS S P0 P1 n) ∧ bx_same rxL (bx_mdl ms) Sin (bx_cpS S P0 P1 n)
theorem rx_stepY {M : rx_Mt} {tab : List bx_HE} {inv : Nat → bx_SP} {mea : Nat → (Nat → Int → Int) → (Nat → Int) → Nat} {Sin : Nat → Int → Int} {ms : List (Nat × Nat)} {i i_p idx : Nat} {z : rx_Z} {os : List bx_HO} {es : List (rx_End × List (Nat × Int × Int))} {q_p : bx_HE} {P0 P1 n g0 g1 : Nat} {t : List rx_V} {l0 h0 l1 h1 : Int}
    (hF : rx_Fr rxG rxNW rxAO PX p s m args meth c M) (hn : rxNm M.1 = M.2.2.2.2.1.cls) (hd : 1 ≤ R.frames) (hdl : 40 ≤ R.locals) (hcp : rxCp M.1 idx = some 0) (hdg : decode M.2.1 (rx_zpc z) = .ok (.invokestatic idx, 3)) (hht : z.2.2.1 = []) (hst : rx_zst z = .inr (0, (0, (n : Int))) :: .inr (0, (0, 0)) :: .inr (3, (0, (P1 : Int))) :: .inr (0, (0, 0)) :: .inr (3, (0, (P0 : Int))) :: t)
    (hp0 : P0 < 522) (hp1 : P1 < 522) (hk0 : rxL.1 P0 = .inr (0, n, g0)) (hk1 : rxL.1 P1 = .inr (0, n, g1)) (hcat : rx_cats t ≤ 8) (hn2 : n < 2000000000) (hb0 : rxV.2.1 none (P0 : Int) 0 ((n : Int) - 1) 1 = some (0, l0, h0)) (hb1 : rxV.2.2 none (P1 : Int) 0 ((n : Int) - 1) 1 = some (0, l1, h1)) (hlo : l1 ≤ l0) (hhi : h0 ≤ h1)
    (htab : tab[i_p]? = some q_p) (hq_p : rx_nxh [] z 3 t = q_p.1) (hob : rx_obY X Sin ms inv mea i i_p z P0 P1 n) :
    bx_Step p l e R s m args below meth c Q Dg rxL X vwCl A xa H0 ad M tab inv mea Sin ms i (z, os, es) := by
  intro S r H locs ls hinv hXS hsin hR K
  obtain ⟨Sq, ⟨ws0, tys0, hInv0, hrest0⟩, -, ⟨-, hch0⟩, -⟩ := id hR.2.2.2.1
  have eSq : Sq = S := bx_noE_eq (by rw [show (z, os, es).1.2.2.1 = [] from hht]; rfl) (hch0 rfl)
  rw [eSq] at hInv0
  have hInv0 : bx_Inv rxL S := hInv0
  obtain ⟨o2, o3, o4, o5⟩ := hob S r hinv hXS hInv0 hsin hR.1 hR.2.1
  have hw : Jvm.Cond.methodLink (rxNm M.1) idx arraycopyName ∈ rxG := (rxCp_ok _ _ _ hcp).1 rfl
  refine bx_copyI (nm := rxNm) (P0 := P0) (P1 := P1) (n := n) (g0 := g0) (g1 := g1) (t := t) (idx := idx) rfl hht hF hn hd hdl ⟨hw, rxCw_ok⟩ hdg hR hst hp0 hp1 hk0 hk1 hcat hn2 (fun j hj => ?_) fun H1 locs1 hR1 => ?_
  · have hj0 : j < bx_wd (rxL.1 P0) := by rw [hk0]; exact hj
    have hv := rxVok.2.1 none (P0 : Int) 0 ((n : Int) - 1) 1 _ hb0 0 rfl (j : Int) (S P0 (j : Int)) (by omega) (by omega) (Int.emod_one _) (by
      rw [show (0 + (P0 : Int)).toNat = P0 by omega]
      exact hInv0 P0 j hp0 hj0)
    have hv : l0 ≤ S P0 (j : Int) ∧ S P0 (j : Int) ≤ h0 := hv
    have hg := rxVok.2.2.1 none (P1 : Int) 0 ((n : Int) - 1) 1 _ hb1 0 rfl (j : Int) (S P0 (j : Int)) (by omega) (by omega) (Int.emod_one _) (show l1 ≤ S P0 (j : Int) ∧ S P0 (j : Int) ≤ h1 from ⟨by omega, by omega⟩)
    rw [show (0 + (P1 : Int)).toNat = P1 by omega] at hg
    exact hg
  · rw [hq_p] at hR1
    have := K i_p q_p (bx_cpS S P0 P1 n) r H1 locs1 ls htab o2 o3 o4 o5 hR1
    rw [← hq_p] at this
    obtain ⟨zI, zF, zh, zc, zs, zp, zl, zt⟩ := z
    exact this
end RXCY
end
section
noncomputable def rxCnE : Nat → List bx_Ct := fun _ => []
noncomputable def rxI209_0 (S0 : Nat → Int → Int) (ws : List Int) (S : Nat → Int → Int) (k : Int) : Prop := S = S0 ∧ ws = [480, k]
noncomputable def rxm209_0 (S0 : Nat → Int → Int) (ws : List Int) (S : Nat → Int → Int) (k : Int) : Nat := 40000
noncomputable def rxz209_0 : rx_Z := ([(0, 0), (0, 0), (0, 0), (0, 0), (0, 0), (0, 0), (0, 0), (0, 0), ((-2147483648), 2147483647)], [], [], 0, 0, 0, [(0, .inr (3, (0, 480))), (1, .inr (0, (8, 0)))], [])
noncomputable def rxI209_1 (S0 : Nat → Int → Int) (ws : List Int) (S : Nat → Int → Int) (k i : Int) : Prop := (∀ j : Int, S 484 j = S0 484 j) ∧ ws = [480, k] ∧ (∀ j : Int, 0 ≤ j → j < i → S 483 (6180 * k + j) = S0 482 j) ∧ (∀ j : Int, (j < 6180 * k ∨ 6180 * k + i ≤ j) → S 483 j = S0 483 j)
noncomputable def rxm209_1 (S0 : Nat → Int → Int) (ws : List Int) (S : Nat → Int → Int) (k i : Int) : Nat := 3 * (6200 - i).toNat + 2
noncomputable def rxz209_1 : rx_Z := ([(0, 0), (0, 0), (0, 0), (0, 0), (0, 0), (0, 0), (0, 0), (0, 0), (0, 1), (0, 6180)], [], [], 0, 0, 23, [(0, .inr (3, (0, 480))), (1, .inr (0, (8, 0))), (2, .inr (0, (9, 0)))], [])
noncomputable def rxI209_2 (S0 : Nat → Int → Int) (ws : List Int) (S : Nat → Int → Int) (k i a v : Int) : Prop := a = 6180 * k + i ∧ v = S0 482 i ∧ (∀ j : Int, S 484 j = S0 484 j) ∧ ws = [480, k] ∧ (∀ j : Int, 0 ≤ j → j < i → S 483 (6180 * k + j) = S0 482 j) ∧ (∀ j : Int, (j < 6180 * k ∨ 6180 * k + i ≤ j) → S 483 j = S0 483 j)
noncomputable def rxm209_2 (S0 : Nat → Int → Int) (ws : List Int) (S : Nat → Int → Int) (k i a v : Int) : Nat := 3 * (6200 - i).toNat + 1
noncomputable def rxz209_2 : rx_Z := ([(0, 0), (0, 0), (0, 0), (0, 0), (0, 0), (0, 0), (0, 0), (0, 0), (0, 1), (0, 6179), (0, 12359), ((-2147483648), 2147483647)], [], [], 0, 0, 47, [(0, .inr (3, (0, 480))), (1, .inr (0, (8, 0))), (2, .inr (0, (9, 0)))], [.inr (0, (11, 0)), .inr (0, (10, 0)), .inr (3, (0, 483))])
noncomputable def rxI209_3 (S0 : Nat → Int → Int) (ws : List Int) (S : Nat → Int → Int) (k i a v : Int) : Prop := (∀ j : Int, S 484 j = S0 484 j) ∧ ws = [480, k] ∧ (∀ j : Int, 0 ≤ j → j < (i + 1) → S 483 (6180 * k + j) = S0 482 j) ∧ (∀ j : Int, (j < 6180 * k ∨ 6180 * k + (i + 1) ≤ j) → S 483 j = S0 483 j)
noncomputable def rxm209_3 (S0 : Nat → Int → Int) (ws : List Int) (S : Nat → Int → Int) (k i a v : Int) : Nat := 3 * (6200 - i).toNat
noncomputable def rxz209_3 : rx_Z := ([(0, 0), (0, 0), (0, 0), (0, 0), (0, 0), (0, 0), (0, 0), (0, 0), (0, 1), (0, 6179), (0, 12359), ((-2147483648), 2147483647)], [], [], 0, 0, 48, [(0, .inr (3, (0, 480))), (1, .inr (0, (8, 0))), (2, .inr (0, (9, 0)))], [])
noncomputable def rxo209_0_0 : bx_HO := (([(0, 0), (0, 0), (0, 0), (0, 0), (0, 0), (0, 0), (0, 0), (0, 0), (0, 1)], [], [(((0, 0), 1851192626986356797424340330377019318111018015026043177836478467000000), .inr (0, (0, 0))), (((0, 480), 0), .inr (0, (0, 0)))], 0, 0, 23, [(2, .inr (0, (0, 0))), (0, .inr (3, (0, 480))), (1, .inr (0, (8, 0)))], []), [], [], [(0, 0), (0, 0), (0, 0), (0, 0), (0, 0), (0, 0), (0, 0), (0, 0), (8, 0), (0, 0)], 1)
noncomputable def rxe209_0_0 : rx_End × List (Nat × Int × Int) := (([(0, 0), (0, 0), (0, 0), (0, 0), (0, 0), (0, 0), (0, 0), (0, 0), ((-2147483648), (-1)), ((-2147483648), 2147483647), ((-2147483648), 2147483647)], [], [(((0, 0), 1851192626986356797625047037163794926384839479479878431390892035000000), .inr (0, (10, 0))), (((0, 481), 1), .inr (0, (10, 0))), (((0, 0), 1851192626986356797625047037163794926384839479479878431390892032000000), .inr (0, (9, 0))), (((0, 480), 2), .inr (3, (0, 481))), (((0, 0), 1851192626986356797625047037163794926384839479479878431390302211000000), .inr (0, (0, (-1)))), (((0, 480), 1), .inr (0, (0, (-1)))), (((0, 0), 1851192626986356797424340330377019318111018015026043177836478467000000), .inr (0, (0, 0))), (((0, 480), 0), .inr (0, (0, 0)))], some (.inr (0, (0, (-1))))), [])
noncomputable def rxe209_0_1 : rx_End × List (Nat × Int × Int) := (([(0, 0), (0, 0), (0, 0), (0, 0), (0, 0), (0, 0), (0, 0), (0, 0), (2, 2147483647), ((-2147483648), 2147483647), ((-2147483648), 2147483647)], [], [(((0, 0), 1851192626986356797625047037163794926384839479479878431390892035000000), .inr (0, (10, 0))), (((0, 481), 1), .inr (0, (10, 0))), (((0, 0), 1851192626986356797625047037163794926384839479479878431390892032000000), .inr (0, (9, 0))), (((0, 480), 2), .inr (3, (0, 481))), (((0, 0), 1851192626986356797625047037163794926384839479479878431390302211000000), .inr (0, (0, (-1)))), (((0, 480), 1), .inr (0, (0, (-1)))), (((0, 0), 1851192626986356797424340330377019318111018015026043177836478467000000), .inr (0, (0, 0))), (((0, 480), 0), .inr (0, (0, 0)))], some (.inr (0, (0, (-1))))), [])
noncomputable def rxo209_1_0 : bx_HO := (([(0, 0), (0, 0), (0, 0), (0, 0), (0, 0), (0, 0), (0, 0), (0, 0), (0, 1), (0, 6179), (0, 6180), (0, 12359), ((-1), 1000)], [(604462909807314587353097000000, (11, 0), (10, 0)), (6184, (10, 0), (8, 0))], [(((0, 0), 1851192626986356797424367893248739914126558548369245151062786048000000), .inr (0, (12, 0))), (((0, 480), 3), .inr (3, (0, 482))), (((0, 480), 4), .inr (3, (0, 483)))], 0, 0, 47, [(0, .inr (3, (0, 480))), (1, .inr (0, (8, 0))), (2, .inr (0, (9, 0)))], [.inr (0, (12, 0)), .inr (0, (11, 0)), .inr (3, (0, 483))]), [], [], [(0, 0), (0, 0), (0, 0), (0, 0), (0, 0), (0, 0), (0, 0), (0, 0), (8, 0), (9, 0), (11, 0), (12, 0)], 2)
noncomputable def rxe209_1_0 : rx_End × List (Nat × Int × Int) := (([(0, 0), (0, 0), (0, 0), (0, 0), (0, 0), (0, 0), (0, 0), (0, 0), (0, 1), (6180, 6180)], [], [(((0, 0), 1851192626986356797625047037163794926384839479479878431390302211000000), .inr (0, (0, 0))), (((0, 480), 1), .inr (0, (0, 0))), (((0, 0), 1851192626986356797424364830707437625680387377997778265150062595000000), .inr (0, (0, 1))), (((0, 480), 5), .inr (3, (0, 484)))], some (.inr (0, (0, 0)))), [])
noncomputable def rxo209_3_0 : bx_HO := (([(0, 0), (0, 0), (0, 0), (0, 0), (0, 0), (0, 0), (0, 0), (0, 0), (0, 1), (0, 6179), (0, 12359), ((-2147483648), 2147483647)], [], [], 0, 0, 23, [(2, .inr (0, (9, 1))), (0, .inr (3, (0, 480))), (1, .inr (0, (8, 0)))], []), [], [], [(0, 0), (0, 0), (0, 0), (0, 0), (0, 0), (0, 0), (0, 0), (0, 0), (8, 0), (9, 1)], 1)
noncomputable def rxY209 : List bx_HE := [(rxz209_0, [rxo209_0_0], [rxe209_0_0, rxe209_0_1]), (rxz209_1, [rxo209_1_0], [rxe209_1_0]), (rxz209_2, [], []), (rxz209_3, [rxo209_3_0], [])]
noncomputable def rxU209 (q : bx_HE) : Bool := Nat.beq (rx_zpc q.1) 47
noncomputable def rxYB209 : bx_B := (rxV, rxNP, rxDmf, bx_mdH rxC209.2.2.1)
set_option maxRecDepth 100000 in
theorem rxYc209 : bx_chkH rxYB209 rxM209 rxC209 rxY209 (rxU209, fun cut z => rx_ex2 (rxCT rxYB209 rxCnE) cut 30000 rxC209.2.2.2.1 209 z) = true := by decide +kernel
noncomputable def rxI209 (S0 : Nat → Int → Int) (ws : List Int) (i : Nat) : bx_SP := fun S r => match i with | 0 => rxI209_0 S0 ws S (r 8) | 1 => rxI209_1 S0 ws S (r 8) (r 9) | 2 => rxI209_2 S0 ws S (r 8) (r 9) (r 10) (r 11) | 3 => rxI209_3 S0 ws S (r 8) (r 9) (r 10) (r 11) | _ => False
noncomputable def rxm209 (S0 : Nat → Int → Int) (ws : List Int) (i : Nat) (S : Nat → Int → Int) (r : Nat → Int) : Nat := match i with | 0 => rxm209_0 S0 ws S (r 8) | 1 => rxm209_1 S0 ws S (r 8) (r 9) | 2 => rxm209_2 S0 ws S (r 8) (r 9) (r 10) (r 11) | 3 => rxm209_3 S0 ws S (r 8) (r 9) (r 10) (r 11) | _ => 0
noncomputable def rxP209 (S0 : Nat → Int → Int) (ws : List Int) : Prop := True
noncomputable def rxPS209 (S0 : Nat → Int → Int) (ws : List Int) (S : Nat → Int → Int) (w : Option Int) : Prop := ∃ k : Int, ws = [480, k] ∧ ((0 ≤ k ∧ k ≤ 1 ∧ w = some 0 ∧ (∀ j : Int, 0 ≤ j → j < 6180 → S 483 (6180 * k + j) = S0 482 j) ∧ (∀ j : Int, (j < 6180 * k ∨ 6180 * k + 6180 ≤ j) → S 483 j = S0 483 j)) ∨ ((k < 0 ∨ 1 < k) ∧ w = some (-1) ∧ ∀ j : Int, S 483 j = S0 483 j)) ∧ ∀ j : Int, 0 ≤ j → j ≤ 1 → S 484 j = if j = k then 1 else S0 484 j
theorem rxt209_2 {S0 : Nat → Int → Int} {ws : List Int} {S : Nat → Int → Int} {k i a v : Int} (hP : rxP209 S0 ws) (hin : bx_same rxL (bx_mdl rxC209.2.2.1) S0 S) (I0 : bx_Inv rxL S) (hinv : rxI209_2 S0 ws S k i a v) (l8 : 0 ≤ k) (u8 : k ≤ 1) (l9 : 0 ≤ i) (u9 : i ≤ 6179) (l10 : 0 ≤ a) (u10 : a ≤ 12359) (l11 : (-2147483648) ≤ v) (u11 : v ≤ 2147483647) : bx_okT rxL (rxL.2.2.1 483 a) v ∧ rxI209_3 S0 ws (bx_up S 483 a v) k i a v ∧ rxm209_3 S0 ws (bx_up S 483 a v) k i a v < rxm209_2 S0 ws S k i a v := by
  obtain ⟨rfl, rfl, h9, h1, h2, h3⟩ := hinv
  refine ⟨?_, ⟨fun j => by rw [bx_up_row (by omega)]; exact h9 j, h1, fun j h4 h5 => ?_, fun j h4 => ?_⟩, ?_⟩
  · rw [← rx_sameR hin (p := 482) (tc := 0) (n := 6180) (g := 63) rfl (by omega) (by decide +kernel) (by decide +kernel) l9 (by omega)]
    exact rxImgT I0 ⟨l8, u8⟩ ⟨l9, u9⟩
  · by_cases hj : j = i
    · subst hj
      exact bx_up_at
    · rw [bx_up_ne (by omega)]
      exact h2 j h4 (by omega)
  · rw [bx_up_ne (by omega)]
    exact h3 j (by omega)
  · show 3 * (6200 - i).toNat < 3 * (6200 - i).toNat + 1
    omega
theorem rxs209_2 {X : (Nat → Int → Int) → Prop} {S0 : Nat → Int → Int} {ws : List Int} (hP : rxP209 S0 ws) (hX : ∀ S S1 : Nat → Int → Int, X S → bx_same rxL (bx_mdl rxC209.2.2.1) S S1 → X S1) : rx_obS X S0 rxC209.2.2.1 (rxI209 S0 ws) (rxm209 S0 ws) 2 3 rxz209_2 483 10 11 := by
  intro S r hinv hXS I0 hin hs_ hf_
  have b_ := bx_bds_sat hs_
  have f_ := bx_fcl_ok hs_.1 hf_
  obtain ⟨⟨l8, u8⟩, ⟨l9, u9⟩, ⟨l10, u10⟩, ⟨l11, u11⟩, -⟩ := b_
  have g := rxt209_2 hP hin I0 hinv l8 u8 l9 u9 l10 u10 l11 u11
  exact ⟨g.1, g.2.1, g.2.2, hX _ _ hXS (rx_same_upR (fun _ _ _ _ _ => rfl) (tc := 0) (n := 12360) (g := 64) rfl (by decide +kernel) l10 u10), rx_same_upR hin (tc := 0) (n := 12360) (g := 64) rfl (by decide +kernel) l10 u10⟩
theorem rxc209_0_0 {S0 : Nat → Int → Int} {ws : List Int} {S : Nat → Int → Int} {k : Int} (hP : rxP209 S0 ws) (hin : bx_same rxL (bx_mdl rxC209.2.2.1) S0 S) (I0 : bx_Inv rxL S) (hinv : rxI209_0 S0 ws S k) (l8 : 0 ≤ k) (u8 : k ≤ 1) : (True) ∧ (True) ∧ rxI209_1 S0 ws (bx_up S 480 0 0) k 0 ∧ rxm209_1 S0 ws (bx_up S 480 0 0) k 0 < rxm209_0 S0 ws S k := by
  obtain ⟨rfl, rfl⟩ := hinv
  refine ⟨trivial, trivial, ⟨fun j => by rw [bx_up_row (by omega)], rfl, fun j h1 h2 => by omega, fun j h1 => bx_up_ne (by omega)⟩, ?_⟩
  show 3 * (6200 - 0 : Int).toNat + 2 < 40000
  omega
theorem rxg209_0_0 {X : (Nat → Int → Int) → Prop} {S0 : Nat → Int → Int} {ws : List Int} (hP : rxP209 S0 ws) : bx_obC rxL X S0 rxC209.2.2.1 (rxI209 S0 ws) (rxm209 S0 ws) 0 rxz209_0 rxo209_0_0 := by
  intro S S_p r r_p hinv hX hin hsm_ hseg
  obtain ⟨I0, I1, h0_, hr_, b_, f_, d_⟩ := bx_cl (evs := [(1, (0, 480), (0, 0), .inr (0, (0, 0)))]) (fvs := []) hseg (by decide +kernel) (by decide +kernel)
  have hinv : rxI209_0 S0 ws S (r 8) := hinv
  rw [← hr_ 8 (by decide)] at hinv
  obtain ⟨⟨l8, u8⟩, -⟩ := b_
  obtain ⟨T0, w_, w0⟩ := d_
  subst w0
  subst w_
  have g := rxc209_0_0 hP hin I0 hinv l8 u8
  refine ⟨bx_narP_ok (l := []) g.1, bx_nfP_ok h0_ (fvs := []) (by decide +kernel) g.2.1, ?_, ?_⟩
  · show rxI209_1 S0 ws (bx_up T0 480 (0) (0)) (bx_val [(0, 0), (0, 0), (0, 0), (0, 0), (0, 0), (0, 0), (0, 0), (0, 0), (8, 0), (0, 0)] r_p 8) (bx_val [(0, 0), (0, 0), (0, 0), (0, 0), (0, 0), (0, 0), (0, 0), (0, 0), (8, 0), (0, 0)] r_p 9)
    rw [bx_val_x (n := 8) (e := (8, 0)) h0_ rfl, bx_val_x (n := 9) (e := (0, 0)) h0_ rfl]
    exact g.2.2.1
  · show rxm209_1 S0 ws (bx_up T0 480 (0) (0)) (bx_val [(0, 0), (0, 0), (0, 0), (0, 0), (0, 0), (0, 0), (0, 0), (0, 0), (8, 0), (0, 0)] r_p 8) (bx_val [(0, 0), (0, 0), (0, 0), (0, 0), (0, 0), (0, 0), (0, 0), (0, 0), (8, 0), (0, 0)] r_p 9) < rxm209_0 S0 ws T0 (r 8)
    rw [bx_val_x (n := 8) (e := (8, 0)) h0_ rfl, bx_val_x (n := 9) (e := (0, 0)) h0_ rfl, ← hr_ 8 (by decide)]
    exact g.2.2.2
theorem rxd209_0_0 {S0 : Nat → Int → Int} {ws : List Int} {S : Nat → Int → Int} {k x9 x10 : Int} (hP : rxP209 S0 ws) (hin : bx_same rxL (bx_mdl rxC209.2.2.1) S0 S) (hin2 : bx_same rxL (bx_mdl rxC209.2.2.1) S (bx_up (bx_up (bx_up S 480 0 0) 480 1 ((-1))) 481 1 x10)) (I0 : bx_Inv rxL S) (I1 : bx_Inv rxL (bx_up (bx_up (bx_up S 480 0 0) 480 1 ((-1))) 481 1 x10)) (hinv : rxI209_0 S0 ws S k) (l8 : (-2147483648) ≤ k) (u8 : k ≤ (-1)) (l9 : (-2147483648) ≤ x9) (u9 : x9 ≤ 2147483647) (l10 : (-2147483648) ≤ x10) (u10 : x10 ≤ 2147483647) (e1 : (bx_up (bx_up S 480 0 0) 480 1 ((-1))) 481 1 = x9) : (True) ∧ rxPS209 S0 ws (bx_up (bx_up (bx_up S 480 0 0) 480 1 ((-1))) 481 1 x10) (some ((-1))) := by
  obtain ⟨rfl, rfl⟩ := hinv
  exact ⟨trivial, k, rfl, Or.inr ⟨by omega, rfl, fun j => by rw [bx_up_row (by omega), bx_up_row (by omega), bx_up_row (by omega)]⟩, fun j j0 j1 => by rw [if_neg (by omega), bx_up_row (by omega), bx_up_row (by omega), bx_up_row (by omega)]⟩
theorem rxf209_0_0 {X : (Nat → Int → Int) → Prop} {S0 : Nat → Int → Int} {ws : List Int} (hP : rxP209 S0 ws) : bx_obE rxL X S0 rxC209.2.2.1 (rxI209 S0 ws) (rxPS209 S0 ws) 0 rxz209_0 rxe209_0_0 := by
  intro S S_p r r_p hinv hX hin hsm_ hseg
  obtain ⟨I0, I1, h0_, hr_, b_, f_, d_⟩ := bx_cl (evs := [(1, (0, 481), (0, 1), .inr (0, (10, 0))), (0, (0, 481), (0, 1), .inr (0, (9, 0))), (1, (0, 480), (0, 1), .inr (0, (0, (-1)))), (1, (0, 480), (0, 0), .inr (0, (0, 0)))]) (fvs := []) hseg (by decide +kernel) (by decide +kernel)
  have hinv : rxI209_0 S0 ws S (r 8) := hinv
  rw [← hr_ 8 (by decide)] at hinv
  obtain ⟨⟨l8, u8⟩, ⟨l9, u9⟩, ⟨l10, u10⟩, -⟩ := b_
  obtain ⟨T0, ⟨e1, ⟨T2, ⟨T3, w_, w3⟩, w2⟩⟩, w0⟩ := d_
  subst w0
  subst w2
  subst w3
  subst w_
  have g := rxd209_0_0 hP hin hsm_ I0 I1 hinv l8 u8 l9 u9 l10 u10 e1
  refine ⟨bx_narP_ok (l := []) g.1, ?_⟩
  show rxPS209 S0 ws (bx_up (bx_up (bx_up T3 480 (0) (0)) 480 (1) ((-1))) 481 (1) (r_p 10)) (some (bx_num r_p (.inr (0, (0, (-1))))))
  rw [bx_xv_ok h0_]
  exact g.2
theorem rxd209_0_1 {S0 : Nat → Int → Int} {ws : List Int} {S : Nat → Int → Int} {k x9 x10 : Int} (hP : rxP209 S0 ws) (hin : bx_same rxL (bx_mdl rxC209.2.2.1) S0 S) (hin2 : bx_same rxL (bx_mdl rxC209.2.2.1) S (bx_up (bx_up (bx_up S 480 0 0) 480 1 ((-1))) 481 1 x10)) (I0 : bx_Inv rxL S) (I1 : bx_Inv rxL (bx_up (bx_up (bx_up S 480 0 0) 480 1 ((-1))) 481 1 x10)) (hinv : rxI209_0 S0 ws S k) (l8 : 2 ≤ k) (u8 : k ≤ 2147483647) (l9 : (-2147483648) ≤ x9) (u9 : x9 ≤ 2147483647) (l10 : (-2147483648) ≤ x10) (u10 : x10 ≤ 2147483647) (e1 : (bx_up (bx_up S 480 0 0) 480 1 ((-1))) 481 1 = x9) : (True) ∧ rxPS209 S0 ws (bx_up (bx_up (bx_up S 480 0 0) 480 1 ((-1))) 481 1 x10) (some ((-1))) := by
  obtain ⟨rfl, rfl⟩ := hinv
  exact ⟨trivial, k, rfl, Or.inr ⟨by omega, rfl, fun j => by rw [bx_up_row (by omega), bx_up_row (by omega), bx_up_row (by omega)]⟩, fun j j0 j1 => by rw [if_neg (by omega), bx_up_row (by omega), bx_up_row (by omega), bx_up_row (by omega)]⟩
theorem rxf209_0_1 {X : (Nat → Int → Int) → Prop} {S0 : Nat → Int → Int} {ws : List Int} (hP : rxP209 S0 ws) : bx_obE rxL X S0 rxC209.2.2.1 (rxI209 S0 ws) (rxPS209 S0 ws) 0 rxz209_0 rxe209_0_1 := by
  intro S S_p r r_p hinv hX hin hsm_ hseg
  obtain ⟨I0, I1, h0_, hr_, b_, f_, d_⟩ := bx_cl (evs := [(1, (0, 481), (0, 1), .inr (0, (10, 0))), (0, (0, 481), (0, 1), .inr (0, (9, 0))), (1, (0, 480), (0, 1), .inr (0, (0, (-1)))), (1, (0, 480), (0, 0), .inr (0, (0, 0)))]) (fvs := []) hseg (by decide +kernel) (by decide +kernel)
  have hinv : rxI209_0 S0 ws S (r 8) := hinv
  rw [← hr_ 8 (by decide)] at hinv
  obtain ⟨⟨l8, u8⟩, ⟨l9, u9⟩, ⟨l10, u10⟩, -⟩ := b_
  obtain ⟨T0, ⟨e1, ⟨T2, ⟨T3, w_, w3⟩, w2⟩⟩, w0⟩ := d_
  subst w0
  subst w2
  subst w3
  subst w_
  have g := rxd209_0_1 hP hin hsm_ I0 I1 hinv l8 u8 l9 u9 l10 u10 e1
  refine ⟨bx_narP_ok (l := []) g.1, ?_⟩
  show rxPS209 S0 ws (bx_up (bx_up (bx_up T3 480 (0) (0)) 480 (1) ((-1))) 481 (1) (r_p 10)) (some (bx_num r_p (.inr (0, (0, (-1))))))
  rw [bx_xv_ok h0_]
  exact g.2
theorem rxc209_1_0 {S0 : Nat → Int → Int} {ws : List Int} {S : Nat → Int → Int} {k i x10 x11 x12 : Int} (hP : rxP209 S0 ws) (hin : bx_same rxL (bx_mdl rxC209.2.2.1) S0 S) (I0 : bx_Inv rxL S) (hinv : rxI209_1 S0 ws S k i) (l8 : 0 ≤ k) (u8 : k ≤ 1) (l9 : 0 ≤ i) (u9 : i ≤ 6179) (l10 : 0 ≤ x10) (u10 : x10 ≤ 6180) (l11 : 0 ≤ x11) (u11 : x11 ≤ 12359) (l12 : (-1) ≤ x12) (u12 : x12 ≤ 1000) (f0 : x11 = x10 + i) (f1 : x10 = 6180 * (k)) (e0 : S 482 i = x12) : (True) ∧ (True) ∧ rxI209_2 S0 ws S k i x11 x12 ∧ rxm209_2 S0 ws S k i x11 x12 < rxm209_1 S0 ws S k i := by
  obtain ⟨h4, h1, h2, h3⟩ := hinv
  refine ⟨trivial, trivial, ⟨by omega, ?_, h4, h1, h2, h3⟩, ?_⟩
  · rw [← e0]
    exact rx_sameR hin (tc := 0) (n := 6180) (g := 63) rfl (by omega) (by decide +kernel) (by decide +kernel) l9 (by omega)
  · show 3 * (6200 - i).toNat + 1 < 3 * (6200 - i).toNat + 2
    omega
theorem rxg209_1_0 {X : (Nat → Int → Int) → Prop} {S0 : Nat → Int → Int} {ws : List Int} (hP : rxP209 S0 ws) : bx_obC rxL X S0 rxC209.2.2.1 (rxI209 S0 ws) (rxm209 S0 ws) 1 rxz209_1 rxo209_1_0 := by
  intro S S_p r r_p hinv hX hin hsm_ hseg
  obtain ⟨I0, I1, h0_, hr_, b_, f_, d_⟩ := bx_cl (evs := [(0, (0, 482), (9, 0), .inr (0, (12, 0)))]) (fvs := [(5, (11, 0), (10, 0), (9, 0)), (4, (10, 0), (8, 0), (0, 6180))]) hseg (by decide +kernel) (by decide +kernel)
  have hinv : rxI209_1 S0 ws S (r 8) (r 9) := hinv
  rw [← hr_ 8 (by decide), ← hr_ 9 (by decide)] at hinv
  obtain ⟨⟨l8, u8⟩, ⟨l9, u9⟩, ⟨l10, u10⟩, ⟨l11, u11⟩, ⟨l12, u12⟩, -⟩ := b_
  obtain ⟨f0, f1, -⟩ := f_
  obtain ⟨e0, w_⟩ := d_
  subst w_
  have g := rxc209_1_0 hP hin I0 hinv l8 u8 l9 u9 l10 u10 l11 u11 l12 u12 f0 f1 e0
  refine ⟨bx_narP_ok (l := []) g.1, bx_nfP_ok h0_ (fvs := []) (by decide +kernel) g.2.1, ?_, ?_⟩
  · show rxI209_2 S0 ws S_p (bx_val [(0, 0), (0, 0), (0, 0), (0, 0), (0, 0), (0, 0), (0, 0), (0, 0), (8, 0), (9, 0), (11, 0), (12, 0)] r_p 8) (bx_val [(0, 0), (0, 0), (0, 0), (0, 0), (0, 0), (0, 0), (0, 0), (0, 0), (8, 0), (9, 0), (11, 0), (12, 0)] r_p 9) (bx_val [(0, 0), (0, 0), (0, 0), (0, 0), (0, 0), (0, 0), (0, 0), (0, 0), (8, 0), (9, 0), (11, 0), (12, 0)] r_p 10) (bx_val [(0, 0), (0, 0), (0, 0), (0, 0), (0, 0), (0, 0), (0, 0), (0, 0), (8, 0), (9, 0), (11, 0), (12, 0)] r_p 11)
    rw [bx_val_x (n := 8) (e := (8, 0)) h0_ rfl, bx_val_x (n := 9) (e := (9, 0)) h0_ rfl, bx_val_x (n := 10) (e := (11, 0)) h0_ rfl, bx_val_x (n := 11) (e := (12, 0)) h0_ rfl]
    exact g.2.2.1
  · show rxm209_2 S0 ws S_p (bx_val [(0, 0), (0, 0), (0, 0), (0, 0), (0, 0), (0, 0), (0, 0), (0, 0), (8, 0), (9, 0), (11, 0), (12, 0)] r_p 8) (bx_val [(0, 0), (0, 0), (0, 0), (0, 0), (0, 0), (0, 0), (0, 0), (0, 0), (8, 0), (9, 0), (11, 0), (12, 0)] r_p 9) (bx_val [(0, 0), (0, 0), (0, 0), (0, 0), (0, 0), (0, 0), (0, 0), (0, 0), (8, 0), (9, 0), (11, 0), (12, 0)] r_p 10) (bx_val [(0, 0), (0, 0), (0, 0), (0, 0), (0, 0), (0, 0), (0, 0), (0, 0), (8, 0), (9, 0), (11, 0), (12, 0)] r_p 11) < rxm209_1 S0 ws S_p (r 8) (r 9)
    rw [bx_val_x (n := 8) (e := (8, 0)) h0_ rfl, bx_val_x (n := 9) (e := (9, 0)) h0_ rfl, bx_val_x (n := 10) (e := (11, 0)) h0_ rfl, bx_val_x (n := 11) (e := (12, 0)) h0_ rfl, ← hr_ 8 (by decide), ← hr_ 9 (by decide)]
    exact g.2.2.2
theorem rxd209_1_0 {S0 : Nat → Int → Int} {ws : List Int} {S : Nat → Int → Int} {k i : Int} (hP : rxP209 S0 ws) (hin : bx_same rxL (bx_mdl rxC209.2.2.1) S0 S) (hin2 : bx_same rxL (bx_mdl rxC209.2.2.1) S (bx_up (bx_up S 484 k 1) 480 1 0)) (I0 : bx_Inv rxL S) (I1 : bx_Inv rxL (bx_up (bx_up S 484 k 1) 480 1 0)) (hinv : rxI209_1 S0 ws S k i) (l8 : 0 ≤ k) (u8 : k ≤ 1) (l9 : 6180 ≤ i) (u9 : i ≤ 6180) : (True) ∧ rxPS209 S0 ws (bx_up (bx_up S 484 k 1) 480 1 0) (some 0) := by
  obtain ⟨h9, h1, h2, h3⟩ := hinv
  have hi : i = 6180 := by omega
  subst hi
  refine ⟨trivial, k, h1, Or.inl ⟨l8, u8, rfl, fun j h4 h5 => ?_, fun j h4 => ?_⟩, fun j j0 j1 => ?_⟩
  · rw [bx_up_row (by omega), bx_up_row (by omega)]
    exact h2 j h4 h5
  · rw [bx_up_row (by omega), bx_up_row (by omega)]
    exact h3 j h4
  · rw [bx_up_row (by omega)]
    by_cases hj : j = k
    · subst hj
      rw [if_pos rfl]
      exact bx_up_at
    · rw [bx_up_ne (by omega), if_neg hj]
      exact h9 j
theorem rxf209_1_0 {X : (Nat → Int → Int) → Prop} {S0 : Nat → Int → Int} {ws : List Int} (hP : rxP209 S0 ws) : bx_obE rxL X S0 rxC209.2.2.1 (rxI209 S0 ws) (rxPS209 S0 ws) 1 rxz209_1 rxe209_1_0 := by
  intro S S_p r r_p hinv hX hin hsm_ hseg
  obtain ⟨I0, I1, h0_, hr_, b_, f_, d_⟩ := bx_cl (evs := [(1, (0, 480), (0, 1), .inr (0, (0, 0))), (1, (0, 484), (8, 0), .inr (0, (0, 1)))]) (fvs := []) hseg (by decide +kernel) (by decide +kernel)
  have hinv : rxI209_1 S0 ws S (r 8) (r 9) := hinv
  rw [← hr_ 8 (by decide), ← hr_ 9 (by decide)] at hinv
  obtain ⟨⟨l8, u8⟩, ⟨l9, u9⟩, -⟩ := b_
  obtain ⟨T0, ⟨T1, w_, w1⟩, w0⟩ := d_
  subst w0
  subst w1
  subst w_
  have g := rxd209_1_0 hP hin hsm_ I0 I1 hinv l8 u8 l9 u9
  refine ⟨bx_narP_ok (l := []) g.1, ?_⟩
  show rxPS209 S0 ws (bx_up (bx_up T1 484 (r_p 8) (1)) 480 (1) (0)) (some (bx_num r_p (.inr (0, (0, 0)))))
  rw [bx_xv_ok h0_]
  exact g.2
theorem rxc209_3_0 {S0 : Nat → Int → Int} {ws : List Int} {S : Nat → Int → Int} {k i a v : Int} (hP : rxP209 S0 ws) (hin : bx_same rxL (bx_mdl rxC209.2.2.1) S0 S) (I0 : bx_Inv rxL S) (hinv : rxI209_3 S0 ws S k i a v) (l8 : 0 ≤ k) (u8 : k ≤ 1) (l9 : 0 ≤ i) (u9 : i ≤ 6179) (l10 : 0 ≤ a) (u10 : a ≤ 12359) (l11 : (-2147483648) ≤ v) (u11 : v ≤ 2147483647) : (True) ∧ (True) ∧ rxI209_1 S0 ws S k (i + 1) ∧ rxm209_1 S0 ws S k (i + 1) < rxm209_3 S0 ws S k i a v := by
  refine ⟨trivial, trivial, hinv, ?_⟩
  show 3 * (6200 - (i + 1)).toNat + 2 < 3 * (6200 - i).toNat
  omega
theorem rxg209_3_0 {X : (Nat → Int → Int) → Prop} {S0 : Nat → Int → Int} {ws : List Int} (hP : rxP209 S0 ws) : bx_obC rxL X S0 rxC209.2.2.1 (rxI209 S0 ws) (rxm209 S0 ws) 3 rxz209_3 rxo209_3_0 := by
  intro S S_p r r_p hinv hX hin hsm_ hseg
  obtain ⟨I0, I1, h0_, hr_, b_, f_, d_⟩ := bx_cl (evs := []) (fvs := []) hseg (by decide +kernel) (by decide +kernel)
  have hinv : rxI209_3 S0 ws S (r 8) (r 9) (r 10) (r 11) := hinv
  rw [← hr_ 8 (by decide), ← hr_ 9 (by decide), ← hr_ 10 (by decide), ← hr_ 11 (by decide)] at hinv
  obtain ⟨⟨l8, u8⟩, ⟨l9, u9⟩, ⟨l10, u10⟩, ⟨l11, u11⟩, -⟩ := b_
  have w_ := d_
  subst w_
  have g := rxc209_3_0 hP hin I0 hinv l8 u8 l9 u9 l10 u10 l11 u11
  refine ⟨bx_narP_ok (l := []) g.1, bx_nfP_ok h0_ (fvs := []) (by decide +kernel) g.2.1, ?_, ?_⟩
  · show rxI209_1 S0 ws S_p (bx_val [(0, 0), (0, 0), (0, 0), (0, 0), (0, 0), (0, 0), (0, 0), (0, 0), (8, 0), (9, 1)] r_p 8) (bx_val [(0, 0), (0, 0), (0, 0), (0, 0), (0, 0), (0, 0), (0, 0), (0, 0), (8, 0), (9, 1)] r_p 9)
    rw [bx_val_x (n := 8) (e := (8, 0)) h0_ rfl, bx_val_x (n := 9) (e := (9, 1)) h0_ rfl]
    exact g.2.2.1
  · show rxm209_1 S0 ws S_p (bx_val [(0, 0), (0, 0), (0, 0), (0, 0), (0, 0), (0, 0), (0, 0), (0, 0), (8, 0), (9, 1)] r_p 8) (bx_val [(0, 0), (0, 0), (0, 0), (0, 0), (0, 0), (0, 0), (0, 0), (0, 0), (8, 0), (9, 1)] r_p 9) < rxm209_3 S0 ws S_p (r 8) (r 9) (r 10) (r 11)
    rw [bx_val_x (n := 8) (e := (8, 0)) h0_ rfl, bx_val_x (n := 9) (e := (9, 1)) h0_ rfl, ← hr_ 8 (by decide), ← hr_ 9 (by decide), ← hr_ 10 (by decide), ← hr_ 11 (by decide)]
    exact g.2.2.2
theorem rxgC209 {X : (Nat → Int → Int) → Prop} {S0 : Nat → Int → Int} {ws : List Int} (hP : rxP209 S0 ws) : bx_allI (fun i q => rxU209 q = true ∨ bx_allP (fun o => bx_obC rxL X S0 rxC209.2.2.1 (rxI209 S0 ws) (rxm209 S0 ws) i q.1 o) q.2.1) 0 rxY209 := ⟨Or.inr ⟨rxg209_0_0 hP, trivial⟩, Or.inr ⟨rxg209_1_0 hP, trivial⟩, Or.inl rfl, Or.inr ⟨rxg209_3_0 hP, trivial⟩, trivial⟩
theorem rxgE209 {X : (Nat → Int → Int) → Prop} {S0 : Nat → Int → Int} {ws : List Int} (hP : rxP209 S0 ws) : bx_allI (fun i q => rxU209 q = true ∨ bx_allP (fun E => bx_obE rxL X S0 rxC209.2.2.1 (rxI209 S0 ws) (rxPS209 S0 ws) i q.1 E) q.2.2) 0 rxY209 := ⟨Or.inr ⟨rxf209_0_0 hP, rxf209_0_1 hP, trivial⟩, Or.inr ⟨rxf209_1_0 hP, trivial⟩, Or.inl rfl, Or.inr trivial, trivial⟩
theorem rxu209 {PX : State → Prop} {Dg : va_G} {A : Nat → Prop} {ad xa : Nat → Nat} {l : Launch} {X : (Nat → Int → Int) → Prop} (hPX : rx_PXOK rxNW A PX) (hX : ∀ S S1 : Nat → Int → Int, X S → bx_same rxL (bx_mdl rxC209.2.2.1) S S1 → X S1) {S0 : Nat → Int → Int} {ws : List Int} (hP : rxP209 S0 ws) : ∀ (i : Nat) (q : bx_HE), rxY209[i]? = some q → rxU209 q = true → ∀ {p : Program} {e : Env} {R : Room} {s : State} {m : MethodId} {args : Array Value} {below : List Frame} {meth : Method} {c : Code} {Q : State → Prop} {H0 : Heap}, rx_Fr rxG rxNW rxAO PX p s m args meth c rxM209 → (∀ q, H0.size ≤ q → A q) → H0 = s.heap → rxM209.2.2.2.2.2.2.1 ≤ R.cells → rxM209.2.2.2.2.2.2.2 ≤ R.slots → rxC209.2.2.2.1 ≤ R.frames → rxC209.2.2.2.1 * 40 ≤ R.locals → bx_Step p l e R s m args below meth c Q Dg rxL X vwCl A xa H0 ad rxM209 rxY209 (rxI209 S0 ws) (rxm209 S0 ws) S0 rxC209.2.2.1 i q := by
  intro i q hq hus p e R s m args below meth c Q H0 hF hA hH0 hmc hms hd hdl
  match i, hq with
  | 0, hq =>
    cases hq
    exact absurd (show false = true from hus) Bool.false_ne_true
  | 1, hq =>
    cases hq
    exact absurd (show false = true from hus) Bool.false_ne_true
  | 2, hq =>
    cases hq
    exact rx_stepS (i_p := 3) (pl := 483) (a := 10) (b := 11) (n := 12360) (g := 64) (lo := 0) (hi := 12359) (ty := (0, (-2147483648), 2147483647)) (t := []) hF (by decide +kernel) rfl rfl rfl rfl (by omega) (by omega) (by decide +kernel) rfl rfl (rxs209_2 hP hX)
  | 3, hq =>
    cases hq
    exact absurd (show false = true from hus) Bool.false_ne_true
  | n + 4, hq => cases hq
theorem rxQ209 {PX : State → Prop} {Dg : va_G} {A : Nat → Prop} {ad xa : Nat → Nat} {l : Launch} {X : (Nat → Int → Int) → Prop} (hPX : rx_PXOK rxNW A PX) (hsl : ∀ s : State, PX s → ∀ o idx n : Nat, rxSl o idx = some n → ∃ tx : String, vk_R (rxNm o) idx tx (ad n) s)
    (hX : ∀ S S_p : Nat → Int → Int, X S → bx_same rxL (bx_mdl rxC209.2.2.1) S S_p → X S_p)
    (ih : ∀ (j2 : Nat) (ct2 : bx_Ct) (M2 : rx_Mt), ct2 ∈ rxCnE j2 → ct2.2.2.2.1 + 1 ≤ rxC209.2.2.2.1 → rxT.2.2.2.2.2 j2 = some M2 → bx_Con rxG rxNW rxAO PX Dg rxL X vwCl A ad l M2 ct2) : bx_ConP rxG rxNW rxAO PX Dg rxL X vwCl A ad l rxM209 rxC209 rxP209 rxPS209 :=
  rxQof (xa := xa) (Cn := rxCnE) (f := 30000) (j := 209) (tab := rxY209) (us := rxU209) hPX hsl hX ih rfl rxYc209 rxI209 rxm209
    (fun S0 ws r I0 I ht0 ht as he he1 hX0 hI0 hP hs ha => by
      have e := he.symm.trans (show bx_ent0 rxNP rxC209.1 bx_I0 [] = some ([(0, 0), (0, 0), (0, 0), (0, 0), (0, 0), (0, 0), (0, 0), (0, 0), ((-2147483648), 2147483647)], [], [.inr (3, (0, 480)), .inr (0, (8, 0))]) from rfl)
      cases e
      subst ha
      have h0 : r 0 = 0 := hs.1
      show rxI209_0 S0 _ S0 (r 8)
      refine ⟨rfl, ?_⟩
      simp only [List.map_cons, List.map_nil, bx_xv_ok h0]
      rfl)
    (fun S0 ws hP => rxu209 (xa := xa) hPX hX hP) (fun S0 ws hP => rxgC209 hP) (fun S0 ws hP => rxgE209 hP)
end
