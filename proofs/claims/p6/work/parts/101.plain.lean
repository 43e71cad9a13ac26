/-! THE BOX MACHINE: a piece of a run in plain words, for contracts by hand -/
def bx_x (r : Nat → Int) (e : rx_E) : Int := match e with
  | (0, c) => c
  | (n + 1, .ofNat 0) => r (n + 1)
  | (n + 1, c) => r (n + 1) + c
theorem bx_x_ok {r : Nat → Int} (h : r 0 = 0) (e : rx_E) : rx_ev r e = bx_x r e := by
  obtain ⟨n, c⟩ := e
  match n, c with
  | 0, c =>
    show r 0 + c = c
    rw [h, Int.zero_add]
  | n + 1, .ofNat 0 => exact Int.add_zero _
  | n + 1, .ofNat (m + 1) => rfl
  | n + 1, .negSucc m => rfl
def bx_xv (r : Nat → Int) (v : rx_V) : Int := match v with
  | .inl _ => 0
  | .inr (_, e) => bx_x r e
theorem bx_xv_ok {r : Nat → Int} (h : r 0 = 0) (v : rx_V) : bx_num r v = bx_xv r v := by
  match v with
  | .inl _ => rfl
  | .inr (_, e) => exact bx_x_ok h e
def bx_xp (r : Nat → Int) (e : rx_E) : Nat := match e with
  | (0, c) => c.toNat
  | (n + 1, c) => (bx_x r (n + 1, c)).toNat
theorem bx_xp_ok {r : Nat → Int} (h : r 0 = 0) (e : rx_E) : (rx_ev r e).toNat = bx_xp r e := by
  rw [bx_x_ok h]
  obtain ⟨n, c⟩ := e
  match n with
  | 0 => rfl
  | n + 1 => rfl
abbrev bx_EV : Type := Nat × rx_E × rx_E × rx_V
def bx_ev1 (q : rx_C) : bx_EV := if bx_kd q = 2 then (2, ((bx_hc q).1, 0), ((bx_hc q).2, 0), .inl none) else (bx_kd q, bx_pe q, bx_ie q, q.2)
def bx_evs : List rx_C → List bx_EV
  | [] => []
  | q :: l => if bx_isE q = true then bx_ev1 q :: bx_evs l else bx_evs l
/-- what was read and written, the last first -/
def bx_den (L : bx_L) (r : Nat → Int) (S0 : Nat → Int → Int) : List bx_EV → (Nat → Int → Int) → Prop
  | [], S => S = S0
  | (0, p, ix, v) :: l, S => S (bx_xp r p) (bx_x r ix) = bx_xv r v ∧ bx_den L r S0 l S
  | (1, p, ix, v) :: l, S => ∃ S1 : Nat → Int → Int, bx_den L r S0 l S1 ∧ S = bx_up S1 (bx_xp r p) (bx_x r ix) (bx_xv r v)
  | (_ + 2, c, f, _) :: l, S => ∃ S1 : Nat → Int → Int, bx_den L r S0 l S1 ∧ ∀ (p i : Nat), p < L.2.1 → i < bx_wd (L.1 p) → bx_mc (L.1 p) i ≠ (c.1, f.1) → S p (i : Int) = S1 p (i : Int)
theorem bx_den_ok {L : bx_L} {N : Nat} {r : Nat → Int} {S0 : Nat → Int → Int} (h : r 0 = 0) : ∀ {ht : List rx_C} {S : Nat → Int → Int}, bx_chain L N r S0 ht S → bx_den L r S0 (bx_evs ht) S
  | [], _, hc => hc
  | q :: l, S, hc => by
    unfold bx_evs
    rcases bx_chain_cases hc with ⟨h1, h2⟩ | ⟨h1, h2⟩
    · rw [if_neg h1]
      exact bx_den_ok h h2
    · rw [if_pos h1]
      obtain ⟨-, h3⟩ := h2
      unfold bx_ev1
      split at h3
      · rename_i h4
        rw [if_neg (by omega), h4]
        obtain ⟨h5, h6⟩ := h3
        rw [bx_xp_ok h, bx_x_ok h, bx_xv_ok h] at h5
        exact ⟨h5, bx_den_ok h h6⟩
      · split at h3
        · rename_i h4
          rw [if_neg (by omega), h4]
          obtain ⟨S1, h5, h6⟩ := h3
          rw [bx_xp_ok h, bx_x_ok h, bx_xv_ok h] at h6
          exact ⟨S1, bx_den_ok h h5, h6⟩
        · rename_i h4 h5
          have h6 : bx_kd q = 2 := by
            have : bx_kd q < 3 := Nat.mod_lt _ (by omega)
            omega
          rw [if_pos h6]
          obtain ⟨S1, h7, h8⟩ := h3
          exact ⟨S1, bx_den_ok h h7, h8⟩
def bx_bds (r : Nat → Int) : Nat → rx_I → Prop
  | _, [] => True
  | n, q :: l => (q.1 ≤ r n ∧ r n ≤ q.2) ∧ bx_bds r (n + 1) l
theorem bx_bds_ok {r : Nat → Int} : ∀ {l : rx_I} {n : Nat}, (∀ (k : Nat) (q : Int × Int), l[k]? = some q → q.1 ≤ r (n + k) ∧ r (n + k) ≤ q.2) → bx_bds r n l
  | [], _, _ => trivial
  | q :: l, n, h => ⟨h 0 q rfl, bx_bds_ok fun k q2 hk => by
    have := h (k + 1) q2 hk
    rw [show n + (k + 1) = n + 1 + k by omega] at this
    exact this⟩
theorem bx_bds_sat {r : Nat → Int} {I : rx_I} (h : rx_sat I r) : bx_bds r 8 (I.drop 8) := bx_bds_ok fun k q hk => by
  rw [List.getElem?_drop] at hk
  exact h.2.2 (8 + k) q.1 q.2 hk
/-- a fact, taken apart -/
abbrev bx_FV : Type := Nat × rx_E × rx_E × rx_E
def bx_fv1 (f : Nat × rx_E × rx_E) : bx_FV := if f.1 < 4 then (f.1, f.2.1, f.2.2, (0, 0)) else if f.1 < 1000000 then (4, f.2.1, f.2.2, (0, ((f.1 - 4 : Nat) : Int))) else (5, f.2.1, f.2.2, bx_de (f.1 / 1000000))
def bx_fvP (r : Nat → Int) (f : bx_FV) : Prop := match f with
  | (0, a, b, _) => bx_x r a < bx_x r b
  | (1, a, b, _) => bx_x r a ≤ bx_x r b
  | (2, a, b, _) => bx_x r a = bx_x r b
  | (3, a, b, _) => bx_x r a ≠ bx_x r b
  | (4, a, b, c) => bx_x r a = bx_x r c * bx_x r b
  | (_ + 5, a, b, c) => bx_x r a = bx_x r b + bx_x r c
theorem bx_fv1_ok {r : Nat → Int} {f : Nat × rx_E × rx_E} (h : r 0 = 0) : rx_fact r f ↔ bx_fvP r (bx_fv1 f) := by
  obtain ⟨k, a, b⟩ := f
  unfold bx_fv1 rx_fact
  dsimp only
  match k with
  | 0 => rw [if_pos (by omega), bx_x_ok h, bx_x_ok h]; exact Iff.rfl
  | 1 => rw [if_pos (by omega), bx_x_ok h, bx_x_ok h]; exact Iff.rfl
  | 2 => rw [if_pos (by omega), bx_x_ok h, bx_x_ok h]; exact Iff.rfl
  | 3 => rw [if_pos (by omega), bx_x_ok h, bx_x_ok h]; exact Iff.rfl
  | k + 4 =>
    rw [if_neg (by omega)]
    dsimp only
    by_cases hk : k < 999996
    · rw [if_pos hk, if_pos (by omega), bx_x_ok h, bx_x_ok h, show k + 4 - 4 = k by omega]
      exact Iff.rfl
    · rw [if_neg hk, if_neg (by omega), bx_x_ok h, bx_x_ok h, bx_x_ok h]
      exact Iff.rfl
def bx_fcl (r : Nat → Int) : List bx_FV → Prop
  | [] => True
  | f :: l => bx_fvP r f ∧ bx_fcl r l
theorem bx_fcl_ok {r : Nat → Int} (h : r 0 = 0) : ∀ {F : rx_F}, rx_facts F r → bx_fcl r (F.map bx_fv1)
  | [], _ => trivial
  | f :: F, hF => ⟨(bx_fv1_ok h).mp (hF f List.mem_cons_self), bx_fcl_ok h fun g hg => hF g (List.mem_cons_of_mem _ hg)⟩
def bx_qEV (a b : bx_EV) : Bool := Nat.beq a.1 b.1 && (Nat.beq a.2.1.1 b.2.1.1 && (decide (a.2.1.2 = b.2.1.2) && (Nat.beq a.2.2.1.1 b.2.2.1.1 && (decide (a.2.2.1.2 = b.2.2.1.2) && bx_qV a.2.2.2 b.2.2.2))))
theorem bx_qEV_ok (a b : bx_EV) (h : bx_qEV a b = true) : a = b := by
  obtain ⟨a1, ⟨a2, a3⟩, ⟨a4, a5⟩, a6⟩ := a
  obtain ⟨b1, ⟨b2, b3⟩, ⟨b4, b5⟩, b6⟩ := b
  have h : (Nat.beq a1 b1 && (Nat.beq a2 b2 && (decide (a3 = b3) && (Nat.beq a4 b4 && (decide (a5 = b5) && bx_qV a6 b6))))) = true := h
  simp only [Bool.and_eq_true, decide_eq_true_eq] at h
  obtain ⟨h1, h2, h3, h4, h5, h6⟩ := h
  rw [Nat.eq_of_beq_eq_true h1, Nat.eq_of_beq_eq_true h2, h3, Nat.eq_of_beq_eq_true h4, h5, bx_qV_ok h6]
theorem bx_cl {L : bx_L} {z : rx_Z} {I : rx_I} {F : rx_F} {ht : List rx_C} {S0 S : Nat → Int → Int} {r r_p : Nat → Int} {evs : List bx_EV} {fvs : List bx_FV} (h : bx_Seg L z I F ht S0 S r r_p) (h1 : bx_qL bx_qEV (bx_evs ht) evs = true) (h2 : F.map bx_fv1 = fvs) :
    bx_Inv L S0 ∧ bx_Inv L S ∧ r_p 0 = 0 ∧ (∀ n, n < z.1.length → r_p n = r n) ∧ bx_bds r_p 8 (I.drop 8) ∧ bx_fcl r_p fvs ∧ bx_den L r_p S0 evs S := by
  obtain ⟨a1, a2, -, a4, a5, a6, a7⟩ := h
  have h1 := bx_qL_ok bx_qEV_ok h1
  subst h1
  subst h2
  exact ⟨a1, a2, a5.1, a4, bx_bds_sat a5, bx_fcl_ok a5.1 a6, bx_den_ok a5.1 a7⟩
theorem bx_val_x {σ : List rx_E} {r : Nat → Int} {n : Nat} {e : rx_E} (h : r 0 = 0) (he : σ[n]? = some e) : bx_val σ r n = bx_x r e := by
  unfold bx_val
  rw [he]
  exact bx_x_ok h e
/-- what is by hand of bounds and facts -/
def bx_narP (r : Nat → Int) : List (Nat × Int × Int) → Prop
  | [] => True
  | b :: l => (b.2.1 ≤ r b.1 ∧ r b.1 ≤ b.2.2) ∧ bx_narP r l
theorem bx_narP_ok {r : Nat → Int} : ∀ {l : List (Nat × Int × Int)}, bx_narP r l → ∀ b ∈ l, b.2.1 ≤ r b.1 ∧ r b.1 ≤ b.2.2
  | [], _, b, hb => absurd hb List.not_mem_nil
  | b :: l, h, q, hq => by
    rcases List.mem_cons.mp hq with h1 | h1
    · subst h1
      exact h.1
    · exact bx_narP_ok h.2 q h1
theorem bx_nfP_ok {r : Nat → Int} (h0 : r 0 = 0) {F : rx_F} {fvs : List bx_FV} (h : F.map bx_fv1 = fvs) (hf : bx_fcl r fvs) : ∀ f ∈ F, rx_fact r f := by
  subst h
  induction F with
  | nil => exact fun f hf => absurd hf List.not_mem_nil
  | cons a t ih =>
    intro f hfm
    rcases List.mem_cons.mp hfm with h1 | h1
    · subst h1
      exact (bx_fv1_ok h0).mpr hf.1
    · exact ih hf.2 f h1
def bx_allP {α : Type} (P : α → Prop) : List α → Prop
  | [] => True
  | a :: l => P a ∧ bx_allP P l
def bx_allI {α : Type} (P : Nat → α → Prop) : Nat → List α → Prop
  | _, [] => True
  | i, a :: l => P i a ∧ bx_allI P (i + 1) l
theorem bx_allP_ok {α : Type} {P : α → Prop} : ∀ {l : List α}, bx_allP P l → ∀ a ∈ l, P a
  | [], _, a, h => absurd h List.not_mem_nil
  | b :: l, h, a, hm => by
    rcases List.mem_cons.mp hm with h1 | h1
    · subst h1
      exact h.1
    · exact bx_allP_ok h.2 a h1
theorem bx_allI_ok {α : Type} {P : Nat → α → Prop} : ∀ {l : List α} {k i : Nat} {a : α}, bx_allI P k l → l[i]? = some a → P (k + i) a
  | [], _, _, _, _, h => by cases h
  | b :: l, k, 0, a, h, hm => by
    cases hm
    exact h.1
  | b :: l, k, i + 1, a, h, hm => by
    have := bx_allI_ok (l := l) (k := k + 1) (i := i) (a := a) h.2 hm
    rw [show k + 1 + i = k + (i + 1) by omega] at this
    exact this
