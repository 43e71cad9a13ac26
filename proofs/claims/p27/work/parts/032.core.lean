section
noncomputable abbrev rx_E : Type := Nat × Int
noncomputable abbrev rx_V : Type := Option Nat ⊕ (Nat × rx_E)
noncomputable abbrev rx_I : Type := List (Int × Int)
noncomputable abbrev rx_F : Type := List (Nat × rx_E × rx_E)
noncomputable abbrev rx_C : Type := (rx_E × Nat) × rx_V
noncomputable def rx_ev (r : Nat → Int) (e : rx_E) : Int := r e.1 + e.2
noncomputable def bx_en (e : rx_E) : Nat := e.1 + 65536 * (e.2 + 9223372036854775808).toNat
noncomputable def bx_de (n : Nat) : rx_E := (n % 65536, ((n / 65536 : Nat) : Int) - 9223372036854775808)
noncomputable def rx_iv (r : Nat → Int) (ad xa : Nat → Nat) (v : rx_V) : Value := match v with
  | .inl none => .null
  | .inl (some k) => .ref (ad k)
  | .inr (0, e) => .int (Int32.ofInt (rx_ev r e))
  | .inr (1, e) => .long (Int64.ofInt (rx_ev r e))
  | .inr (2, e) => .ref (xa e.2.toNat)
  | .inr (_ + 3, e) => .ref (ad (rx_ev r e).toNat)
noncomputable def rx_sc (N M : Nat) (v : rx_V) : Prop := match v with
  | .inl none => True
  | .inl (some _) => False
  | .inr (_, e) => e.1 < N
noncomputable def rx_lk : List (Nat × rx_V) → Nat → Option rx_V
  | [], _ => none
  | q :: l, i => if q.1 = i then some q.2 else rx_lk l i
theorem rx_lk_mem : ∀ {l : List (Nat × rx_V)} {i : Nat} {v : rx_V}, rx_lk l i = some v → (i, v) ∈ l
  | [], _, _, h => by cases h
  | q :: l, i, v, h => by
    rw [rx_lk] at h
    split at h
    · rename_i e
      cases h
      subst e
      exact List.mem_cons_self
    · exact List.mem_cons_of_mem _ (rx_lk_mem h)
noncomputable def rx_sat (I : rx_I) (r : Nat → Int) : Prop := r 0 = 0 ∧ 8 ≤ I.length ∧ ∀ (n : Nat) (lo hi : Int), I[n]? = some (lo, hi) → lo ≤ r n ∧ r n ≤ hi
theorem rx_pos {I : rx_I} {r : Nat → Int} (h : rx_sat I r) : 0 < I.length := Nat.lt_of_lt_of_le (Nat.le_of_ble_eq_true rfl) h.2.1
noncomputable def rx_fact (r : Nat → Int) (f : Nat × rx_E × rx_E) : Prop := match f.1 with
  | 0 => rx_ev r f.2.1 < rx_ev r f.2.2
  | 1 => rx_ev r f.2.1 ≤ rx_ev r f.2.2
  | 2 => rx_ev r f.2.1 = rx_ev r f.2.2
  | 3 => rx_ev r f.2.1 ≠ rx_ev r f.2.2
  | k + 4 => if k < 999996 then rx_ev r f.2.1 = (k : Int) * rx_ev r f.2.2 else rx_ev r f.2.1 = rx_ev r f.2.2 + rx_ev r (bx_de ((k + 4) / 1000000))
noncomputable def rx_fsc (N : Nat) (F : rx_F) : Prop := ∀ f ∈ F, f.2.1.1 < N ∧ f.2.2.1 < N ∧ (1000000 ≤ f.1 → (bx_de (f.1 / 1000000)).1 < N)
noncomputable def rx_facts (F : rx_F) (r : Nat → Int) : Prop := ∀ f ∈ F, rx_fact r f
noncomputable def rx_same (N : Nat) (r r_p : Nat → Int) : Prop := ∀ n, n < N → r_p n = r n
noncomputable def rx_sameA (_ : Nat) (a a_p : Nat → Nat) : Prop := a_p = a
noncomputable abbrev rx_cont : Type := (Nat → Int32) ⊕ (Nat → Int64) ⊕ (Nat → UInt32) ⊕ (Nat → UInt64) ⊕ (Nat → Option Nat)
noncomputable def rx_el (c : rx_cont) (j : Nat) : Value := match c with
  | .inl f => .int (f j)
  | .inr (.inl f) => .long (f j)
  | .inr (.inr (.inl f)) => .float (f j)
  | .inr (.inr (.inr (.inl f))) => .double (f j)
  | .inr (.inr (.inr (.inr f))) => va_rf (f j)
noncomputable def rx_sh (tc : Nat) (c : rx_cont) : Prop := match tc with
  | 0 => ∃ f, c = .inl f
  | 1 => ∃ f, c = .inl f
  | 2 => ∃ f, c = .inr (.inl f)
  | 3 => ∃ f, c = .inl f
  | 4 => ∃ f, c = .inl f
  | _ + 5 => ∃ f, c = .inr (.inr (.inr (.inr f)))
noncomputable def rx_ty (cl : List vw_C) (tc : Nat) : FieldType := match tc with
  | 0 => .int
  | 1 => .boolean
  | 2 => .long
  | 3 => .byte
  | 4 => .char
  | n + 5 => .object ((cl[n]?).elim "" (fun q => q.1))
noncomputable abbrev bx_K : Type := (Nat × List Nat) ⊕ (Nat × Nat × Nat)
noncomputable abbrev bx_T : Type := Nat × Int × Int
noncomputable abbrev bx_L : Type := (Nat → bx_K) × Nat × (Nat → Int → bx_T) × (Nat → Int → Bool)
noncomputable abbrev bx_D : Type := va_G × bx_L × (Nat → Int → Int) × (Nat → Nat → Bool)
noncomputable def bx_okT (L : bx_L) (t : bx_T) (v : Int) : Prop := match t.1 with
  | 0 => t.2.1 ≤ v ∧ v ≤ t.2.2
  | 1 => v = t.2.1
  | _ => L.2.2.2 t.2.1.toNat v = true
noncomputable def bx_wd (k : bx_K) : Nat := match k with
  | .inl (_, fs) => fs.length
  | .inr (_, n, _) => n
noncomputable def bx_tcs (k : bx_K) (j : Nat) : Option Nat := match k with
  | .inl (_, fs) => fs[j]?
  | .inr (tc, n, _) => if j < n then some tc else none
noncomputable def bx_s63 (j : Nat) : Nat := if j < 780 then (if j < 10 then 2 + j else if j < 22 then 12 else if j < 238 then 13 else if j < 262 then 14 else if j < 298 then 15 else if j < 730 then 16 else if j < 742 then 17 else 18) else 1
noncomputable def bx_sk (g j : Nat) : Nat := if g = 63 then bx_s63 j else if j < 780 then 0 else 1
noncomputable def bx_sgs : List (Int × Int × Nat) := [(0, 0, 2), (1, 1, 3), (2, 2, 4), (3, 3, 5), (4, 4, 6), (5, 5, 7), (6, 6, 8), (7, 7, 9), (8, 8, 10), (9, 9, 11), (10, 21, 12), (22, 237, 13), (238, 261, 14), (262, 297, 15), (298, 729, 16), (730, 741, 17), (742, 779, 18)]
noncomputable def bx_mc (k : bx_K) (j : Nat) : Nat × Nat := match k with
  | .inl (ci, _) => (ci, j)
  | .inr (_, _, g) => (1000 + g, bx_sk g j)
noncomputable def bx_mdr (md : Nat → Nat → Bool) (g : Nat) (lo hi : Int) : Bool := (if g = 63 then bx_sgs.all (fun s => decide (hi < s.1) || (decide (s.2.1 < lo) || md (1000 + g) s.2.2)) else (decide (780 ≤ lo) || md (1000 + g) 0)) && (decide (hi < 780) || md (1000 + g) 1)
theorem bx_s63_in {j : Nat} (h : j < 780) : ∃ s ∈ bx_sgs, s.1 ≤ (j : Int) ∧ (j : Int) ≤ s.2.1 ∧ s.2.2 = bx_s63 j := by
  unfold bx_s63
  rw [if_pos h]
  by_cases h1 : j < 10
  · rw [if_pos h1]
    refine ⟨((j : Int), (j : Int), 2 + j), ?_, Int.le_refl _, Int.le_refl _, rfl⟩
    rcases (show j = 0 ∨ j = 1 ∨ j = 2 ∨ j = 3 ∨ j = 4 ∨ j = 5 ∨ j = 6 ∨ j = 7 ∨ j = 8 ∨ j = 9 by omega) with rfl | rfl | rfl | rfl | rfl | rfl | rfl | rfl | rfl | rfl <;> decide
  · rw [if_neg h1]
    by_cases h2 : j < 22
    · rw [if_pos h2]
      exact ⟨(10, 21, 12), by decide, by show (10 : Int) ≤ j; omega, by show (j : Int) ≤ 21; omega, rfl⟩
    · rw [if_neg h2]
      by_cases h3 : j < 238
      · rw [if_pos h3]
        exact ⟨(22, 237, 13), by decide, by show (22 : Int) ≤ j; omega, by show (j : Int) ≤ 237; omega, rfl⟩
      · rw [if_neg h3]
        by_cases h4 : j < 262
        · rw [if_pos h4]
          exact ⟨(238, 261, 14), by decide, by show (238 : Int) ≤ j; omega, by show (j : Int) ≤ 261; omega, rfl⟩
        · rw [if_neg h4]
          by_cases h5 : j < 298
          · rw [if_pos h5]
            exact ⟨(262, 297, 15), by decide, by show (262 : Int) ≤ j; omega, by show (j : Int) ≤ 297; omega, rfl⟩
          · rw [if_neg h5]
            by_cases h6 : j < 730
            · rw [if_pos h6]
              exact ⟨(298, 729, 16), by decide, by show (298 : Int) ≤ j; omega, by show (j : Int) ≤ 729; omega, rfl⟩
            · rw [if_neg h6]
              by_cases h7 : j < 742
              · rw [if_pos h7]
                exact ⟨(730, 741, 17), by decide, by show (730 : Int) ≤ j; omega, by show (j : Int) ≤ 741; omega, rfl⟩
              · rw [if_neg h7]
                exact ⟨(742, 779, 18), by decide, by show (742 : Int) ≤ j; omega, by show (j : Int) ≤ 779; omega, rfl⟩
theorem bx_mdr_ok {md : Nat → Nat → Bool} {g : Nat} {lo hi : Int} {j : Nat} (h : bx_mdr md g lo hi = true) (h1 : lo ≤ (j : Int)) (h2 : (j : Int) ≤ hi) : md (1000 + g) (bx_sk g j) = true := by
  unfold bx_mdr at h
  rw [Bool.and_eq_true, Bool.or_eq_true, decide_eq_true_eq] at h
  obtain ⟨h3, h4⟩ := h
  unfold bx_sk
  by_cases hg : g = 63
  · rw [if_pos hg]
    rw [if_pos hg] at h3
    by_cases hj : j < 780
    · obtain ⟨s, s1, s2, s3, s4⟩ := bx_s63_in hj
      have := List.all_eq_true.mp h3 s s1
      rw [Bool.or_eq_true, Bool.or_eq_true, decide_eq_true_eq, decide_eq_true_eq, s4] at this
      rcases this with k | k | k
      · omega
      · omega
      · exact k
    · unfold bx_s63
      rw [if_neg hj]
      rcases h4 with k | k
      · omega
      · exact k
  · rw [if_neg hg]
    rw [if_neg hg, Bool.or_eq_true, decide_eq_true_eq] at h3
    split
    · rcases h3 with k | k
      · omega
      · exact k
    · rcases h4 with k | k
      · omega
      · exact k
theorem bx_tcs_wd {k : bx_K} {j tc : Nat} (h : bx_tcs k j = some tc) : j < bx_wd k := by
  match k, h with
  | .inl (_, fs), h => exact (List.getElem?_eq_some_iff.mp (show fs[j]? = some tc from h)).1
  | .inr (tc0, n, _), h =>
    have h : (if j < n then some tc0 else none) = some tc := h
    split at h
    · assumption
    · cases h
noncomputable def bx_Inv (L : bx_L) (S : Nat → Int → Int) : Prop := ∀ (p : Nat) (j : Nat), p < L.2.1 → j < bx_wd (L.1 p) → bx_okT L (L.2.2.1 p (j : Int)) (S p (j : Int))
noncomputable def bx_fv (ad : Nat → Nat) (tc : Nat) (v : Int) : Value := match tc with
  | 0 => .int (Int32.ofInt v)
  | 1 => .int (Int32.ofInt v)
  | 2 => .long (Int64.ofInt v)
  | _ => .ref (ad v.toNat)
noncomputable def bx_cell (cl : List vw_C) (tys : List (ClassId × FieldType)) (ad : Nat → Nat) (k : bx_K) (S : Int → Int) (e : va_E) : Prop := match k with
  | .inl (ci, tcs) => ∃ vs : List Value, e = .inr (ci, vs) ∧ vs.length = tcs.length ∧ ∀ (i tc : Nat), tcs[i]? = some tc → vs[i]? = some (bx_fv ad tc (S (i : Int)))
  | .inr (tc, n, _) => ∃ (cA : ClassId) (t0 : Nat) (c : rx_cont), e = .inl (cA, n, c) ∧ tys[t0]? = some (cA, rx_ty cl tc) ∧ rx_sh tc c ∧ ∀ j : Nat, j < n → rx_el c j = bx_fv ad tc (S (j : Int))
noncomputable def bx_kn (L : bx_L) (ad xa : Nat → Nat) (S : Nat → Int → Int) (r : Nat → Int) (q : rx_C) : Prop :=
  if 1000000 ≤ q.1.2 then L.2.2.2 (q.1.2 - 1000000) (rx_ev r q.1.1) = true
  else 0 ≤ rx_ev r q.1.1 ∧ (rx_ev r q.1.1).toNat < L.2.1 ∧ ∃ tc : Nat, bx_tcs (L.1 (rx_ev r q.1.1).toNat) q.1.2 = some tc ∧ rx_iv r ad xa q.2 = bx_fv ad tc (S (rx_ev r q.1.1).toNat (q.1.2 : Int))
noncomputable def bx_same (L : bx_L) (md : Nat → Nat → Bool) (S0 S : Nat → Int → Int) : Prop := ∀ (p i : Nat), p < L.2.1 → i < bx_wd (L.1 p) → md (bx_mc (L.1 p) i).1 (bx_mc (L.1 p) i).2 = false → S p (i : Int) = S0 p (i : Int)
noncomputable def bx_num (r : Nat → Int) (v : rx_V) : Int := match v with
  | .inl _ => 0
  | .inr (_, e) => rx_ev r e
noncomputable def bx_up (S : Nat → Int → Int) (p : Nat) (j v : Int) : Nat → Int → Int := fun p_p j_p => if p_p = p ∧ j_p = j then v else S p_p j_p
noncomputable def bx_isE (q : rx_C) : Bool := Nat.ble 3000000 q.1.2
noncomputable def bx_kd (q : rx_C) : Nat := q.1.2 / 3000000 % 3
noncomputable def bx_pe (q : rx_C) : rx_E := bx_de (q.1.2 / 9000000 % 340282366920938463463374607431768211456)
noncomputable def bx_ie (q : rx_C) : rx_E := bx_de (q.1.2 / 9000000 / 340282366920938463463374607431768211456)
noncomputable def bx_hc (q : rx_C) : Nat × Nat := (q.1.2 / 900000000000, q.1.2 / 9000000 % 100000)
noncomputable def bx_evt (L : bx_L) (N : Nat) (r : Nat → Int) (P : (Nat → Int → Int) → Prop) (q : rx_C) (S : Nat → Int → Int) : Prop :=
  (rx_sc N 0 q.2 ∧ (bx_kd q < 2 → (bx_pe q).1 < N ∧ (bx_ie q).1 < N)) ∧ (
    if bx_kd q = 0 then S (rx_ev r (bx_pe q)).toNat (rx_ev r (bx_ie q)) = bx_num r q.2 ∧ P S
    else if bx_kd q = 1 then ∃ S1 : Nat → Int → Int, P S1 ∧ S = bx_up S1 (rx_ev r (bx_pe q)).toNat (rx_ev r (bx_ie q)) (bx_num r q.2)
    else ∃ S1 : Nat → Int → Int, P S1 ∧ ∀ (p i : Nat), p < L.2.1 → i < bx_wd (L.1 p) → bx_mc (L.1 p) i ≠ bx_hc q → S p (i : Int) = S1 p (i : Int))
noncomputable def bx_chain (L : bx_L) (N : Nat) (r : Nat → Int) (S0 : Nat → Int → Int) : List rx_C → (Nat → Int → Int) → Prop
  | [] => fun S => S = S0
  | q :: l => fun S => if bx_isE q = true then bx_evt L N r (bx_chain L N r S0 l) q S else bx_chain L N r S0 l S
noncomputable def bx_lg (md : Nat → Nat → Bool) : Bool := md 999999 0
noncomputable def bx_W0 (D : bx_D) (cl : List vw_C) (A : Nat → Prop) (s : State) (ad : Nat → Nat) (S : Nat → Int → Int) (H : Heap) : Prop :=
  ∃ (ws : va_W) (tys : List (ClassId × FieldType)), bx_Inv D.2.1 S ∧ va_K D.1 cl tys s ∧ va_P D.1 cl ws H ∧ va_D A ws ∧ ws.length = D.2.1.2.1 ∧ ∀ p : Nat, p < D.2.1.2.1 → ∃ e : va_E, ws[p]? = some (ad p, e) ∧ bx_cell cl tys ad (D.2.1.1 p) (S p) e
noncomputable def bx_kns (D : bx_D) (ad xa : Nat → Nat) (S : Nat → Int → Int) (N : Nat) (ht : List rx_C) (r : Nat → Int) : Prop := ∀ q ∈ ht, q.1.1.1 < N ∧ rx_sc N 0 q.2 ∧ bx_kn D.2.1 ad xa S r q
noncomputable def rx_W (D : bx_D) (cl : List vw_C) (A : Nat → Prop) (s : State) (xa : Nat → Nat) (N : Nat) (ht : List rx_C) (r : Nat → Int) (ad : Nat → Nat) (H0 H : Heap) (locs : List Loc) : Prop :=
  ∃ S : Nat → Int → Int, bx_W0 D cl A s ad S H ∧ va_S A H0 H locs ∧ (bx_same D.2.1 D.2.2.2 D.2.2.1 S ∧ (bx_lg D.2.2.2 = true → bx_chain D.2.1 N r D.2.2.1 ht S)) ∧ bx_kns D ad xa S N ht r
-- what stays when symbols and cells come
theorem rx_same.rf {N : Nat} {r : Nat → Int} : rx_same N r r := fun _ _ => rfl
theorem rx_sameA.rf {N : Nat} {r : Nat → Nat} : rx_sameA N r r := rfl
theorem rx_same.tr {N N_p : Nat} {r r_p r2 : Nat → Int} (h : rx_same N r r_p) (h2 : rx_same N_p r_p r2) (hN : N ≤ N_p) : rx_same N r r2 := fun n hn => (h2 n (Nat.lt_of_lt_of_le hn hN)).trans (h n hn)
theorem rx_sameA.tr {N N_p : Nat} {r r_p r2 : Nat → Nat} (h : rx_sameA N r r_p) (h2 : rx_sameA N_p r_p r2) (_ : True) : rx_sameA N r r2 := Eq.trans (b := r_p) h2 h
theorem rx_iv_ext {N M : Nat} {r r_p : Nat → Int} {ad ad_p xa : Nat → Nat} {v : rx_V} (h : rx_sc N M v) (hr : rx_same N r r_p) (ha : rx_sameA M ad ad_p) : rx_iv r_p ad_p xa v = rx_iv r ad xa v := by
  match v, h with
  | .inl none, _ => rfl
  | .inl (some k), h => exact h.elim
  | .inr (0, e), h =>
    show Value.int (Int32.ofInt (r_p e.1 + e.2)) = Value.int (Int32.ofInt (r e.1 + e.2))
    rw [hr e.1 h]
  | .inr (1, e), h =>
    show Value.long (Int64.ofInt (r_p e.1 + e.2)) = Value.long (Int64.ofInt (r e.1 + e.2))
    rw [hr e.1 h]
  | .inr (2, e), _ => rfl
  | .inr (_ + 3, e), h =>
    have ha2 : ad_p = ad := ha
    subst ha2
    show Value.ref (ad_p (r_p e.1 + e.2).toNat) = Value.ref (ad_p (r e.1 + e.2).toNat)
    rw [hr e.1 h]
theorem rx_sc.mono {N M N_p M_p : Nat} {v : rx_V} (h : rx_sc N M v) (hN : N ≤ N_p) (_ : True) : rx_sc N_p M_p v := by
  match v, h with
  | .inl none, _ => exact trivial
  | .inl (some k), h => exact h.elim
  | .inr (_, e), h => exact Nat.lt_of_lt_of_le h hN
theorem rx_fact_ext {N : Nat} {r r_p : Nat → Int} {f : Nat × rx_E × rx_E} (h : rx_fact r f) (h1 : f.2.1.1 < N) (h2 : f.2.2.1 < N) (h3 : 1000000 ≤ f.1 → (bx_de (f.1 / 1000000)).1 < N) (hr : rx_same N r r_p) : rx_fact r_p f := by
  obtain ⟨k, a, b⟩ := f
  have e1 : rx_ev r_p a = rx_ev r a := by unfold rx_ev; rw [hr _ h1]
  have e2 : rx_ev r_p b = rx_ev r b := by unfold rx_ev; rw [hr _ h2]
  match k, h, h3 with
  | 0, h, _ => show rx_ev r_p a < rx_ev r_p b; rw [e1, e2]; exact h
  | 1, h, _ => show rx_ev r_p a ≤ rx_ev r_p b; rw [e1, e2]; exact h
  | 2, h, _ => show rx_ev r_p a = rx_ev r_p b; rw [e1, e2]; exact h
  | 3, h, _ => show rx_ev r_p a ≠ rx_ev r_p b; rw [e1, e2]; exact h
  | k + 4, h, h3 =>
    have h : if k < 999996 then rx_ev r a = (k : Int) * rx_ev r b else rx_ev r a = rx_ev r b + rx_ev r (bx_de ((k + 4) / 1000000)) := h
    show if k < 999996 then rx_ev r_p a = (k : Int) * rx_ev r_p b else rx_ev r_p a = rx_ev r_p b + rx_ev r_p (bx_de ((k + 4) / 1000000))
    rw [e1, e2]
    split
    · rename_i hk
      rw [if_pos hk] at h
      exact h
    · rename_i hk
      rw [if_neg hk] at h
      have h3 := h3 (by show 1000000 ≤ k + 4; omega)
      have h3 : (bx_de ((k + 4) / 1000000)).1 < N := h3
      rw [show rx_ev r_p (bx_de ((k + 4) / 1000000)) = rx_ev r (bx_de ((k + 4) / 1000000)) by unfold rx_ev; rw [hr _ h3]]
      exact h
theorem rx_facts_ext {N : Nat} {r r_p : Nat → Int} {F : rx_F} (h : rx_facts F r) (hs : rx_fsc N F) (hr : rx_same N r r_p) : rx_facts F r_p := fun f hf => rx_fact_ext (h f hf) (hs f hf).1 (hs f hf).2.1 (hs f hf).2.2 hr
theorem rx_ev_ext {N : Nat} {r r_p : Nat → Int} {e : rx_E} (h : e.1 < N) (hr : rx_same N r r_p) : rx_ev r_p e = rx_ev r e := by
  unfold rx_ev
  rw [hr _ h]
theorem bx_kn_ext {L : bx_L} {ad xa : Nat → Nat} {S : Nat → Int → Int} {N : Nat} {r r_p : Nat → Int} {q : rx_C} (h : bx_kn L ad xa S r q) (h1 : q.1.1.1 < N) (h2 : rx_sc N 0 q.2) (hr : rx_same N r r_p) : bx_kn L ad xa S r_p q := by
  unfold bx_kn at h ⊢
  rw [rx_ev_ext h1 hr, rx_iv_ext (ad_p := ad) h2 hr rx_sameA.rf]
  exact h
theorem bx_kns.ext {D : bx_D} {ad xa : Nat → Nat} {S : Nat → Int → Int} {N N_p : Nat} {ht : List rx_C} {r r_p : Nat → Int} (h : bx_kns D ad xa S N ht r) (hN : N ≤ N_p) (hr : rx_same N r r_p) : bx_kns D ad xa S N_p ht r_p := fun q hq => by
  obtain ⟨h1, h2, h3⟩ := h q hq
  exact ⟨Nat.lt_of_lt_of_le h1 hN, rx_sc.mono h2 hN trivial, bx_kn_ext h3 h1 h2 hr⟩
theorem bx_num_ext {N M : Nat} {r r_p : Nat → Int} {v : rx_V} (h : rx_sc N M v) (hr : rx_same N r r_p) : bx_num r_p v = bx_num r v := by
  match v, h with
  | .inl _, _ => rfl
  | .inr (_, e), h => exact rx_ev_ext h hr
theorem bx_evt.ext {L : bx_L} {N N_p : Nat} {r r_p : Nat → Int} {P P_p : (Nat → Int → Int) → Prop} {q : rx_C} {S : Nat → Int → Int} (hN : N ≤ N_p) (hr : rx_same N r r_p) (hP : ∀ S, P S → P_p S) (h : bx_evt L N r P q S) : bx_evt L N_p r_p P_p q S := by
  obtain ⟨⟨h1, h2⟩, h4⟩ := h
  refine ⟨⟨rx_sc.mono h1 hN trivial, fun g => ⟨Nat.lt_of_lt_of_le (h2 g).1 hN, Nat.lt_of_lt_of_le (h2 g).2 hN⟩⟩, ?_⟩
  by_cases k0 : bx_kd q = 0
  · have g : bx_kd q < 2 := by omega
    rw [if_pos k0] at h4 ⊢
    rw [bx_num_ext h1 hr, rx_ev_ext (h2 g).1 hr, rx_ev_ext (h2 g).2 hr]
    exact ⟨h4.1, hP _ h4.2⟩
  · rw [if_neg k0] at h4 ⊢
    by_cases k1 : bx_kd q = 1
    · have g : bx_kd q < 2 := by omega
      rw [if_pos k1] at h4 ⊢
      rw [bx_num_ext h1 hr, rx_ev_ext (h2 g).1 hr, rx_ev_ext (h2 g).2 hr]
      obtain ⟨S1, g1, g2⟩ := h4
      exact ⟨S1, hP _ g1, g2⟩
    · rw [if_neg k1] at h4 ⊢
      obtain ⟨S1, g1, g2⟩ := h4
      exact ⟨S1, hP _ g1, g2⟩
theorem bx_chain_skip {L : bx_L} {N : Nat} {r : Nat → Int} {S0 S : Nat → Int → Int} {q : rx_C} {l : List rx_C} (hq : ¬ bx_isE q = true) (h : bx_chain L N r S0 l S) : bx_chain L N r S0 (q :: l) S := by
  show if bx_isE q = true then _ else bx_chain L N r S0 l S
  rw [if_neg hq]
  exact h
theorem bx_chain_evt {L : bx_L} {N : Nat} {r : Nat → Int} {S0 S : Nat → Int → Int} {q : rx_C} {l : List rx_C} (hq : bx_isE q = true) (h : bx_evt L N r (bx_chain L N r S0 l) q S) : bx_chain L N r S0 (q :: l) S := by
  show if bx_isE q = true then bx_evt L N r (bx_chain L N r S0 l) q S else _
  rw [if_pos hq]
  exact h
theorem bx_chain_cases {L : bx_L} {N : Nat} {r : Nat → Int} {S0 S : Nat → Int → Int} {q : rx_C} {l : List rx_C} (h : bx_chain L N r S0 (q :: l) S) : (¬ bx_isE q = true ∧ bx_chain L N r S0 l S) ∨ (bx_isE q = true ∧ bx_evt L N r (bx_chain L N r S0 l) q S) := by
  have h : if bx_isE q = true then bx_evt L N r (bx_chain L N r S0 l) q S else bx_chain L N r S0 l S := h
  by_cases hq : bx_isE q = true
  · rw [if_pos hq] at h
    exact Or.inr ⟨hq, h⟩
  · rw [if_neg hq] at h
    exact Or.inl ⟨hq, h⟩
theorem bx_chain.ext {L : bx_L} {N N_p : Nat} {r r_p : Nat → Int} {S0 : Nat → Int → Int} (hN : N ≤ N_p) (hr : rx_same N r r_p) : ∀ {l : List rx_C} {S : Nat → Int → Int}, bx_chain L N r S0 l S → bx_chain L N_p r_p S0 l S
  | [], _, h => h
  | q :: l, S, h => by
    rcases bx_chain_cases h with ⟨h1, h2⟩ | ⟨h1, h2⟩
    · exact bx_chain_skip h1 (bx_chain.ext hN hr h2)
    · exact bx_chain_evt h1 (h2.ext hN hr fun S => bx_chain.ext hN hr)
theorem bx_chain_filter {L : bx_L} {N : Nat} {r : Nat → Int} {S0 : Nat → Int → Int} {g : rx_C → Bool} (hg : ∀ q : rx_C, bx_isE q = true → g q = true) : ∀ {l : List rx_C} {S : Nat → Int → Int}, bx_chain L N r S0 l S → bx_chain L N r S0 (l.filter g) S
  | [], _, h => h
  | q :: l, S, h => by
    rw [List.filter_cons]
    rcases bx_chain_cases h with ⟨h1, h2⟩ | ⟨h1, h2⟩
    · split
      · exact bx_chain_skip h1 (bx_chain_filter hg h2)
      · exact bx_chain_filter hg h2
    · rw [if_pos (hg q h1)]
      exact bx_chain_evt h1 (h2.ext (Nat.le_refl _) rx_same.rf fun S => bx_chain_filter hg)
theorem rx_W.ext {D : bx_D} {cl : List vw_C} {A : Nat → Prop} {s : State} {xa : Nat → Nat} {N N_p M : Nat} {ht : List rx_C} {r r_p : Nat → Int} {ad ad_p : Nat → Nat} {H0 H : Heap} {locs : List Loc} (h : rx_W D cl A s xa N ht r ad H0 H locs) (hN : N ≤ N_p) (hr : rx_same N r r_p) (ha : rx_sameA M ad ad_p) : rx_W D cl A s xa N_p ht r_p ad_p H0 H locs := by
  have ha2 : ad_p = ad := ha
  subst ha2
  obtain ⟨S, h1, h2, ⟨h3, h5⟩, h4⟩ := h
  exact ⟨S, h1, h2, ⟨h3, fun hl => (h5 hl).ext hN hr⟩, h4.ext hN hr⟩
noncomputable def rx_up (r : Nat → Int) (n : Nat) (z : Int) : Nat → Int := fun j => if j = n then z else r j
theorem rx_up_self {r : Nat → Int} {n : Nat} {z : Int} : rx_up r n z n = z := by simp [rx_up]
theorem rx_up_same {r : Nat → Int} {n : Nat} {z : Int} : rx_same n r (rx_up r n z) := fun j hj => by
  unfold rx_up
  rw [if_neg (Nat.ne_of_lt hj)]
theorem rx_sat_up {I : rx_I} {r : Nat → Int} {z lo hi : Int} (h : rx_sat I r) (h1 : lo ≤ z) (h2 : z ≤ hi) : rx_sat (I ++ [(lo, hi)]) (rx_up r I.length z) := by
  refine ⟨(rx_up_same 0 (rx_pos h)).trans h.1, by rw [List.length_append]; exact Nat.le_trans h.2.1 (Nat.le_add_right _ _), ?_⟩
  intro n a b hn
  by_cases hl : n < I.length
  · rw [List.getElem?_append_left hl] at hn
    rw [rx_up_same n hl]
    exact h.2.2 n a b hn
  · rw [List.getElem?_append_right (Nat.not_lt.mp hl)] at hn
    have hz : n - I.length < 1 := (List.getElem?_eq_some_iff.mp hn).1
    have e : n = I.length := by omega
    subst e
    rw [Nat.sub_self] at hn
    cases hn
    rw [rx_up_self]
    exact ⟨h1, h2⟩
-- numbers
theorem rx_i32 {z : Int} (h1 : -2147483648 ≤ z) (h2 : z ≤ 2147483647) : (Int32.ofInt z).toInt = z := Int32.toInt_ofInt_of_le (by omega) (by omega)
theorem rx_i64 {z : Int} (h1 : -9223372036854775808 ≤ z) (h2 : z ≤ 9223372036854775807) : (Int64.ofInt z).toInt = z := Int64.toInt_ofInt_of_le (by omega) (by omega)
theorem rx_b32 (x : Int32) : -2147483648 ≤ x.toInt ∧ x.toInt ≤ 2147483647 := by
  have h1 := x.toInt_lt
  have h2 := x.le_toInt
  omega
theorem rx_b64 (x : Int64) : -9223372036854775808 ≤ x.toInt ∧ x.toInt ≤ 9223372036854775807 := by
  have h1 := x.toInt_lt
  have h2 := x.le_toInt
  omega
-- bounds of a number
noncomputable def rx_bd (I : rx_I) (e : rx_E) : Option (Int × Int) := match I[e.1]? with
  | some (lo, hi) => some (lo + e.2, hi + e.2)
  | none => none
theorem rx_bd_ok {I : rx_I} {e : rx_E} {lo hi : Int} {r : Nat → Int} (h : rx_sat I r) (hb : rx_bd I e = some (lo, hi)) : lo ≤ rx_ev r e ∧ rx_ev r e ≤ hi ∧ e.1 < I.length := by
  unfold rx_bd at hb
  split at hb
  · rename_i a b he
    cases hb
    have := h.2.2 _ _ _ he
    unfold rx_ev
    refine ⟨by omega, by omega, (List.getElem?_eq_some_iff.mp he).1⟩
  · cases hb
noncomputable def rx_bi (I : rx_I) (e : rx_E) : Option (Int × Int) := match rx_bd I e with
  | some (lo, hi) => if -2147483648 ≤ lo ∧ hi ≤ 2147483647 then some (lo, hi) else none
  | none => none
theorem rx_bi_ok {I : rx_I} {e : rx_E} {lo hi : Int} {r : Nat → Int} (h : rx_sat I r) (hb : rx_bi I e = some (lo, hi)) : lo ≤ rx_ev r e ∧ rx_ev r e ≤ hi ∧ (Int32.ofInt (rx_ev r e)).toInt = rx_ev r e ∧ e.1 < I.length := by
  unfold rx_bi at hb
  split at hb
  · rename_i a b he
    split at hb
    · rename_i hc
      cases hb
      obtain ⟨h1, h2, h3⟩ := rx_bd_ok h he
      exact ⟨h1, h2, rx_i32 (by omega) (by omega), h3⟩
    · cases hb
  · cases hb
noncomputable def rx_bl (I : rx_I) (e : rx_E) : Option (Int × Int) := match rx_bd I e with
  | some (lo, hi) => if -9223372036854775808 ≤ lo ∧ hi ≤ 9223372036854775807 then some (lo, hi) else none
  | none => none
theorem rx_bl_ok {I : rx_I} {e : rx_E} {lo hi : Int} {r : Nat → Int} (h : rx_sat I r) (hb : rx_bl I e = some (lo, hi)) : lo ≤ rx_ev r e ∧ rx_ev r e ≤ hi ∧ (Int64.ofInt (rx_ev r e)).toInt = rx_ev r e ∧ e.1 < I.length := by
  unfold rx_bl at hb
  split at hb
  · rename_i a b he
    split at hb
    · rename_i hc
      cases hb
      obtain ⟨h1, h2, h3⟩ := rx_bd_ok h he
      exact ⟨h1, h2, rx_i64 (by omega) (by omega), h3⟩
    · cases hb
  · cases hb
-- what is learnt of a symbol
noncomputable def rx_cap (I : rx_I) (n : Nat) (a b : Int) : rx_I := match I[n]? with
  | some (lo, hi) => I.set n (if a ≤ lo then lo else a, if hi ≤ b then hi else b)
  | none => I
theorem rx_cap_len {I : rx_I} {n : Nat} {a b : Int} : (rx_cap I n a b).length = I.length := by
  unfold rx_cap
  split <;> simp
theorem rx_cap_ok {I : rx_I} {n : Nat} {a b : Int} {r : Nat → Int} (h : rx_sat I r) (h1 : a ≤ r n) (h2 : r n ≤ b) : rx_sat (rx_cap I n a b) r := by
  unfold rx_cap
  split
  · rename_i lo hi he
    refine ⟨h.1, by rw [List.length_set]; exact h.2.1, ?_⟩
    intro j x y hj
    by_cases hjn : j = n
    · subst hjn
      rw [List.getElem?_set_self (List.getElem?_eq_some_iff.mp he).1] at hj
      cases hj
      have := h.2.2 _ _ _ he
      refine ⟨?_, ?_⟩
      · split <;> omega
      · split <;> omega
    · rw [List.getElem?_set_ne (Ne.symm hjn)] at hj
      exact h.2.2 j x y hj
  · exact h
noncomputable def rx_can (I : rx_I) (n : Nat) : Bool := match I[n]? with
  | some (lo, hi) => decide (lo ≤ hi)
  | none => true
theorem rx_can_ok {I : rx_I} {n : Nat} {r : Nat → Int} (h : rx_sat I r) : rx_can I n = true := by
  unfold rx_can
  split
  · rename_i lo hi he
    have := h.2.2 _ _ _ he
    exact decide_eq_true (by omega)
  · rfl
noncomputable def rx_no (c : Nat) (a b : rx_E) (f : Nat × rx_E × rx_E) : Bool :=
  -- f: x < y or x ≤ y or x = y with x over b's symbol, y over a's: then b - x.2 .. : is a < b (0), a ≤ b (1), a = b (2) out
  if f.2.1.1 == b.1 && f.2.2.1 == a.1 then
    match f.1, c with
    | 0, 0 => decide (b.2 - f.2.1.2 ≤ a.2 - f.2.2.2 + 1)
    | 0, 1 => decide (b.2 - f.2.1.2 ≤ a.2 - f.2.2.2)
    | 0, 2 => decide (b.2 - f.2.1.2 ≤ a.2 - f.2.2.2)
    | 1, 0 => decide (b.2 - f.2.1.2 ≤ a.2 - f.2.2.2)
    | 1, 1 => decide (b.2 - f.2.1.2 < a.2 - f.2.2.2)
    | 1, 2 => decide (b.2 - f.2.1.2 < a.2 - f.2.2.2)
    | 2, 0 => decide (b.2 - f.2.1.2 ≤ a.2 - f.2.2.2)
    | 2, 1 => decide (b.2 - f.2.1.2 < a.2 - f.2.2.2)
    | 2, 2 => decide (¬ b.2 - f.2.1.2 = a.2 - f.2.2.2)
    | 2, 3 => decide (b.2 - f.2.1.2 = a.2 - f.2.2.2)
    | 3, 2 => decide (b.2 - f.2.1.2 = a.2 - f.2.2.2)
    | _, _ => false
  else false
theorem rx_no_ok {c : Nat} {a b : rx_E} {f : Nat × rx_E × rx_E} {r : Nat → Int} (hc : c ≤ 3) (hf : rx_fact r f) (hn : rx_fact r (c, a, b)) : rx_no c a b f = false := by
  obtain ⟨k, ⟨xn, xc⟩, ⟨yn, yc⟩⟩ := f
  obtain ⟨an, ac⟩ := a
  obtain ⟨bn, bc⟩ := b
  unfold rx_no
  split
  · rename_i he
    simp only [Bool.and_eq_true, beq_iff_eq] at he
    obtain ⟨e1, e2⟩ := he
    subst e1; subst e2
    rcases (show c = 0 ∨ c = 1 ∨ c = 2 ∨ c = 3 by omega) with rfl | rfl | rfl | rfl <;> rcases (show k = 0 ∨ k = 1 ∨ k = 2 ∨ k = 3 ∨ 4 ≤ k by omega) with rfl | rfl | rfl | rfl | hk <;> first
      | rfl
      | (obtain ⟨j, rfl⟩ := Nat.exists_eq_add_of_le hk
         rw [Nat.add_comm]
         rfl)
      | (first
          | have g1 : r xn + xc < r yn + yc := hf
          | have g1 : r xn + xc ≤ r yn + yc := hf
          | have g1 : r xn + xc = r yn + yc := hf
          | have g1 : r xn + xc ≠ r yn + yc := hf
         first
          | have g2 : r yn + ac < r xn + bc := hn
          | have g2 : r yn + ac ≤ r xn + bc := hn
          | have g2 : r yn + ac = r xn + bc := hn
          | have g2 : r yn + ac ≠ r xn + bc := hn
         exact decide_eq_false (by dsimp only; omega))
  · rfl
noncomputable def rx_rel (c : Nat) (x y : Int) : Bool := match c with
  | 0 => decide (x < y)
  | 1 => decide (x ≤ y)
  | 2 => decide (x = y)
  | _ => decide (¬ x = y)
noncomputable def rx_asmI (I : rx_I) (c : Nat) (a b : rx_E) (al ah bl bh : Int) : rx_I := match c with
  | 0 => rx_cap (rx_cap I a.1 (al - a.2) (bh - 1 - a.2)) b.1 (al + 1 - b.2) (bh - b.2)
  | 1 => rx_cap (rx_cap I a.1 (al - a.2) (bh - a.2)) b.1 (al - b.2) (bh - b.2)
  | 2 => rx_cap (rx_cap I a.1 (bl - a.2) (bh - a.2)) b.1 (al - b.2) (ah - b.2)
  | _ => if bl = bh then (if al = bl then rx_cap I a.1 (al + 1 - a.2) (ah - a.2) else if ah = bl then rx_cap I a.1 (al - a.2) (ah - 1 - a.2) else I)
    else if al = ah then (if bl = al then rx_cap I b.1 (bl + 1 - b.2) (bh - b.2) else if bh = al then rx_cap I b.1 (bl - b.2) (bh - 1 - b.2) else I) else I
noncomputable def rx_prop (I : rx_I) (f : Nat × rx_E × rx_E) : rx_I := match rx_bd I f.2.1, rx_bd I f.2.2 with
  | some (al, ah), some (bl, bh) => if f.1 ≤ 3 then rx_asmI I f.1 f.2.1 f.2.2 al ah bl bh else I
  | _, _ => I
noncomputable def rx_asm2 (I : rx_I) (F : rx_F) (c : Nat) (a b : rx_E) : Option (rx_I × rx_F) :=
  if rx_can I a.1 && rx_can I b.1 then some (I, if c = 3 ∨ (¬ a.1 = 0 ∧ ¬ b.1 = 0) then (c, a, b) :: F else F) else none
noncomputable def rx_asm (I : rx_I) (F : rx_F) (c : Nat) (a b : rx_E) (al ah bl bh : Int) : Option (rx_I × rx_F) :=
  if a.1 = b.1 then (if rx_rel c a.2 b.2 then some (I, F) else none)
  else if F.any (rx_no c a b) || ((c == 2 || c == 3) && F.any (rx_no c b a)) then none
  else rx_asm2 (F.foldl rx_prop (rx_asmI I c a b al ah bl bh)) F c a b
theorem rx_asmI_ok {I : rx_I} {c : Nat} {a b : rx_E} {al ah bl bh : Int} {r : Nat → Int} (hc : c ≤ 3) (h : rx_sat I r) (h1 : al ≤ rx_ev r a ∧ rx_ev r a ≤ ah) (h2 : bl ≤ rx_ev r b ∧ rx_ev r b ≤ bh) (hf : rx_fact r (c, a, b)) : rx_sat (rx_asmI I c a b al ah bl bh) r ∧ (rx_asmI I c a b al ah bl bh).length = I.length := by
  obtain ⟨an, ac⟩ := a
  obtain ⟨bn, bc⟩ := b
  have e1 : al ≤ r an + ac ∧ r an + ac ≤ ah := h1
  have e2 : bl ≤ r bn + bc ∧ r bn + bc ≤ bh := h2
  rcases (show c = 0 ∨ c = 1 ∨ c = 2 ∨ c = 3 by omega) with rfl | rfl | rfl | rfl
  · have g : r an + ac < r bn + bc := hf
    exact ⟨rx_cap_ok (rx_cap_ok h (by dsimp only; omega) (by dsimp only; omega)) (by dsimp only; omega) (by dsimp only; omega), rx_cap_len.trans rx_cap_len⟩
  · have g : r an + ac ≤ r bn + bc := hf
    exact ⟨rx_cap_ok (rx_cap_ok h (by dsimp only; omega) (by dsimp only; omega)) (by dsimp only; omega) (by dsimp only; omega), rx_cap_len.trans rx_cap_len⟩
  · have g : r an + ac = r bn + bc := hf
    exact ⟨rx_cap_ok (rx_cap_ok h (by dsimp only; omega) (by dsimp only; omega)) (by dsimp only; omega) (by dsimp only; omega), rx_cap_len.trans rx_cap_len⟩
  · have g : r an + ac ≠ r bn + bc := hf
    show rx_sat (if bl = bh then _ else _) r ∧ (if bl = bh then _ else _ : rx_I).length = I.length
    split
    · split
      · exact ⟨rx_cap_ok h (by dsimp only; omega) (by dsimp only; omega), rx_cap_len⟩
      · split
        · exact ⟨rx_cap_ok h (by dsimp only; omega) (by dsimp only; omega), rx_cap_len⟩
        · exact ⟨h, rfl⟩
    · split
      · split
        · exact ⟨rx_cap_ok h (by dsimp only; omega) (by dsimp only; omega), rx_cap_len⟩
        · split
          · exact ⟨rx_cap_ok h (by dsimp only; omega) (by dsimp only; omega), rx_cap_len⟩
          · exact ⟨h, rfl⟩
      · exact ⟨h, rfl⟩
theorem rx_prop_ok {I : rx_I} {f : Nat × rx_E × rx_E} {r : Nat → Int} (h : rx_sat I r) (hf : rx_fact r f) : rx_sat (rx_prop I f) r ∧ (rx_prop I f).length = I.length := by
  unfold rx_prop
  split
  · rename_i al ah bl bh e1 e2
    split
    · rename_i hc
      have q1 := rx_bd_ok h e1
      have q2 := rx_bd_ok h e2
      exact rx_asmI_ok hc h ⟨q1.1, q1.2.1⟩ ⟨q2.1, q2.2.1⟩ hf
    · exact ⟨h, rfl⟩
  · exact ⟨h, rfl⟩
theorem rx_prop_all {r : Nat → Int} : ∀ (F : rx_F) {I : rx_I}, rx_sat I r → rx_facts F r → rx_sat (F.foldl rx_prop I) r ∧ (F.foldl rx_prop I).length = I.length
  | [], _, h, _ => ⟨h, rfl⟩
  | f :: F, I, h, hF => by
    obtain ⟨h1, h2⟩ := rx_prop_ok (f := f) h (hF f List.mem_cons_self)
    obtain ⟨h3, h4⟩ := rx_prop_all F h1 (fun g hg => hF g (List.mem_cons_of_mem _ hg))
    exact ⟨h3, h4.trans h2⟩
noncomputable def rx_nm (I : rx_I) (e : rx_E) : rx_E := match I[e.1]? with
  | some (lo, hi) => if lo = hi then (0, lo + e.2) else e
  | none => e
theorem rx_nm_ok {I : rx_I} {e : rx_E} {r : Nat → Int} (h : rx_sat I r) : rx_ev r (rx_nm I e) = rx_ev r e ∧ (e.1 < I.length → (rx_nm I e).1 < I.length) := by
  unfold rx_nm
  split
  · rename_i lo hi he
    split
    · rename_i hc
      have := h.2.2 _ _ _ he
      refine ⟨?_, fun _ => rx_pos h⟩
      unfold rx_ev
      dsimp only
      rw [h.1]
      omega
    · exact ⟨rfl, id⟩
  · exact ⟨rfl, id⟩
theorem rx_rel_ok {c : Nat} {a b : rx_E} {r : Nat → Int} (hc : c ≤ 3) (hab : a.1 = b.1) (hf : rx_fact r (c, a, b)) : rx_rel c a.2 b.2 = true := by
  obtain ⟨an, ac⟩ := a
  obtain ⟨bn, bc⟩ := b
  have e : an = bn := hab
  subst e
  rcases (show c = 0 ∨ c = 1 ∨ c = 2 ∨ c = 3 by omega) with rfl | rfl | rfl | rfl
  · have g : r an + ac < r an + bc := hf
    exact decide_eq_true (by dsimp only; omega)
  · have g : r an + ac ≤ r an + bc := hf
    exact decide_eq_true (by dsimp only; omega)
  · have g : r an + ac = r an + bc := hf
    exact decide_eq_true (by dsimp only; omega)
  · have g : r an + ac ≠ r an + bc := hf
    exact decide_eq_true (by dsimp only; omega)
theorem rx_fact_sym {c : Nat} {a b : rx_E} {r : Nat → Int} (hc : c = 2 ∨ c = 3) (hf : rx_fact r (c, a, b)) : rx_fact r (c, b, a) := by
  rcases hc with rfl | rfl
  · exact Eq.symm (a := rx_ev r a) (b := rx_ev r b) hf
  · exact Ne.symm (a := rx_ev r a) (b := rx_ev r b) hf
theorem rx_asm_ok {I : rx_I} {F : rx_F} {c : Nat} {a b : rx_E} {al ah bl bh : Int} {r : Nat → Int} {N : Nat} (hc : c ≤ 3) (h : rx_sat I r) (hF : rx_facts F r) (hs : rx_fsc N F) (ha : a.1 < N) (hb : b.1 < N) (h1 : al ≤ rx_ev r a ∧ rx_ev r a ≤ ah) (h2 : bl ≤ rx_ev r b ∧ rx_ev r b ≤ bh) (hf : rx_fact r (c, a, b)) : ∃ (I2 : rx_I) (F2 : rx_F), rx_asm I F c a b al ah bl bh = some (I2, F2) ∧ rx_sat I2 r ∧ rx_facts F2 r ∧ rx_fsc N F2 ∧ I2.length = I.length := by
  unfold rx_asm
  split
  · rename_i hab
    rw [if_pos (rx_rel_ok hc hab hf)]
    exact ⟨I, F, rfl, h, hF, hs, rfl⟩
  · have hn : (F.any (rx_no c a b) || ((c == 2 || c == 3) && F.any (rx_no c b a))) = false := by
      rw [Bool.or_eq_false_iff]
      refine ⟨List.any_eq_false.mpr fun f hf2 => by rw [rx_no_ok hc (hF f hf2) hf]; exact Bool.false_ne_true, ?_⟩
      by_cases hcc : c = 2 ∨ c = 3
      · have : F.any (rx_no c b a) = false := List.any_eq_false.mpr fun f hf2 => by rw [rx_no_ok hc (hF f hf2) (rx_fact_sym hcc hf)]; exact Bool.false_ne_true
        rw [this, Bool.and_false]
      · have : (c == 2 || c == 3) = false := by
          rw [Bool.or_eq_false_iff]
          exact ⟨beq_false_of_ne fun q => hcc (Or.inl q), beq_false_of_ne fun q => hcc (Or.inr q)⟩
        rw [this, Bool.false_and]
    rw [hn]
    obtain ⟨g1, g2⟩ := rx_asmI_ok (I := I) hc h h1 h2 hf
    obtain ⟨k1, k2⟩ := rx_prop_all F g1 hF
    rw [if_neg Bool.false_ne_true]
    unfold rx_asm2
    rw [rx_can_ok k1, rx_can_ok k1]
    refine ⟨_, _, rfl, k1, ?_, ?_, k2.trans g2⟩
    · split
      · intro f hf2
        rcases List.mem_cons.mp hf2 with e | e
        · subst e; exact hf
        · exact hF f e
      · exact hF
    · split
      · intro f hf2
        rcases List.mem_cons.mp hf2 with e | e
        · subst e; exact ⟨ha, hb, fun q => absurd q (by show ¬ 1000000 ≤ c; omega)⟩
        · exact hs f e
      · exact hs
end
section
noncomputable def rx_op (o : Nat) (x y : Int32) : Int32 := match o with
  | 0 => x + y
  | 1 => x - y
  | 2 => x * y
  | 3 => x / y
  | 4 => x - x / y * y
  | 5 => x &&& y
  | 6 => x ||| y
  | 7 => x ^^^ y
  | 8 => x <<< (y &&& 31)
  | 9 => x >>> (y &&& 31)
  | _ => (x.toUInt32 >>> (y.toUInt32 &&& Int32.toUInt32 31)).toInt32
noncomputable def rx_opb (o : Nat) (al ah bl bh : Int) : Int × Int := match o with
  | 0 => if -2147483648 ≤ al + bl ∧ ah + bh ≤ 2147483647 then (al + bl, ah + bh) else (-2147483648, 2147483647)
  | 1 => if -2147483648 ≤ al - bh ∧ ah - bl ≤ 2147483647 then (al - bh, ah - bl) else (-2147483648, 2147483647)
  | 2 => if 0 ≤ al ∧ 0 ≤ bl ∧ ah * bh ≤ 2147483647 then (0, ah * bh)
    else if al < 0 ∧ 0 ≤ bl ∧ -2147483648 ≤ al * bh ∧ ah * bh ≤ 2147483647 then (al * bh, if 0 ≤ ah then ah * bh else 0)
    else if bl < 0 ∧ 0 ≤ al ∧ -2147483648 ≤ bl * ah ∧ bh * ah ≤ 2147483647 then (bl * ah, if 0 ≤ bh then bh * ah else 0)
    else (-2147483648, 2147483647)
  | 3 => if 0 ≤ al ∧ 0 < bl then (0, ah / bl) else (-2147483648, 2147483647)
  | 4 => if 0 < bl then (if 0 ≤ al then (0, bh - 1) else (1 - bh, bh - 1)) else (-2147483648, 2147483647)
  | 5 => if 0 ≤ bl then (0, if 0 ≤ al ∧ ah ≤ bh then ah else bh) else if 0 ≤ al then (0, ah) else (-2147483648, 2147483647)
  | 6 => if 0 ≤ al ∧ 0 ≤ bl then (0, ((2 ^ (Nat.log2 (if ah ≤ bh then bh else ah).toNat + 1) : Nat) : Int) - 1) else (-2147483648, 2147483647)
  | 7 => if 0 ≤ al ∧ 0 ≤ bl then (0, ((2 ^ (Nat.log2 (if ah ≤ bh then bh else ah).toNat + 1) : Nat) : Int) - 1) else (-2147483648, 2147483647)
  | 8 => if 0 ≤ al ∧ 0 ≤ bl ∧ bh ≤ 31 ∧ ah * ((2 ^ bh.toNat : Nat) : Int) ≤ 2147483647 then (al, ah * ((2 ^ bh.toNat : Nat) : Int)) else (-2147483648, 2147483647)
  | 9 => if 0 ≤ al then (0, ah) else (-2147483648, 2147483647)
  | _ => (-2147483648, 2147483647)
theorem rx_mulb0 {a b ah bh : Int} (h0 : 0 ≤ a) (h1 : a ≤ ah) (h2 : 0 ≤ b) (h3 : b ≤ bh) : 0 ≤ a * b ∧ a * b ≤ ah * bh :=
  ⟨Int.mul_nonneg h0 h2, Int.le_trans (Int.mul_le_mul_of_nonneg_right h1 h2) (Int.mul_le_mul_of_nonneg_left h3 (Int.le_trans h0 h1))⟩
theorem rx_bmod0 {z : Int} (h1 : -2147483648 ≤ z) (h2 : z ≤ 2147483647) : z.bmod (2 ^ 32) = z := by
  simp only [Int.bmod]
  split <;> omega
theorem rx_ofmsb {w : Int32} (h : w.toBitVec.msb = false) : w.toInt = (w.toBitVec.toNat : Int) := BitVec.toInt_eq_toNat_of_msb h
theorem rx_nn {x : Int32} (h : 0 ≤ x.toInt) : x.toBitVec.msb = false ∧ x.toInt = (x.toBitVec.toNat : Int) := by
  have h1 : x.toBitVec.msb = false := by
    rw [BitVec.msb_eq_toInt]
    exact decide_eq_false (Int.not_lt.mpr h)
  exact ⟨h1, rx_ofmsb h1⟩
theorem rx_andb {x y : Int32} (h : 0 ≤ x.toInt) : 0 ≤ (x &&& y).toInt ∧ (x &&& y).toInt ≤ x.toInt := by
  obtain ⟨h1, h2⟩ := rx_nn h
  have h3 : (x &&& y).toBitVec.msb = false := by
    rw [Int32.toBitVec_and, BitVec.msb_and, h1, Bool.false_and]
  rw [rx_ofmsb h3, h2, Int32.toBitVec_and, BitVec.toNat_and]
  exact ⟨Int.natCast_nonneg _, Int.ofNat_le.mpr Nat.and_le_left⟩
theorem rx_andb2 {x y : Int32} (h : 0 ≤ y.toInt) : 0 ≤ (x &&& y).toInt ∧ (x &&& y).toInt ≤ y.toInt := by
  obtain ⟨h1, h2⟩ := rx_nn h
  have h3 : (x &&& y).toBitVec.msb = false := by
    rw [Int32.toBitVec_and, BitVec.msb_and, h1, Bool.and_false]
  rw [rx_ofmsb h3, h2, Int32.toBitVec_and, BitVec.toNat_and]
  exact ⟨Int.natCast_nonneg _, Int.ofNat_le.mpr Nat.and_le_right⟩
theorem rx_orb {x y : Int32} {n : Nat} (hx : 0 ≤ x.toInt) (hy : 0 ≤ y.toInt) (h1 : x.toInt < ((2 ^ n : Nat) : Int)) (h2 : y.toInt < ((2 ^ n : Nat) : Int)) : (0 ≤ (x ||| y).toInt ∧ (x ||| y).toInt < ((2 ^ n : Nat) : Int)) ∧ 0 ≤ (x ^^^ y).toInt ∧ (x ^^^ y).toInt < ((2 ^ n : Nat) : Int) := by
  obtain ⟨a1, a2⟩ := rx_nn hx
  obtain ⟨b1, b2⟩ := rx_nn hy
  have h3 : (x ||| y).toBitVec.msb = false := by
    rw [Int32.toBitVec_or, BitVec.msb_or, a1, b1]
    rfl
  have h4 : (x ^^^ y).toBitVec.msb = false := by
    rw [Int32.toBitVec_xor, BitVec.msb_xor, a1, b1]
    rfl
  rw [a2] at h1
  rw [b2] at h2
  rw [rx_ofmsb h3, rx_ofmsb h4, Int32.toBitVec_or, Int32.toBitVec_xor, BitVec.toNat_or, BitVec.toNat_xor]
  exact ⟨⟨Int.natCast_nonneg _, Int.ofNat_lt.mpr (Nat.or_lt_two_pow (Int.ofNat_lt.mp h1) (Int.ofNat_lt.mp h2))⟩, Int.natCast_nonneg _, Int.ofNat_lt.mpr (Nat.xor_lt_two_pow (Int.ofNat_lt.mp h1) (Int.ofNat_lt.mp h2))⟩
theorem rx_log2 {x ah bh : Int} (h : x ≤ ah ∨ x ≤ bh) : x < ((2 ^ (Nat.log2 (if ah ≤ bh then bh else ah).toNat + 1) : Nat) : Int) := by
  have h1 : x ≤ ((if ah ≤ bh then bh else ah).toNat : Int) := by
    split <;> omega
  exact Int.lt_of_le_of_lt h1 (Int.ofNat_lt.mpr Nat.lt_log2_self)
theorem rx_shn : ∀ k : Nat, k < 32 → ((Int32.ofInt (k : Int) &&& 31).toBitVec.smod 32).toNat = k := by decide +kernel
theorem rx_shlb {x y : Int32} {al ah bh : Int} (h1 : 0 ≤ al) (h2 : al ≤ x.toInt) (h3 : x.toInt ≤ ah) (h4 : 0 ≤ y.toInt) (h5 : y.toInt ≤ bh) (h6 : bh ≤ 31) (h7 : ah * ((2 ^ bh.toNat : Nat) : Int) ≤ 2147483647) : al ≤ (x <<< (y &&& 31)).toInt ∧ (x <<< (y &&& 31)).toInt ≤ ah * ((2 ^ bh.toNat : Nat) : Int) := by
  obtain ⟨a1, a2⟩ := rx_nn (x := x) (by omega)
  have hk : y = Int32.ofInt ((y.toInt.toNat : Nat) : Int) := by
    rw [Int.toNat_of_nonneg h4, Int32.ofInt_toInt]
  have hn := rx_shn y.toInt.toNat (by omega)
  rw [← hk] at hn
  have e : (x <<< (y &&& 31)).toInt = (x.toInt * ((2 ^ y.toInt.toNat : Nat) : Int)).bmod (2 ^ 32) := by
    rw [← Int32.toInt_toBitVec, Int32.toBitVec_shiftLeft, BitVec.shiftLeft_eq', hn, BitVec.toInt_shiftLeft, Nat.shiftLeft_eq, Int.natCast_mul, a2]
  have hp : ((2 ^ y.toInt.toNat : Nat) : Int) ≤ ((2 ^ bh.toNat : Nat) : Int) := Int.ofNat_le.mpr (Nat.pow_le_pow_right (by decide) (by omega))
  have hp1 : (1 : Int) ≤ ((2 ^ y.toInt.toNat : Nat) : Int) := Int.ofNat_le.mpr Nat.one_le_two_pow
  obtain ⟨g1, g2⟩ := rx_mulb0 (a := x.toInt) (b := ((2 ^ y.toInt.toNat : Nat) : Int)) (by omega) h3 (by omega) hp
  have g3 : x.toInt ≤ x.toInt * ((2 ^ y.toInt.toNat : Nat) : Int) := by
    have := Int.mul_le_mul_of_nonneg_left hp1 (c := x.toInt) (by omega)
    rw [Int.mul_one] at this
    exact this
  rw [e, rx_bmod0 (by omega) (by omega)]
  exact ⟨by omega, g2⟩
theorem rx_shrb {x y : Int32} (h : 0 ≤ x.toInt) : 0 ≤ (x >>> (y &&& 31)).toInt ∧ (x >>> (y &&& 31)).toInt ≤ x.toInt := by
  rw [← Int32.toInt_toBitVec (x >>> (y &&& 31)), Int32.toBitVec_shiftRight]
  unfold BitVec.sshiftRight'
  rw [BitVec.toInt_sshiftRight, Int32.toInt_toBitVec, Int.shiftRight_eq_div_pow]
  exact ⟨Int.ediv_nonneg h (Int.natCast_nonneg _), Int.ediv_le_self _ h⟩
theorem rx_divb {x y ah bl : Int} (h1 : x ≤ ah) (h2 : 0 < bl) (h3 : bl ≤ y) (h0 : 0 ≤ ah) : x / y ≤ ah / bl := by
  refine Int.le_trans (Int.ediv_le_ediv (by omega) h1) (Int.le_ediv_of_mul_le h2 ?_)
  refine Int.le_trans (Int.mul_le_mul_of_nonneg_left h3 (Int.ediv_nonneg h0 (by omega))) (Int.ediv_mul_le ah (by omega))
theorem rx_mulb {a b ah bh : Int} (h0 : 0 ≤ a) (h1 : a ≤ ah) (h2 : 0 ≤ b) (h3 : b ≤ bh) : 0 ≤ a * b ∧ a * b ≤ ah * bh :=
  ⟨Int.mul_nonneg h0 h2, Int.le_trans (Int.mul_le_mul_of_nonneg_right h1 h2) (Int.mul_le_mul_of_nonneg_left h3 (Int.le_trans h0 h1))⟩
theorem rx_mulbn {x y al ah bh : Int} (h0 : al < 0) (h1 : al ≤ x) (h2 : x ≤ ah) (h3 : 0 ≤ y) (h4 : y ≤ bh) : al * bh ≤ x * y ∧ x * y ≤ (if 0 ≤ ah then ah * bh else 0) := by
  have e1 : al * y ≤ x * y := Int.mul_le_mul_of_nonneg_right h1 h3
  have e2 : al * bh ≤ al * y := Int.mul_le_mul_of_nonpos_left (by omega) h4
  have e3 : x * y ≤ ah * y := Int.mul_le_mul_of_nonneg_right h2 h3
  refine ⟨by omega, ?_⟩
  split
  · rename_i h
    exact Int.le_trans e3 (Int.mul_le_mul_of_nonneg_left h4 h)
  · have e4 : ah * y ≤ 0 := Int.mul_nonpos_of_nonpos_of_nonneg (by omega) h3
    omega
theorem rx_bmod {z : Int} (h1 : -2147483648 ≤ z) (h2 : z ≤ 2147483647) : z.bmod (2 ^ 32) = z := by
  simp only [Int.bmod]
  split <;> omega
theorem rx_opb_ok {o : Nat} {x y : Int32} {al ah bl bh : Int} (h1 : al ≤ x.toInt) (h2 : x.toInt ≤ ah) (h3 : bl ≤ y.toInt) (h4 : y.toInt ≤ bh) : (rx_opb o al ah bl bh).1 ≤ (rx_op o x y).toInt ∧ (rx_op o x y).toInt ≤ (rx_opb o al ah bl bh).2 := by
  have full : ∀ w : Int32, ((-2147483648, 2147483647) : Int × Int).1 ≤ w.toInt ∧ w.toInt ≤ ((-2147483648, 2147483647) : Int × Int).2 := fun w => rx_b32 w
  match o with
  | 0 =>
    show (if _ then _ else _ : Int × Int).1 ≤ (x + y).toInt ∧ (x + y).toInt ≤ (if _ then _ else _ : Int × Int).2
    split
    · rename_i h
      have e : (x + y).toInt = x.toInt + y.toInt := by
        rw [Int32.toInt_add]
        exact rx_bmod (by omega) (by omega)
      rw [e]
      exact ⟨by dsimp only; omega, by dsimp only; omega⟩
    · exact full _
  | 1 =>
    show (if _ then _ else _ : Int × Int).1 ≤ (x - y).toInt ∧ (x - y).toInt ≤ (if _ then _ else _ : Int × Int).2
    split
    · rename_i h
      have e : (x - y).toInt = x.toInt - y.toInt := by
        rw [Int32.toInt_sub]
        exact rx_bmod (by omega) (by omega)
      rw [e]
      exact ⟨by dsimp only; omega, by dsimp only; omega⟩
    · exact full _
  | 2 =>
    show (if _ then _ else if _ then _ else if _ then _ else _ : Int × Int).1 ≤ (x * y).toInt ∧ (x * y).toInt ≤ (if _ then _ else if _ then _ else if _ then _ else _ : Int × Int).2
    split
    · rename_i h
      obtain ⟨g1, g2⟩ := rx_mulb (a := x.toInt) (b := y.toInt) (by omega) h2 (by omega) h4
      have e : (x * y).toInt = x.toInt * y.toInt := by
        rw [Int32.toInt_mul]
        exact rx_bmod (by omega) (by omega)
      rw [e]
      exact ⟨g1, g2⟩
    · split
      · rename_i h
        obtain ⟨k1, k2, k3, k4⟩ := h
        obtain ⟨g1, g2⟩ := rx_mulbn (x := x.toInt) (y := y.toInt) k1 h1 h2 (by omega) h4
        have g3 : (if 0 ≤ ah then ah * bh else 0) ≤ 2147483647 := by split <;> omega
        have e : (x * y).toInt = x.toInt * y.toInt := by
          rw [Int32.toInt_mul]
          exact rx_bmod (by omega) (by omega)
        rw [e]
        exact ⟨g1, g2⟩
      · split
        · rename_i h
          obtain ⟨k1, k2, k3, k4⟩ := h
          obtain ⟨g1, g2⟩ := rx_mulbn (x := y.toInt) (y := x.toInt) k1 h3 h4 (by omega) h2
          have g3 : (if 0 ≤ bh then bh * ah else 0) ≤ 2147483647 := by split <;> omega
          rw [Int.mul_comm y.toInt] at g1 g2
          have e : (x * y).toInt = x.toInt * y.toInt := by
            rw [Int32.toInt_mul]
            exact rx_bmod (by omega) (by omega)
          rw [e]
          exact ⟨g1, g2⟩
        · exact full _
  | 3 =>
    show (if _ then _ else _ : Int × Int).1 ≤ (x / y).toInt ∧ (x / y).toInt ≤ (if _ then _ else _ : Int × Int).2
    split
    · rename_i h
      have e : (x / y).toInt = x.toInt.tdiv y.toInt := by
        rw [Int32.toInt_div]
        refine rx_bmod ?_ ?_
        · have := Int.tdiv_nonneg (a := x.toInt) (b := y.toInt) (by omega) (by omega)
          omega
        · have := Int.tdiv_le_self (a := x.toInt) y.toInt (by omega)
          have := rx_b32 x
          omega
      rw [e]
      have g1 := Int.tdiv_nonneg (a := x.toInt) (b := y.toInt) (by omega) (by omega)
      refine ⟨g1, ?_⟩
      rw [Int.tdiv_eq_ediv_of_nonneg (by omega)]
      exact rx_divb h2 h.2 h3 (by omega)
    · exact full _
  | 4 =>
    show (if _ then _ else _ : Int × Int).1 ≤ (x - x / y * y).toInt ∧ (x - x / y * y).toInt ≤ (if _ then _ else _ : Int × Int).2
    rw [rem_toInt]
    split
    · rename_i h
      obtain ⟨g1, g2⟩ := tmod_bounds (a := x.toInt) (M := y.toInt) (by omega)
      split
      · rename_i h5
        have g3 := Int.tmod_nonneg (a := x.toInt) y.toInt (by omega)
        exact ⟨by dsimp only; omega, by dsimp only; omega⟩
      · exact ⟨by dsimp only; omega, by dsimp only; omega⟩
    · have := full (x - x / y * y)
      rw [rem_toInt] at this
      exact this
  | 5 =>
    show (if _ then _ else _ : Int × Int).1 ≤ (x &&& y).toInt ∧ (x &&& y).toInt ≤ (if _ then _ else _ : Int × Int).2
    split
    · obtain ⟨g1, g2⟩ := rx_andb2 (x := x) (y := y) (by omega)
      refine ⟨g1, ?_⟩
      dsimp only
      split
      · obtain ⟨g3, g4⟩ := rx_andb (x := x) (y := y) (by omega)
        omega
      · omega
    · split
      · obtain ⟨g3, g4⟩ := rx_andb (x := x) (y := y) (by omega)
        exact ⟨g3, by dsimp only; omega⟩
      · exact full _
  | 6 =>
    show (if _ then _ else _ : Int × Int).1 ≤ (x ||| y).toInt ∧ (x ||| y).toInt ≤ (if _ then _ else _ : Int × Int).2
    split
    · obtain ⟨⟨g1, g2⟩, -⟩ := rx_orb (x := x) (y := y) (by omega) (by omega) (rx_log2 (ah := ah) (bh := bh) (Or.inl h2)) (rx_log2 (ah := ah) (bh := bh) (Or.inr h4))
      exact ⟨g1, Int.le_sub_one_of_lt g2⟩
    · exact full _
  | 7 =>
    show (if _ then _ else _ : Int × Int).1 ≤ (x ^^^ y).toInt ∧ (x ^^^ y).toInt ≤ (if _ then _ else _ : Int × Int).2
    split
    · obtain ⟨-, g1, g2⟩ := rx_orb (x := x) (y := y) (by omega) (by omega) (rx_log2 (ah := ah) (bh := bh) (Or.inl h2)) (rx_log2 (ah := ah) (bh := bh) (Or.inr h4))
      exact ⟨g1, Int.le_sub_one_of_lt g2⟩
    · exact full _
  | 8 =>
    show (if _ then _ else _ : Int × Int).1 ≤ (x <<< (y &&& 31)).toInt ∧ (x <<< (y &&& 31)).toInt ≤ (if _ then _ else _ : Int × Int).2
    split
    · rename_i h
      exact rx_shlb h.1 h1 h2 (by omega) h4 h.2.2.1 h.2.2.2
    · exact full _
  | 9 =>
    show (if _ then _ else _ : Int × Int).1 ≤ (x >>> (y &&& 31)).toInt ∧ (x >>> (y &&& 31)).toInt ≤ (if _ then _ else _ : Int × Int).2
    split
    · obtain ⟨g1, g2⟩ := rx_shrb (x := x) (y := y) (by omega)
      exact ⟨g1, by dsimp only; omega⟩
    · exact full _
  | n + 10 => exact full _
noncomputable def rx_lit (e : rx_E) : Bool := e.1 == 0
theorem rx_lit_ok {I : rx_I} {e : rx_E} {r : Nat → Int} (h : rx_lit e = true) (hs : rx_sat I r) : rx_ev r e = e.2 := by
  unfold rx_lit at h
  rw [beq_iff_eq] at h
  unfold rx_ev
  rw [h, hs.1]
  omega
theorem rx_ev0 {I : rx_I} {r : Nat → Int} (hs : rx_sat I r) (z : Int) : rx_ev r (0, z) = z := by
  unfold rx_ev
  rw [hs.1]
  omega
noncomputable def rx_bin1 (o : Nat) (I : rx_I) (a b : rx_E) : Option (rx_I × rx_E) :=
  if rx_lit a && rx_lit b then some (I, 0, (rx_op o (Int32.ofInt a.2) (Int32.ofInt b.2)).toInt)
  else match rx_bi I a, rx_bi I b with
    | some (al, ah), some (bl, bh) =>
      if o = 0 ∧ rx_lit b = true ∧ -2147483648 ≤ al + b.2 ∧ ah + b.2 ≤ 2147483647 then some (I, a.1, a.2 + b.2)
      else if o = 0 ∧ rx_lit a = true ∧ -2147483648 ≤ bl + a.2 ∧ bh + a.2 ≤ 2147483647 then some (I, b.1, b.2 + a.2)
      else if o = 1 ∧ rx_lit b = true ∧ -2147483648 ≤ al - b.2 ∧ ah - b.2 ≤ 2147483647 then some (I, a.1, a.2 - b.2)
      else some (I ++ [rx_opb o al ah bl bh], I.length, 0)
    | _, _ => none
theorem rx_fresh {I : rx_I} {r : Nat → Int} {lo hi : Int} (x : Int32) (h : rx_sat I r) (h1 : lo ≤ x.toInt) (h2 : x.toInt ≤ hi) : ∃ r_p : Nat → Int, rx_same I.length r r_p ∧ rx_sat (I ++ [(lo, hi)]) r_p ∧ Int32.ofInt (rx_ev r_p (I.length, 0)) = x := by
  refine ⟨rx_up r I.length x.toInt, rx_up_same, rx_sat_up h h1 h2, ?_⟩
  unfold rx_ev
  rw [rx_up_self, Int.add_zero, Int32.ofInt_toInt]
theorem rx_freshL {I : rx_I} {r : Nat → Int} {lo hi : Int} (x : Int64) (h : rx_sat I r) (h1 : lo ≤ x.toInt) (h2 : x.toInt ≤ hi) : ∃ r_p : Nat → Int, rx_same I.length r r_p ∧ rx_sat (I ++ [(lo, hi)]) r_p ∧ Int64.ofInt (rx_ev r_p (I.length, 0)) = x := by
  refine ⟨rx_up r I.length x.toInt, rx_up_same, rx_sat_up h h1 h2, ?_⟩
  unfold rx_ev
  rw [rx_up_self, Int.add_zero, Int64.ofInt_toInt]
theorem rx_bin1_ok {o : Nat} {I I2 : rx_I} {a b e : rx_E} {r : Nat → Int} (h : rx_sat I r) (hb : rx_bin1 o I a b = some (I2, e)) : ∃ r_p : Nat → Int, rx_same I.length r r_p ∧ rx_sat I2 r_p ∧ Int32.ofInt (rx_ev r_p e) = rx_op o (Int32.ofInt (rx_ev r a)) (Int32.ofInt (rx_ev r b)) ∧ I.length ≤ I2.length ∧ e.1 < I2.length := by
  unfold rx_bin1 at hb
  split at hb
  · rename_i hc
    rw [Bool.and_eq_true] at hc
    have e1 := rx_lit_ok hc.1 h
    have e3 := rx_lit_ok hc.2 h
    cases hb
    refine ⟨r, rx_same.rf, h, ?_, Nat.le_refl _, rx_pos h⟩
    rw [rx_ev0 h, Int32.ofInt_toInt, e1, e3]
  · split at hb
    · rename_i al ah bl bh ha hbb
      obtain ⟨a1, a2, a3, a4⟩ := rx_bi_ok h ha
      obtain ⟨b1, b2, b3, b4⟩ := rx_bi_ok h hbb
      split at hb
      · rename_i hc
        obtain ⟨rfl, hc2, hc3, hc4⟩ := hc
        have e1 := rx_lit_ok hc2 h
        cases hb
        refine ⟨r, rx_same.rf, h, ?_, Nat.le_refl _, a4⟩
        show Int32.ofInt (rx_ev r (a.1, a.2 + b.2)) = Int32.ofInt (rx_ev r a) + Int32.ofInt (rx_ev r b)
        rw [← Int32.ofInt_add, e1]
        congr 1
        unfold rx_ev
        dsimp only
        omega
      · split at hb
        · rename_i hc
          obtain ⟨rfl, hc2, hc3, hc4⟩ := hc
          have e1 := rx_lit_ok hc2 h
          cases hb
          refine ⟨r, rx_same.rf, h, ?_, Nat.le_refl _, b4⟩
          show Int32.ofInt (rx_ev r (b.1, b.2 + a.2)) = Int32.ofInt (rx_ev r a) + Int32.ofInt (rx_ev r b)
          rw [← Int32.ofInt_add, e1]
          congr 1
          unfold rx_ev
          dsimp only
          omega
        · split at hb
          · rename_i hc
            obtain ⟨rfl, hc2, hc3, hc4⟩ := hc
            have e1 := rx_lit_ok hc2 h
            cases hb
            refine ⟨r, rx_same.rf, h, ?_, Nat.le_refl _, a4⟩
            show Int32.ofInt (rx_ev r (a.1, a.2 - b.2)) = Int32.ofInt (rx_ev r a) - Int32.ofInt (rx_ev r b)
            rw [← Int32.ofInt_sub, e1]
            congr 1
            unfold rx_ev
            dsimp only
            omega
          · cases hb
            obtain ⟨g1, g2⟩ := rx_opb_ok (o := o) (x := Int32.ofInt (rx_ev r a)) (y := Int32.ofInt (rx_ev r b)) (al := al) (ah := ah) (bl := bl) (bh := bh) (by rw [a3]; exact a1) (by rw [a3]; exact a2) (by rw [b3]; exact b1) (by rw [b3]; exact b2)
            obtain ⟨r_p, q1, q2, q3⟩ := rx_fresh (lo := (rx_opb o al ah bl bh).1) (hi := (rx_opb o al ah bl bh).2) (rx_op o (Int32.ofInt (rx_ev r a)) (Int32.ofInt (rx_ev r b))) h g1 g2
            exact ⟨r_p, q1, q2, q3, by simp, by simp⟩
    · cases hb
noncomputable def rx_bin (o : Nat) (I : rx_I) (a b : rx_E) : Option (rx_I × rx_E) := rx_bin1 o I (rx_nm I a) (rx_nm I b)
theorem rx_bin_ok {o : Nat} {I I2 : rx_I} {a b e : rx_E} {r : Nat → Int} (h : rx_sat I r) (hb : rx_bin o I a b = some (I2, e)) : ∃ r_p : Nat → Int, rx_same I.length r r_p ∧ rx_sat I2 r_p ∧ Int32.ofInt (rx_ev r_p e) = rx_op o (Int32.ofInt (rx_ev r a)) (Int32.ofInt (rx_ev r b)) ∧ I.length ≤ I2.length ∧ e.1 < I2.length := by
  have := rx_bin1_ok h hb
  rw [(rx_nm_ok (e := a) h).1, (rx_nm_ok (e := b) h).1] at this
  exact this
noncomputable def rx_opL (o : Nat) (x y : Int64) : Int64 := match o with
  | 0 => x + y
  | 1 => x - y
  | 2 => x * y
  | 3 => x / y
  | 4 => x - x / y * y
  | 5 => x &&& y
  | 6 => x ||| y
  | _ => x ^^^ y
noncomputable def rx_opLb (o : Nat) (al ah bl bh : Int) : Int × Int := match o with
  | 0 => if -9223372036854775808 ≤ al + bl ∧ ah + bh ≤ 9223372036854775807 then (al + bl, ah + bh) else (-9223372036854775808, 9223372036854775807)
  | 1 => if -9223372036854775808 ≤ al - bh ∧ ah - bl ≤ 9223372036854775807 then (al - bh, ah - bl) else (-9223372036854775808, 9223372036854775807)
  | 2 => if 0 ≤ al ∧ 0 ≤ bl ∧ ah * bh ≤ 9223372036854775807 then (0, ah * bh) else (-9223372036854775808, 9223372036854775807)
  | 4 => if 0 ≤ al ∧ 0 < bl then (0, bh - 1) else (-9223372036854775808, 9223372036854775807)
  | _ => (-9223372036854775808, 9223372036854775807)
theorem rx_bmodL {z : Int} (h1 : -9223372036854775808 ≤ z) (h2 : z ≤ 9223372036854775807) : z.bmod (2 ^ 64) = z := by
  simp only [Int.bmod]
  split <;> omega
theorem rx_opLb_ok {o : Nat} {x y : Int64} {al ah bl bh : Int} (h1 : al ≤ x.toInt) (h2 : x.toInt ≤ ah) (h3 : bl ≤ y.toInt) (h4 : y.toInt ≤ bh) : (rx_opLb o al ah bl bh).1 ≤ (rx_opL o x y).toInt ∧ (rx_opL o x y).toInt ≤ (rx_opLb o al ah bl bh).2 := by
  have full : ∀ w : Int64, ((-9223372036854775808, 9223372036854775807) : Int × Int).1 ≤ w.toInt ∧ w.toInt ≤ ((-9223372036854775808, 9223372036854775807) : Int × Int).2 := fun w => rx_b64 w
  have hx := rx_b64 x
  have hy := rx_b64 y
  match o with
  | 0 =>
    show (if _ then _ else _ : Int × Int).1 ≤ (x + y).toInt ∧ (x + y).toInt ≤ (if _ then _ else _ : Int × Int).2
    split
    · have e : (x + y).toInt = x.toInt + y.toInt := by
        rw [Int64.toInt_add]
        exact rx_bmodL (by omega) (by omega)
      rw [e]
      exact ⟨by dsimp only; omega, by dsimp only; omega⟩
    · exact full _
  | 1 =>
    show (if _ then _ else _ : Int × Int).1 ≤ (x - y).toInt ∧ (x - y).toInt ≤ (if _ then _ else _ : Int × Int).2
    split
    · have e : (x - y).toInt = x.toInt - y.toInt := by
        rw [Int64.toInt_sub]
        exact rx_bmodL (by omega) (by omega)
      rw [e]
      exact ⟨by dsimp only; omega, by dsimp only; omega⟩
    · exact full _
  | 2 =>
    show (if _ then _ else _ : Int × Int).1 ≤ (x * y).toInt ∧ (x * y).toInt ≤ (if _ then _ else _ : Int × Int).2
    split
    · obtain ⟨g1, g2⟩ := rx_mulb (a := x.toInt) (b := y.toInt) (by omega) h2 (by omega) h4
      have e : (x * y).toInt = x.toInt * y.toInt := by
        rw [Int64.toInt_mul]
        exact rx_bmodL (by omega) (by omega)
      rw [e]
      exact ⟨g1, g2⟩
    · exact full _
  | 3 => exact full _
  | 4 =>
    show (if _ then _ else _ : Int × Int).1 ≤ (x - x / y * y).toInt ∧ (x - x / y * y).toInt ≤ (if _ then _ else _ : Int × Int).2
    split
    · have hx0 : 0 ≤ x.toInt := by omega
      have hy0 : 0 < y.toInt := by omega
      have q1 : 0 ≤ x.toInt / y.toInt := Int.ediv_nonneg hx0 (by omega)
      have q2 := Int.ediv_le_self (a := x.toInt) y.toInt hx0
      have e1 : (x / y).toInt = x.toInt / y.toInt := by
        rw [Int64.toInt_div, Int.tdiv_eq_ediv_of_nonneg hx0]
        exact rx_bmodL (by omega) (by omega)
      have q3 : 0 ≤ x.toInt / y.toInt * y.toInt := Int.mul_nonneg q1 (by omega)
      have q4 := Int.ediv_mul_le x.toInt (b := y.toInt) (by omega)
      have e2 : (x / y * y).toInt = x.toInt / y.toInt * y.toInt := by
        rw [Int64.toInt_mul, e1]
        exact rx_bmodL (by omega) (by omega)
      have e3 : (x - x / y * y).toInt = x.toInt - x.toInt / y.toInt * y.toInt := by
        rw [Int64.toInt_sub, e2]
        exact rx_bmodL (by omega) (by omega)
      have q5 := Int.emod_lt_of_pos x.toInt hy0
      have q6 := Int.emod_add_ediv_mul x.toInt y.toInt
      rw [e3]
      exact ⟨by dsimp only; omega, by dsimp only; omega⟩
    · exact full _
  | n + 5 => exact full _
noncomputable def rx_blf (I : rx_I) (a : rx_E) : Int × Int := match rx_bl I a with
  | some q => q
  | none => (-9223372036854775808, 9223372036854775807)
theorem rx_blf_ok {I : rx_I} {a : rx_E} {r : Nat → Int} (h : rx_sat I r) : (rx_blf I a).1 ≤ (Int64.ofInt (rx_ev r a)).toInt ∧ (Int64.ofInt (rx_ev r a)).toInt ≤ (rx_blf I a).2 := by
  unfold rx_blf
  split
  · rename_i q hq
    obtain ⟨lo, hi⟩ := q
    obtain ⟨h1, h2, h3, -⟩ := rx_bl_ok h hq
    rw [h3]
    exact ⟨h1, h2⟩
  · exact rx_b64 _
noncomputable def rx_binL1 (o : Nat) (I : rx_I) (a b : rx_E) : rx_I × rx_E :=
  if rx_lit a && rx_lit b then (I, 0, (rx_opL o (Int64.ofInt a.2) (Int64.ofInt b.2)).toInt)
  else if o = 0 ∧ rx_lit b = true ∧ a.1 < I.length ∧ (rx_bl I (a.1, a.2 + b.2)).isSome = true then (I, a.1, a.2 + b.2)
  else if o = 0 ∧ rx_lit a = true ∧ b.1 < I.length ∧ (rx_bl I (b.1, b.2 + a.2)).isSome = true then (I, b.1, b.2 + a.2)
  else if o = 1 ∧ rx_lit b = true ∧ a.1 < I.length ∧ (rx_bl I (a.1, a.2 - b.2)).isSome = true then (I, a.1, a.2 - b.2)
  else (I ++ [rx_opLb o (rx_blf I a).1 (rx_blf I a).2 (rx_blf I b).1 (rx_blf I b).2], I.length, 0)
theorem rx_binL1_ok {o : Nat} {I : rx_I} {a b : rx_E} {r : Nat → Int} (h : rx_sat I r) : ∃ r_p : Nat → Int, rx_same I.length r r_p ∧ rx_sat (rx_binL1 o I a b).1 r_p ∧ Int64.ofInt (rx_ev r_p (rx_binL1 o I a b).2) = rx_opL o (Int64.ofInt (rx_ev r a)) (Int64.ofInt (rx_ev r b)) ∧ I.length ≤ (rx_binL1 o I a b).1.length ∧ (rx_binL1 o I a b).2.1 < (rx_binL1 o I a b).1.length := by
  unfold rx_binL1
  split
  · rename_i hc
    rw [Bool.and_eq_true] at hc
    have e1 := rx_lit_ok hc.1 h
    have e3 := rx_lit_ok hc.2 h
    refine ⟨r, rx_same.rf, h, ?_, Nat.le_refl _, rx_pos h⟩
    dsimp only
    rw [rx_ev0 h, Int64.ofInt_toInt, e1, e3]
  · split
    · rename_i hc
      obtain ⟨ho, hl, hs, -⟩ := hc
      subst ho
      refine ⟨r, rx_same.rf, h, ?_, Nat.le_refl _, hs⟩
      rw [rx_lit_ok hl h]
      show Int64.ofInt (r a.1 + (a.2 + b.2)) = Int64.ofInt (r a.1 + a.2) + Int64.ofInt b.2
      rw [← Int64.ofInt_add, Int.add_assoc]
    · split
      · rename_i hc
        obtain ⟨ho, hl, hs, -⟩ := hc
        subst ho
        refine ⟨r, rx_same.rf, h, ?_, Nat.le_refl _, hs⟩
        rw [rx_lit_ok hl h]
        show Int64.ofInt (r b.1 + (b.2 + a.2)) = Int64.ofInt a.2 + Int64.ofInt (r b.1 + b.2)
        rw [← Int64.ofInt_add]
        congr 1
        omega
      · split
        · rename_i hc
          obtain ⟨ho, hl, hs, -⟩ := hc
          subst ho
          refine ⟨r, rx_same.rf, h, ?_, Nat.le_refl _, hs⟩
          rw [rx_lit_ok hl h]
          show Int64.ofInt (r a.1 + (a.2 - b.2)) = Int64.ofInt (r a.1 + a.2) - Int64.ofInt b.2
          rw [← Int64.ofInt_sub]
          congr 1
          omega
        · obtain ⟨g1, g2⟩ := rx_opLb_ok (o := o) (rx_blf_ok (a := a) h).1 (rx_blf_ok (a := a) h).2 (rx_blf_ok (a := b) h).1 (rx_blf_ok (a := b) h).2
          obtain ⟨r_p, q1, q2, q3⟩ := rx_freshL (rx_opL o (Int64.ofInt (rx_ev r a)) (Int64.ofInt (rx_ev r b))) h g1 g2
          exact ⟨r_p, q1, q2, q3, by simp, by simp⟩
noncomputable def rx_binL (o : Nat) (I : rx_I) (a b : rx_E) : rx_I × rx_E := rx_binL1 o I (rx_nm I a) (rx_nm I b)
theorem rx_binL_ok {o : Nat} {I : rx_I} {a b : rx_E} {r : Nat → Int} (h : rx_sat I r) : ∃ r_p : Nat → Int, rx_same I.length r r_p ∧ rx_sat (rx_binL o I a b).1 r_p ∧ Int64.ofInt (rx_ev r_p (rx_binL o I a b).2) = rx_opL o (Int64.ofInt (rx_ev r a)) (Int64.ofInt (rx_ev r b)) ∧ I.length ≤ (rx_binL o I a b).1.length ∧ (rx_binL o I a b).2.1 < (rx_binL o I a b).1.length := by
  have := rx_binL1_ok (o := o) (a := rx_nm I a) (b := rx_nm I b) h
  rw [(rx_nm_ok (e := a) h).1, (rx_nm_ok (e := b) h).1] at this
  exact this
end
section
noncomputable abbrev rx_Z : Type := rx_I × rx_F × List rx_C × Nat × Nat × Nat × List (Nat × rx_V) × List rx_V
noncomputable def rx_n (z : Int) : rx_V := .inr (0, (0, z))
noncomputable def rx_k2 (v : rx_V) : Bool := match v with
  | .inr (1, _) => true
  | _ => false
noncomputable def rx_lvs (r : Nat → Int) (ad xa : Nat → Nat) (lv : List (Nat × rx_V)) : List (Nat × Value) := lv.map (fun q => (q.1, rx_iv r ad xa q.2))
noncomputable def rx_del (lv : List (Nat × rx_V)) (i : Nat) : List (Nat × rx_V) := lv.filter (fun q => !(q.1 == i) && !(q.1 + 1 == i && rx_k2 q.2))
noncomputable def rx_del2 (lv : List (Nat × rx_V)) (i : Nat) : List (Nat × rx_V) := lv.filter (fun q => !(q.1 == i) && (!(q.1 == i + 1) && !(q.1 + 1 == i && rx_k2 q.2)))
theorem rx_cat {r : Nat → Int} {ad xa : Nat → Nat} {v : rx_V} (h : rx_k2 v = false) : (rx_iv r ad xa v).category = 1 := by
  match v, h with
  | .inl none, _ => rfl
  | .inl (some k), _ => rfl
  | .inr (0, e), _ => rfl
  | .inr (1, e), h => exact absurd (show true = false from h) (fun q => Bool.false_ne_true q.symm)
  | .inr (2, e), _ => rfl
  | .inr (_ + 3, e), _ => rfl
theorem rx_cat2 {r : Nat → Int} {ad xa : Nat → Nat} {v : rx_V} (h : rx_k2 v = true) : (rx_iv r ad xa v).category = 2 := by
  match v, h with
  | .inl none, h => exact absurd (show false = true from h) Bool.false_ne_true
  | .inl (some k), h => exact absurd (show false = true from h) Bool.false_ne_true
  | .inr (0, e), h => exact absurd (show false = true from h) Bool.false_ne_true
  | .inr (1, e), _ => rfl
  | .inr (2, e), h => exact absurd (show false = true from h) Bool.false_ne_true
  | .inr (_ + 3, e), h => exact absurd (show false = true from h) Bool.false_ne_true
theorem rx_cateq {r : Nat → Int} {ad xa : Nat → Nat} {v : rx_V} : ((rx_iv r ad xa v).category == 2) = rx_k2 v := by
  cases h : rx_k2 v with
  | false => rw [rx_cat h]; rfl
  | true => rw [rx_cat2 h]; rfl
theorem rx_lv_get {r : Nat → Int} {ad xa : Nat → Nat} {lv : List (Nat × rx_V)} {ls : Array Slot} {nL i : Nat} {v : rx_V} (h : lv_has ls nL (rx_lvs r ad xa lv)) (hv : rx_lk lv i = some v) : ls[i]? = some (.val (rx_iv r ad xa v)) :=
  h.2.2 (i, rx_iv r ad xa v) (List.mem_map.mpr ⟨(i, v), rx_lk_mem hv, rfl⟩)
theorem rx_lv_of {r : Nat → Int} {ad xa : Nat → Nat} {lv_p : List (Nat × rx_V)} {ls : Array Slot} {nL i : Nat} {v : rx_V} {L : List (Nat × Value)} (h : lv_has ls nL ((i, rx_iv r ad xa v) :: L)) (hL : ∀ q ∈ lv_p, (q.1, rx_iv r ad xa q.2) ∈ L) : lv_has ls nL (rx_lvs r ad xa ((i, v) :: lv_p)) := by
  refine ⟨h.1, h.2.1, fun q hq => ?_⟩
  obtain ⟨y, hy, rfl⟩ := List.mem_map.mp hq
  rcases List.mem_cons.mp hy with e | e
  · subst e
    exact h.2.2 _ List.mem_cons_self
  · exact h.2.2 _ (List.mem_cons_of_mem _ (hL y e))
theorem rx_lv_st {r : Nat → Int} {ad xa : Nat → Nat} {lv : List (Nat × rx_V)} {ls : Array Slot} {nL i : Nat} {v : rx_V} (h : lv_has ls nL ((i, rx_iv r ad xa v) :: (rx_lvs r ad xa lv).filter (fun q => !(q.1 == i) && !(q.1 + 1 == i && q.2.category == 2)))) : lv_has ls nL (rx_lvs r ad xa ((i, v) :: rx_del lv i)) := by
  refine rx_lv_of h fun q hq => ?_
  obtain ⟨h1, h2⟩ := List.mem_filter.mp hq
  refine List.mem_filter.mpr ⟨List.mem_map.mpr ⟨q, h1, rfl⟩, ?_⟩
  dsimp only
  rw [rx_cateq]
  exact h2
theorem rx_lv_st2 {r : Nat → Int} {ad xa : Nat → Nat} {lv : List (Nat × rx_V)} {ls : Array Slot} {nL i : Nat} {v : rx_V} (h : lv_has ls nL ((i, rx_iv r ad xa v) :: (rx_lvs r ad xa lv).filter (fun q => !(q.1 == i) && (!(q.1 == i + 1) && !(q.1 + 1 == i && q.2.category == 2))))) : lv_has ls nL (rx_lvs r ad xa ((i, v) :: rx_del2 lv i)) := by
  refine rx_lv_of h fun q hq => ?_
  obtain ⟨h1, h2⟩ := List.mem_filter.mp hq
  refine List.mem_filter.mpr ⟨List.mem_map.mpr ⟨q, h1, rfl⟩, ?_⟩
  dsimp only
  rw [rx_cateq]
  exact h2
theorem rx_lvs_ext {N M : Nat} {r r_p : Nat → Int} {ad ad_p xa : Nat → Nat} {lv : List (Nat × rx_V)} (h : ∀ q ∈ lv, rx_sc N M q.2) (hr : rx_same N r r_p) (ha : rx_sameA M ad ad_p) : rx_lvs r_p ad_p xa lv = rx_lvs r ad xa lv :=
  List.map_congr_left fun q hq => by rw [rx_iv_ext (h q hq) hr ha]
theorem rx_st_ext {N M : Nat} {r r_p : Nat → Int} {ad ad_p xa : Nat → Nat} {st : List rx_V} (h : ∀ v ∈ st, rx_sc N M v) (hr : rx_same N r r_p) (ha : rx_sameA M ad ad_p) : st.map (rx_iv r_p ad_p xa) = st.map (rx_iv r ad xa) :=
  List.map_congr_left fun v hv => rx_iv_ext (h v hv) hr ha
noncomputable def rx_R (D : bx_D) (cl : List vw_C) (A : Nat → Prop) (s : State) (xa : Nat → Nat) (nL : Nat) (H0 : Heap) (z : rx_Z) (r : Nat → Int) (ad : Nat → Nat) (H : Heap) (locs : List Loc) (ls : Array Slot) : Prop :=
  rx_sat z.1 r ∧ rx_facts z.2.1 r ∧ rx_fsc z.1.length z.2.1 ∧ rx_W D cl A s xa z.1.length z.2.2.1 r ad H0 H locs ∧ lv_has ls nL (rx_lvs r ad xa z.2.2.2.2.2.2.1) ∧ (∀ q ∈ z.2.2.2.2.2.2.1, rx_sc z.1.length z.2.2.1.length q.2) ∧ ∀ v ∈ z.2.2.2.2.2.2.2, rx_sc z.1.length z.2.2.1.length v
noncomputable def rx_G (p : Program) (l : Launch) (e : Env) (R : Room) (s : State) (m : MethodId) (args : Array Value) (below : List Frame) (meth : Method) (c : Code) (Q : State → Prop) (D : bx_D) (cl : List vw_C) (A : Nat → Prop) (xa : Nat → Nat) (nL : Nat) (H0 : Heap) (N M : Nat) (r : Nat → Int) (ad : Nat → Nat) (z : rx_Z) : Prop :=
  ∀ (r_p : Nat → Int) (ad_p : Nat → Nat) (H : Heap) (locs : List Loc) (ls : Array Slot), N ≤ z.1.length → True → rx_same N r r_p → rx_sameA M ad ad_p → rx_R D cl A s xa nL H0 z r_p ad_p H locs ls →
    W p l e R s m args below meth c H locs z.2.2.2.1 z.2.2.2.2.1 Q (F0 m z.2.2.2.2.2.1 ls (z.2.2.2.2.2.2.2.map (rx_iv r_p ad_p xa)))
noncomputable def rx_cnd (c : Jvm.ClassFile.Cond) (a b : rx_E) : (Nat × rx_E × rx_E) × (Nat × rx_E × rx_E) := match c with
  | .eq => ((2, a, b), (3, a, b))
  | .ne => ((3, a, b), (2, a, b))
  | .lt => ((0, a, b), (1, b, a))
  | .ge => ((1, b, a), (0, a, b))
  | .gt => ((0, b, a), (1, a, b))
  | .le => ((1, a, b), (0, b, a))
end
