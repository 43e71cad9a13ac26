section
noncomputable def rkBi (op a b : Int) : Option Int := if op = 20 then some (a + b) else if op = 21 then some (a - b) else if op = 22 then some (a * b) else if op = 23 then (if b = 0 then none else some (a.tdiv b)) else if op = 24 then (if b = 0 then none else some (a.tmod b)) else if op = 25 then some (if a < b then 1 else 0) else if op = 26 then some (if b < a then 1 else 0) else some (if a = b then 1 else 0)
noncomputable def rkLm : Option Int → Option Int
  | none => none
  | some x => if -1000000000 ≤ x ∧ x ≤ 1000000000 then some x else none
noncomputable def rkVl (d : rkC) (vs : Int → Int) : Nat → Int → List Int → Option (Option (List Int))
  | 0, _, _ => none
  | k + 1, i, st =>
    if rkM d ≤ i then some (some st)
    else if rkFo d i ≤ 8 then rkVl d vs k (i + 1) ((if rkFo d i = 0 then rkFa d i else vs (rkFo d i)) :: st)
    else match st with
      | [] => some none
      | x :: st1 =>
        if rkFo d i = 28 then rkVl d vs k (i + 1) ((1 - x) :: st1)
        else if rkFo d i = 29 ∨ rkFo d i = 30 then (if x = (if rkFo d i = 30 then 1 else 0) then rkVl d vs k (rkFa d i) (x :: st1) else rkVl d vs k (i + 1) st1)
        else match st1 with
          | [] => some none
          | y :: st2 => match rkLm (rkBi (rkFo d i) y x) with
            | none => some none
            | some z => rkVl d vs k (i + 1) (z :: st2)
noncomputable def rkEv (d : rkC) (vs : Int → Int) (i : Int) (st : List Int) (r : Option (List Int)) : Prop := ∃ k : Nat, rkVl d vs k i st = some r
theorem rkVl_s {d : rkC} {vs : Int → Int} {r : Option (List Int)} : ∀ (k : Nat) (i : Int) (st : List Int), rkVl d vs k i st = some r → rkVl d vs (k + 1) i st = some r
  | 0, i, st, h => by cases h
  | k + 1, i, st, h => by
    unfold rkVl at h ⊢
    by_cases h1 : rkM d ≤ i
    · rw [if_pos h1] at h ⊢
      exact h
    rw [if_neg h1] at h ⊢
    by_cases h2 : rkFo d i ≤ 8
    · rw [if_pos h2] at h ⊢
      exact rkVl_s k _ _ h
    rw [if_neg h2] at h ⊢
    cases st with
    | nil => exact h
    | cons x st1 =>
      simp only at h ⊢
      by_cases h3 : rkFo d i = 28
      · rw [if_pos h3] at h ⊢
        exact rkVl_s k _ _ h
      rw [if_neg h3] at h ⊢
      by_cases h4 : rkFo d i = 29 ∨ rkFo d i = 30
      · rw [if_pos h4] at h ⊢
        by_cases h5 : x = (if rkFo d i = 30 then 1 else 0)
        · rw [if_pos h5] at h ⊢
          exact rkVl_s k _ _ h
        · rw [if_neg h5] at h ⊢
          exact rkVl_s k _ _ h
      rw [if_neg h4] at h ⊢
      cases st1 with
      | nil => exact h
      | cons y st2 =>
        simp only at h ⊢
        cases h6 : rkLm (rkBi (rkFo d i) y x) with
        | none =>
          rw [h6] at h
          exact h
        | some z =>
          rw [h6] at h
          exact rkVl_s k _ _ h
theorem rkVl_m {d : rkC} {vs : Int → Int} {r : Option (List Int)} {k : Nat} {i : Int} {st : List Int} (h : rkVl d vs k i st = some r) : ∀ j : Nat, rkVl d vs (k + j) i st = some r
  | 0 => h
  | j + 1 => rkVl_s _ _ _ (rkVl_m h j)
theorem rkEv_det {d : rkC} {vs : Int → Int} {r r_p : Option (List Int)} {i : Int} {st : List Int} (h : rkEv d vs i st r) (h_p : rkEv d vs i st r_p) : r = r_p := by
  obtain ⟨k, hk⟩ := h
  obtain ⟨j, hj⟩ := h_p
  have a := rkVl_m hk j
  have b := rkVl_m hj k
  rw [Nat.add_comm j k] at b
  exact Option.some.inj (a.symm.trans b)
section RKEV
variable {d : rkC} {vs : Int → Int} {i x y z : Int} {st : List Int} {r : Option (List Int)}
theorem rkEv_end (h : rkM d ≤ i) : rkEv d vs i st (some st) := by
  refine ⟨1, ?_⟩
  unfold rkVl
  rw [if_pos h]
theorem rkEv_num (h : i < rkM d) (h2 : rkFo d i ≤ 8) (g : rkEv d vs (i + 1) ((if rkFo d i = 0 then rkFa d i else vs (rkFo d i)) :: st) r) : rkEv d vs i st r := by
  obtain ⟨k, hk⟩ := g
  refine ⟨k + 1, ?_⟩
  unfold rkVl
  rw [if_neg (by omega), if_pos h2]
  exact hk
theorem rkEv_not (h : i < rkM d) (h2 : rkFo d i = 28) (g : rkEv d vs (i + 1) ((1 - x) :: st) r) : rkEv d vs i (x :: st) r := by
  obtain ⟨k, hk⟩ := g
  refine ⟨k + 1, ?_⟩
  unfold rkVl
  rw [if_neg (by omega), if_neg (by omega)]
  simp only
  rw [if_pos h2]
  exact hk
theorem rkEv_leap (h : i < rkM d) (h2 : rkFo d i = 29 ∨ rkFo d i = 30) (hx : x = (if rkFo d i = 30 then 1 else 0)) (g : rkEv d vs (rkFa d i) (x :: st) r) : rkEv d vs i (x :: st) r := by
  obtain ⟨k, hk⟩ := g
  refine ⟨k + 1, ?_⟩
  unfold rkVl
  rw [if_neg (by omega), if_neg (by omega)]
  simp only
  rw [if_neg (by omega), if_pos h2, if_pos hx]
  exact hk
theorem rkEv_drop (h : i < rkM d) (h2 : rkFo d i = 29 ∨ rkFo d i = 30) (hx : ¬ x = (if rkFo d i = 30 then 1 else 0)) (g : rkEv d vs (i + 1) st r) : rkEv d vs i (x :: st) r := by
  obtain ⟨k, hk⟩ := g
  refine ⟨k + 1, ?_⟩
  unfold rkVl
  rw [if_neg (by omega), if_neg (by omega)]
  simp only
  rw [if_neg (by omega), if_pos h2, if_neg hx]
  exact hk
theorem rkEv_two (h : i < rkM d) (h2 : 9 ≤ rkFo d i ∧ rkFo d i ≤ 27) (hz : rkLm (rkBi (rkFo d i) y x) = some z) (g : rkEv d vs (i + 1) (z :: st) r) : rkEv d vs i (x :: y :: st) r := by
  obtain ⟨k, hk⟩ := g
  refine ⟨k + 1, ?_⟩
  unfold rkVl
  rw [if_neg (by omega), if_neg (by omega)]
  simp only
  rw [if_neg (by omega), if_neg (by omega), hz]
  exact hk
theorem rkEv_brk (h : i < rkM d) (h2 : 9 ≤ rkFo d i ∧ rkFo d i ≤ 27) (hz : rkLm (rkBi (rkFo d i) y x) = none) : rkEv d vs i (x :: y :: st) none := by
  refine ⟨1, ?_⟩
  unfold rkVl
  rw [if_neg (by omega), if_neg (by omega)]
  simp only
  rw [if_neg (by omega), if_neg (by omega), hz]
end RKEV
noncomputable def rkSk (R : Int → Int) : Int → List Int → Prop
  | n, [] => n = 0
  | n, x :: st => 0 < n ∧ R (n - 1) = x ∧ (-2147483648 ≤ x ∧ x ≤ 2147483649) ∧ rkSk R (n - 1) st
theorem rkSk_le {R : Int → Int} : ∀ {st : List Int} {n : Int}, rkSk R n st → n = (st.length : Int)
  | [], n, h => h
  | x :: st, n, h => by
    have := rkSk_le h.2.2.2
    simp only [List.length_cons]
    omega
theorem rkSk_cg {R R_p : Int → Int} : ∀ {st : List Int} {n : Int}, (∀ j : Int, 0 ≤ j → j < n → R_p j = R j) → rkSk R n st → rkSk R_p n st
  | [], _, _, h => h
  | x :: st, n, e, h => ⟨h.1, (e _ (by have := h.1; omega) (by omega)).trans h.2.1, h.2.2.1, rkSk_cg (fun j a b => e j a (by omega)) h.2.2.2⟩
theorem rkSk_pu {R R_p : Int → Int} {st : List Int} {n x : Int} (h : rkSk R n st) (n0 : 0 ≤ n) (e : ∀ j : Int, 0 ≤ j → j < n → R_p j = R j) (ex : R_p n = x) (b : -2147483648 ≤ x ∧ x ≤ 2147483649) : rkSk R_p (n + 1) (x :: st) :=
  ⟨by omega, by rw [show n + 1 - 1 = n by omega]; exact ex, b, by rw [show n + 1 - 1 = n by omega]; exact rkSk_cg e h⟩
theorem rkSk_rp {R R_p : Int → Int} {st : List Int} {n x z : Int} (h : rkSk R n (x :: st)) (e : ∀ j : Int, 0 ≤ j → j < n - 1 → R_p j = R j) (ez : R_p (n - 1) = z) (b : -2147483648 ≤ z ∧ z ≤ 2147483649) : rkSk R_p n (z :: st) :=
  ⟨h.1, ez, b, rkSk_cg e h.2.2.2⟩
end
section
noncomputable def bx_opvM (o : Nat) (a b : Int) : Int := if o = 40 then a + b else if o = 41 then a - b else if o = 42 then a * b else if o = 43 then a.tdiv b else a.tmod b
noncomputable def bx_rgM (a : Int) : Prop := -9223372036854775808 ≤ a ∧ a ≤ 9223372036854775807
noncomputable def bx_opcM (o : Nat) (a b : Int) : Prop := bx_rgM a ∧ bx_rgM b ∧ (o = 40 → bx_rgM (a + b)) ∧ (o = 41 → bx_rgM (a - b)) ∧ (o = 42 → bx_rgM (a * b)) ∧ (o = 43 ∨ o = 44 → b ≠ 0 ∧ -9223372036854775807 ≤ a)
noncomputable def bx_mdM (o : Nat) (x y : Int64) : Int64 := if o = 40 then x + y else if o = 41 then x - y else if o = 42 then x * y else if o = 43 then x / y else x - x / y * y
theorem bx_opvM_ok {o : Nat} (ho : o = 40 ∨ o = 41 ∨ o = 42 ∨ o = 43 ∨ o = 44) {a b : Int} (h : bx_opcM o a b) : (bx_mdM o (Int64.ofInt a) (Int64.ofInt b)).toInt = bx_opvM o a b := by
  obtain ⟨ha, hb, h0, h1, h2, h3⟩ := h
  unfold bx_mdM bx_opvM
  rcases ho with rfl | rfl | rfl | rfl | rfl
  · show (Int64.ofInt a + Int64.ofInt b).toInt = a + b
    rw [Int64.toInt_add, bx_toL ha, bx_toL hb, bx_bmodL (h0 rfl)]
  · show (Int64.ofInt a - Int64.ofInt b).toInt = a - b
    rw [Int64.toInt_sub, bx_toL ha, bx_toL hb, bx_bmodL (h1 rfl)]
  · show (Int64.ofInt a * Int64.ofInt b).toInt = a * b
    rw [Int64.toInt_mul, bx_toL ha, bx_toL hb, bx_bmodL (h2 rfl)]
  · show (Int64.ofInt a / Int64.ofInt b).toInt = a.tdiv b
    obtain ⟨b0, a1⟩ := h3 (Or.inl rfl)
    rw [Int64.toInt_div, bx_toL ha, bx_toL hb]
    have l : (a.tdiv b).natAbs ≤ a.natAbs := by
      rw [Int.natAbs_tdiv]
      exact Nat.div_le_self _ _
    have a2 := ha.2
    exact bx_bmodL ⟨by omega, by omega⟩
  · show (Int64.ofInt a - Int64.ofInt a / Int64.ofInt b * Int64.ofInt b).toInt = a.tmod b
    obtain ⟨b0, a1⟩ := h3 (Or.inr rfl)
    have l : (a.tdiv b).natAbs ≤ a.natAbs := by
      rw [Int.natAbs_tdiv]
      exact Nat.div_le_self _ _
    have p : (a.tdiv b * b).natAbs ≤ a.natAbs := by
      rw [Int.natAbs_mul, Int.natAbs_tdiv]
      exact Nat.div_mul_le_self _ _
    have r : (a.tmod b).natAbs ≤ a.natAbs := by
      rw [Int.natAbs_tmod]
      exact Nat.mod_le _ _
    have q : a - a.tdiv b * b = a.tmod b := by
      rw [Int.tmod_def, Int.mul_comm]
    have a2 := ha.2
    rw [Int64.toInt_sub, Int64.toInt_mul, Int64.toInt_div, bx_toL ha, bx_toL hb, bx_bmodL (a := a.tdiv b) ⟨by omega, by omega⟩, bx_bmodL (a := a.tdiv b * b) ⟨by omega, by omega⟩, q]
    exact bx_bmodL ⟨by omega, by omega⟩
section RKOP
variable {PX : State → Prop} {Dg : va_G} {A : Nat → Prop} {ad xa : Nat → Nat} {l : Launch} {X : (Nat → Int → Int) → Prop}
variable {p : Program} {e : Env} {R : Room} {s : State} {m : MethodId} {args : Array Value} {below : List Frame} {meth : Method} {c : Code} {Q : State → Prop} {H0 : Heap}
noncomputable def rx_obBM (X : (Nat → Int → Int) → Prop) (Sin : Nat → Int → Int) (ms : List (Nat × Nat)) (inv : Nat → bx_SP) (mea : Nat → (Nat → Int → Int) → (Nat → Int) → Nat) (i i_p : Nat) (z : rx_Z) (o : Nat) (a b : rx_E) (lo hi : Int) : Prop :=
  ∀ (S : Nat → Int → Int) (r : Nat → Int), inv i S r → X S → bx_Inv rxL S → bx_same rxL (bx_mdl ms) Sin S → rx_sat z.1 r → rx_facts z.2.1 r →
    bx_opcM o (rx_ev r a) (rx_ev r b) ∧ ∀ r_p : Nat → Int, rx_same z.1.length r r_p → r_p 0 = 0 → r_p z.1.length = bx_opvM o (rx_ev r a) (rx_ev r b) → (lo ≤ r_p z.1.length ∧ r_p z.1.length ≤ hi) ∧ inv i_p S r_p ∧ mea i_p S r_p < mea i S r
theorem rx_stepBM {M : rx_Mt} {tab : List bx_HE} {inv : Nat → bx_SP} {mea : Nat → (Nat → Int → Int) → (Nat → Int) → Nat} {Sin : Nat → Int → Int} {ms : List (Nat × Nat)} {i i_p o : Nat} {ins : Instr} {z : rx_Z} {os : List bx_HO} {es : List (rx_End × List (Nat × Int × Int))} {q_p : bx_HE} {a b : rx_E} {lo hi : Int} {t : List rx_V}
    (hF : rx_Fr rxG rxNW rxAO PX p s m args meth c M) (ho : (o = 40 ∧ ins = .ladd) ∨ (o = 41 ∧ ins = .lsub) ∨ (o = 42 ∧ ins = .lmul) ∨ (o = 43 ∧ ins = .ldiv) ∨ (o = 44 ∧ ins = .lrem)) (hdg : decode M.2.1 (rx_zpc z) = .ok (ins, 1)) (hne : bx_noE z.2.2.1 = true) (hst : rx_zst z = .inr (1, b) :: .inr (1, a) :: t)
    (htab : tab[i_p]? = some q_p) (hq_p : rx_nxI (z.1 ++ [(lo, hi)]) z 1 (.inr (1, (z.1.length, 0)) :: t) = q_p.1) (hob : rx_obBM X Sin ms inv mea i i_p z o a b lo hi) :
    bx_Step p l e R s m args below meth c Q Dg rxL X vwCl A xa H0 ad M tab inv mea Sin ms i (z, os, es) := by
  intro S r H locs ls hinv hXS hsin hR K
  obtain ⟨Sq, ⟨ws0, tys0, hInv0, hrest0⟩, -, ⟨-, hch0⟩, -⟩ := id hR.2.2.2.1
  have eSq : Sq = S := bx_noE_eq hne (hch0 rfl)
  rw [eSq] at hInv0
  have hInv0 : bx_Inv rxL S := hInv0
  obtain ⟨o1, o2⟩ := hob S r hinv hXS hInv0 hsin hR.1 hR.2.1
  have hv := bx_opvM_ok (by rcases ho with h | h | h | h | h <;> omega) o1
  have hb0 : o = 43 ∨ o = 44 → ¬ Int64.ofInt (rx_ev r b) = 0 := fun ho4 hz => by
    have h1 := (o1.2.2.2.2.2 ho4).1
    have h2 := bx_toL (a := rx_ev r b) o1.2.1
    rw [hz] at h2
    have h3 : (0 : Int64).toInt = 0 := rfl
    omega
  obtain ⟨b1, b2, b3⟩ := o2 (rx_up r z.1.length (bx_mdM o (Int64.ofInt (rx_ev r a)) (Int64.ofInt (rx_ev r b))).toInt) rx_up_same ((rx_up_same 0 (rx_pos hR.1)).trans hR.1.1) (rx_up_self.trans hv)
  rw [rx_up_self] at b1
  have hsat := rx_sat_up (lo := lo) (hi := hi) hR.1 b1.1 b1.2
  have hsc := rx_stsc hR
  rw [hst] at hsc
  have ht2 : ∀ v ∈ t, rx_sc z.1.length z.2.2.1.length v := fun v hv => hsc v (List.mem_cons_of_mem _ (List.mem_cons_of_mem _ hv))
  have hlen : z.1.length ≤ (z.1 ++ [(lo, hi)]).length := by simp
  have hN := rx_R_nxI (d := 1) (st := .inr (1, (z.1.length, 0)) :: t) hR hlen rx_up_same hsat (fun v hv => by
    rcases List.mem_cons.mp hv with h | h
    · subst h
      show z.1.length < (z.1 ++ [(lo, hi)]).length
      simp
    · exact rx_sc.mono (ht2 v h) hlen trivial)
  rw [hq_p] at hN
  have k := K i_p q_p S _ H locs ls htab b2 b3 hXS hsin hN
  rw [← hq_p] at k
  have ev : rx_iv (rx_up r z.1.length (bx_mdM o (Int64.ofInt (rx_ev r a)) (Int64.ofInt (rx_ev r b))).toInt) ad xa (.inr (1, (z.1.length, 0))) = Value.long (bx_mdM o (Int64.ofInt (rx_ev r a)) (Int64.ofInt (rx_ev r b))) := by
    show Value.long (Int64.ofInt (rx_ev _ (z.1.length, 0))) = _
    unfold rx_ev
    rw [rx_up_self, Int.add_zero, Int64.ofInt_toInt]
  have et := rx_st_ext (ad := ad) (ad_p := ad) (xa := xa) ht2 (rx_up_same (r := r) (n := z.1.length) (z := (bx_mdM o (Int64.ofInt (rx_ev r a)) (Int64.ofInt (rx_ev r b))).toInt)) rx_sameA.rf
  have row : W p l e R s m args below meth c H locs z.2.2.2.1 z.2.2.2.2.1 Q (F0 m (rx_zpc z + 1) ls (.long (bx_mdM o (Int64.ofInt (rx_ev r a)) (Int64.ofInt (rx_ev r b))) :: t.map (rx_iv r ad xa))) → W p l e R s m args below meth c H locs z.2.2.2.1 z.2.2.2.2.1 Q (F0 m (rx_zpc z) ls (.long (Int64.ofInt (rx_ev r b)) :: .long (Int64.ofInt (rx_ev r a)) :: t.map (rx_iv r ad xa))) := fun k => by
    rcases ho with ⟨h1, h2⟩ | ⟨h1, h2⟩ | ⟨h1, h2⟩ | ⟨h1, h2⟩ | ⟨h1, h2⟩
    · subst h1
      subst h2
      exact lv_ladd hF.1 hF.2.1 hdg k
    · subst h1
      subst h2
      exact lv_lsub hF.1 hF.2.1 hdg k
    · subst h1
      subst h2
      exact lv_lmul hF.1 hF.2.1 hdg k
    · have := hb0 (Or.inl h1)
      subst h1
      subst h2
      exact lv_ldiv hF.1 hF.2.1 hdg this k
    · have := hb0 (Or.inr h1)
      subst h1
      subst h2
      exact lv_lrem hF.1 hF.2.1 hdg this k
  rw [hst]
  refine row ?_
  rw [← ev, ← et]
  obtain ⟨zI, zF, zh, zc, zs, zp, zl, zt⟩ := z
  exact k
end RKOP
end
section
noncomputable def rkNu (fo : Int → Int) : Nat → Nat
  | 0 => 0
  | k + 1 => rkNu fo k + (if fo (k : Int) ≤ 8 then 1 else 0)
theorem rkNu_cg {fo fo_p : Int → Int} : ∀ {k : Nat}, (∀ j : Int, j < (k : Int) → fo_p j = fo j) → rkNu fo_p k = rkNu fo k
  | 0, _ => rfl
  | k + 1, h => by
    show rkNu fo_p k + (if fo_p (k : Int) ≤ 8 then 1 else 0) = rkNu fo k + (if fo (k : Int) ≤ 8 then 1 else 0)
    rw [h k (by omega), rkNu_cg fun j hj => h j (by omega)]
theorem rkNu_mo {fo : Int → Int} {k : Nat} : ∀ j : Nat, rkNu fo k ≤ rkNu fo (k + j)
  | 0 => Nat.le_refl _
  | j + 1 => Nat.le_trans (rkNu_mo j) (Nat.le_add_right _ _)
noncomputable def rkNc (c : rkC) : Nat := rkNu (rkFo c) (rkM c).toNat
theorem rkNc_emit {op a : Int} {c : rkC} (h0 : 0 ≤ rkM c) : rkNc (rkEmit op a c) = rkNc c + (if op ≤ 8 then 1 else 0) := by
  show rkNu (rkUp (rkFo c) (rkM c) op) (rkM c + 1).toNat = rkNu (rkFo c) (rkM c).toNat + _
  have e : (rkM c + 1).toNat = (rkM c).toNat + 1 := by omega
  have e2 : (((rkM c).toNat : Nat) : Int) = rkM c := by omega
  rw [e]
  show rkNu (rkUp (rkFo c) (rkM c) op) (rkM c).toNat + (if rkUp (rkFo c) (rkM c) op (((rkM c).toNat : Nat) : Int) ≤ 8 then 1 else 0) = _
  rw [e2, rkUp_at, rkNu_cg (fo := rkFo c) fun j hj => rkUp_ne (by omega)]
theorem rkNc_top {c : rkC} (h : rkW c) (hn : 0 < c.1) : rkNc (rkTop c) = rkNc c := by
  have q := (h.2.1 ((c.1 : Int) - 1) (by omega) (by omega)).1
  unfold rkTop
  by_cases hj : rkPo c ((c.1 : Int) - 1) = 29 ∨ rkPo c ((c.1 : Int) - 1) = 30
  · rw [if_pos hj]
    rfl
  · rw [if_neg hj, rkNc_emit (c := rkPop c) h.1, if_neg (by omega)]
    rfl
theorem rkNc_rd {l : Int} (hl : 1 ≤ l) : ∀ (k : Nat) (c : rkC), rkW c → rkNc (rkRd l k c) = rkNc c
  | 0, c, h => rfl
  | k + 1, c, h => by
    show rkNc (if 0 < c.1 ∧ l ≤ rkBd (rkPo c ((c.1 : Int) - 1)) then rkRd l k (rkTop c) else c) = rkNc c
    by_cases g : 0 < c.1 ∧ l ≤ rkBd (rkPo c ((c.1 : Int) - 1))
    · rw [if_pos g, rkNc_rd hl k _ (rkW_top h g.1 (rkBd_le (by omega))), rkNc_top h g.1]
    · rw [if_neg g]
theorem rkNc_red {l : Int} (hl : 1 ≤ l) {c : rkC} (h : rkW c) : rkNc (rkRed l c) = rkNc c := rkNc_rd hl _ _ h
section RKNH
variable {T : Int → Int} {n : Int} {ws : List (List Int)} {f s : Int} {rest : List Int} {c : rkC}
theorem rkNc_1 (h : rkW c) : rkNc (rkSt T n ws f (s :: rest) true c) = rkNc c := by
  have k : ∀ l : Int, 1 ≤ l → rkNc (rkRed l c) = rkNc c := fun l hl => rkNc_red hl h
  have e : ∀ l op : Int, 1 ≤ l → 9 ≤ op → rkNc (rkEmit op 0 (rkRed l c)) = rkNc c := fun l op hl ho => by
    rw [rkNc_emit (rkRed_w hl h).1.1, if_neg (by omega), k l hl]
    rfl
  rw [rkSt_1]
  (repeat' split) <;> first
    | exact k 1 (by omega)
    | exact k 4 (by omega)
    | exact k 5 (by omega)
    | exact k 6 (by omega)
    | exact e 2 29 (by omega) (by omega)
    | exact e 1 30 (by omega) (by omega)
theorem rkNc_0 (h : rkW c) : rkNc (rkSt T n ws f (s :: rest) false c) ≤ rkNc c + (if rzDg T n f = true ∨ 0 ≤ rzIxn T n f ws 0 then 1 else 0) := by
  have e : ∀ op a : Int, rkNc (rkEmit op a c) ≤ rkNc c + 1 := fun op a => by
    rw [rkNc_emit h.1]
    split <;> omega
  rw [rkSt_0]
  by_cases h1 : rzDg T n f = true
  · rw [if_pos h1, if_pos (Or.inl h1)]
    exact e _ _
  rw [if_neg h1]
  by_cases h2 : 0 ≤ rzIxn T n f ws 0
  · rw [if_pos h2, if_pos (Or.inr h2)]
    exact e _ _
  rw [if_neg h2]
  (repeat' split) <;> exact Nat.le_add_right _ _
theorem rzStep_l1 {lf f_p lf_p : Int} {lv_p : List Int} {pr_p : Bool} {q : Nat} (h : rzStep T n ws f (s :: rest) true lf = (q, f_p, lv_p, pr_p, lf_p)) : lf_p = lf := by
  have h := congrArg (fun z : rzA => z.2.2.2.2) h
  have h : (if rest ≠ [] ∧ s = 0 ∧ rzSg T n 93 f = true then (0, rzN T n f, rest, true, lf)
      else if rest ≠ [] ∧ (s = 3 ∨ s = 4) ∧ rzSg T n 41 f = true then (0, rzN T n f, 4 :: rest.tail, true, lf)
      else if (s = 3 ∨ s = 4) ∧ (rzIs T n rzW_and f = true ∨ rzIs T n rzW_or f = true) then (0, rzN T n f, 1 :: rest, false, lf)
      else if s ≠ 4 ∧ f < n ∧ (T f = 43 ∨ T f = 45 ∨ T f = 42 ∨ T f = 47 ∨ T f = 37) then (0, rzN T n f, s :: rest, false, lf)
      else if s = 2 ∧ f < n ∧ (T f = 60 ∨ T f = 62 ∨ T f = 61) then (0, rzN T n f, 3 :: rest, false, lf)
      else if rest = [] ∧ s ≠ 1 ∧ s ≠ 2 then (1, f, s :: rest, true, lf)
      else ((2, f, s :: rest, true, lf) : rzA)).2.2.2.2 = lf_p := h
  rw [← h]
  (repeat' split) <;> rfl
theorem rzStep_l0 {lf f_p lf_p : Int} {lv_p : List Int} {pr_p : Bool} (h : rzStep T n ws f (s :: rest) false lf = (0, f_p, lv_p, pr_p, lf_p)) : lf_p = lf + (if rzDg T n f = true ∨ 0 ≤ rzIxn T n f ws 0 then 1 else 0) ∧ (lf ≤ 50 → lf_p ≤ 50) := by
  have h : (if rzDg T n f = true ∨ 0 ≤ rzIxn T n f ws 0 then
      (if 1000 < rzNo T n f ∨ 50 ≤ lf then (2, f, s :: rest, false, lf) else (0, rzN T n f, (if s = 1 then 2 else s) :: rest, true, lf + 1))
      else if s = 1 ∧ rzIs T n rzW_not f = true then (0, rzN T n f, s :: rest, false, lf)
      else if s = 1 ∧ rzSg T n 40 f = true then
        (if rest.length < 8 then (0, rzN T n f, 1 :: 1 :: rest, false, lf) else (2, f, s :: rest, false, lf))
      else if rzSg T n 91 f = true then
        (if rest.length < 8 then (0, rzN T n f, 0 :: (if s = 1 then 2 else s) :: rest, false, lf) else (2, f, s :: rest, false, lf))
      else ((2, f, s :: rest, false, lf) : rzA)) = (0, f_p, lv_p, pr_p, lf_p) := h
  by_cases h1 : rzDg T n f = true ∨ 0 ≤ rzIxn T n f ws 0
  · rw [if_pos h1] at h ⊢
    by_cases h2 : 1000 < rzNo T n f ∨ 50 ≤ lf
    · rw [if_pos h2] at h
      cases (congrArg (fun z : rzA => z.1) h)
    · rw [if_neg h2] at h
      have e : lf + 1 = lf_p := congrArg (fun z : rzA => z.2.2.2.2) h
      omega
  · rw [if_neg h1] at h ⊢
    have e : lf = lf_p := by
      have g := congrArg (fun z : rzA => z.2.2.2.2) h
      refine Eq.trans ?_ g
      show lf = (if s = 1 ∧ rzIs T n rzW_not f = true then (0, rzN T n f, s :: rest, false, lf)
        else if s = 1 ∧ rzSg T n 40 f = true then
          (if rest.length < 8 then (0, rzN T n f, 1 :: 1 :: rest, false, lf) else (2, f, s :: rest, false, lf))
        else if rzSg T n 91 f = true then
          (if rest.length < 8 then (0, rzN T n f, 0 :: (if s = 1 then 2 else s) :: rest, false, lf) else (2, f, s :: rest, false, lf))
        else ((2, f, s :: rest, false, lf) : rzA)).2.2.2.2
      (repeat' split) <;> rfl
    omega
end RKNH
theorem rkRun_n {T : Int → Int} {n l0 : Int} {ws : List (List Int)} (hw : ws.length ≤ 8) {d : rkC} : ∀ (k : Nat) (f : Int) (lv : List Int) (pr : Bool) (lf : Int) (c : rkC), rkRun T n ws k f lv pr lf c = some d → rkW c → (rkNc c : Int) + l0 ≤ lf → lf ≤ 50 → (rkNc d : Int) + l0 ≤ 50
  | 0, f, lv, pr, lf, c, h, _, _, _ => by cases h
  | k + 1, f, [], pr, lf, c, h, _, _, _ => by cases h
  | k + 1, f, s :: rest, pr, lf, c, h, hc, h1, h2 => by
    have h : (match rzStep T n ws f (s :: rest) pr lf with
      | (0, f_p, lv_p, pr_p, lf_p) => rkRun T n ws k f_p lv_p pr_p lf_p (rkSt T n ws f (s :: rest) pr c)
      | (1, _, _, _, _) => some (rkRed 1 c)
      | _ => none) = some d := h
    have w := (rkSt_w (T := T) (n := n) (f := f) (s := s) (rest := rest) (pr := pr) hw hc).1
    match hs : rzStep T n ws f (s :: rest) pr lf, h with
    | (0, f_p, lv_p, pr_p, lf_p), h =>
      cases pr with
      | true =>
        have e := rzStep_l1 hs
        have g := rkNc_1 (T := T) (n := n) (ws := ws) (f := f) (s := s) (rest := rest) hc
        exact rkRun_n hw k f_p lv_p pr_p lf_p _ h w (by omega) (by omega)
      | false =>
        obtain ⟨e, e2⟩ := rzStep_l0 hs
        have g := rkNc_0 (T := T) (n := n) (ws := ws) (f := f) (s := s) (rest := rest) hc
        have e2 := e2 h2
        by_cases q : rzDg T n f = true ∨ 0 ≤ rzIxn T n f ws 0
        · rw [if_pos q] at e g
          exact rkRun_n hw k f_p lv_p pr_p lf_p _ h w (by omega) e2
        · rw [if_neg q] at e g
          exact rkRun_n hw k f_p lv_p pr_p lf_p _ h w (by omega) e2
    | (1, _, _, _, _), h =>
      have e : rkRed 1 c = d := Option.some.inj h
      rw [← e, rkNc_red (by omega) hc]
      omega
    | (q + 2, _, _, _, _), h => cases h
theorem rkEx_n {T : Int → Int} {n test f lf : Int} {ws : List (List Int)} {d : rkC} (hw : ws.length ≤ 8) (h0 : 0 ≤ lf) (h50 : lf ≤ 50) (h : rkEx T n ws test f lf d) : rkNc d ≤ 50 := by
  obtain ⟨k, hk⟩ := h
  have e : rkNc rkC0 = 0 := rfl
  have := rkRun_n (l0 := lf) hw k f [test] false lf rkC0 hk rkW_0 (by omega) h50
  omega
theorem rkWt_h {d : rkC} {τ : Int → List Bool} (h0 : τ 0 = []) (h : ∀ i : Int, 0 ≤ i → i < rkM d → rkRu τ (rkM d) i (rkFo d i) (rkFa d i)) : ∀ k : Nat, (k : Int) ≤ rkM d → (τ (k : Int)).length ≤ rkNu (rkFo d) k
  | 0, _ => by
    show (τ 0).length ≤ 0
    rw [h0]
    exact Nat.le_refl 0
  | k + 1, hk => by
    have q := rkWt_h h0 h k (by omega)
    have r := h (k : Int) (by omega) (by omega)
    show (τ ((k : Int) + 1)).length ≤ rkNu (rkFo d) k + (if rkFo d (k : Int) ≤ 8 then 1 else 0)
    rcases r with ⟨r1, r2, r3⟩ | ⟨r1, r2, t, r3, r4⟩ | ⟨r1, r2, t, r3, r4⟩ | ⟨r1, t, r3, r4⟩ | ⟨r1, t, r3, r4, -⟩
    · rw [r3, if_pos r2, List.length_cons]
      omega
    · rw [r3] at q
      rw [r4]
      simp only [List.length_cons] at q ⊢
      omega
    · rw [r3] at q
      rw [r4]
      simp only [List.length_cons] at q ⊢
      omega
    · rw [r3] at q
      rw [r4]
      simp only [List.length_cons] at q ⊢
      omega
    · rw [r3] at q
      rw [r4]
      simp only [List.length_cons] at q
      omega
end
section
noncomputable def rkTs : List Bool → List Int → Prop
  | [], [] => True
  | b :: t, x :: st => (b = true → x = 0 ∨ x = 1) ∧ rkTs t st
  | _, _ => False
theorem rkTs_c {b : Bool} {t : List Bool} {st : List Int} (h : rkTs (b :: t) st) : ∃ (x : Int) (st1 : List Int), st = x :: st1 ∧ (b = true → x = 0 ∨ x = 1) ∧ rkTs t st1 := by
  cases st with
  | nil => exact h.elim
  | cons x st1 => exact ⟨x, st1, rfl, h.1, h.2⟩
theorem rkTs_n {st : List Int} (h : rkTs [] st) : st = [] := by
  cases st with
  | nil => rfl
  | cons x st1 => exact h.elim
theorem rkLm_s {o : Option Int} {z : Int} (h : rkLm o = some z) : o = some z := by
  cases o with
  | none => cases h
  | some x =>
    have h : (if -1000000000 ≤ x ∧ x ≤ 1000000000 then some x else none) = some z := h
    by_cases g : -1000000000 ≤ x ∧ x ≤ 1000000000
    · rw [if_pos g] at h
      exact h
    · rw [if_neg g] at h
      cases h
theorem rkBi_c {op a b z : Int} (h1 : 25 ≤ op) (h : rkBi op a b = some z) : z = 0 ∨ z = 1 := by
  unfold rkBi at h
  rw [if_neg (by omega), if_neg (by omega), if_neg (by omega), if_neg (by omega), if_neg (by omega)] at h
  have k : ∀ (p : Prop) [Decidable p], some (if p then (1 : Int) else 0) = some z → z = 0 ∨ z = 1 := fun p _ g => by
    have g := Option.some.inj g
    by_cases q : p
    · rw [if_pos q] at g
      exact Or.inr g.symm
    · rw [if_neg q] at g
      exact Or.inl g.symm
  by_cases h2 : op = 25
  · rw [if_pos h2] at h
    exact k _ h
  rw [if_neg h2] at h
  by_cases h3 : op = 26
  · rw [if_pos h3] at h
    exact k _ h
  rw [if_neg h3] at h
  exact k _ h
end
section
section RKCY
variable {G NW : List Jvm.Cond} {AO : List String} {cl : List vw_C} {nm : Nat → String} {A : Nat → Prop} {xa : Nat → Nat} {PX : State → Prop} {l : Launch} {Dg : va_G} {L : bx_L} {md : Nat → Nat → Bool} {S : Nat → Int → Int}
variable {p : Program} {e : Env} {R : Room} {s : State} {m : MethodId} {args : Array Value} {below : List Frame} {meth : Method} {c : Code} {Q : State → Prop} {H0 H : Heap} {locs : List Loc} {ls : Array Slot} {r : Nat → Int} {ad : Nat → Nat}
variable {M : rx_Mt} {z : rx_Z} {idx : Nat}
end RKCY
section RKCZ
variable {PX : State → Prop} {Dg : va_G} {A : Nat → Prop} {ad xa : Nat → Nat} {l : Launch} {X : (Nat → Int → Int) → Prop}
variable {p : Program} {e : Env} {R : Room} {s : State} {m : MethodId} {args : Array Value} {below : List Frame} {meth : Method} {c : Code} {Q : State → Prop} {H0 : Heap}
end RKCZ
end
section
noncomputable def rkPq (S : Nat → Int → Int) (t : Nat) : Prop := S t 8 = (t : Int) + 7 ∧ S t 9 = (t : Int) + 8 ∧ S t 10 = (t : Int) + 9
noncomputable def rkQc (S0 S : Nat → Int → Int) (t s : Nat) : Prop := S t 0 = S0 s 0 ∧ S t 4 = S0 s 4 ∧ (∀ j : Int, 0 ≤ j → j < 400 → S (t + 1) j = S0 (s + 1) j) ∧ (∀ j : Int, 0 ≤ j → j < 400 → S (t + 2) j = S0 (s + 2) j) ∧ (∀ j : Int, 0 ≤ j → j < 12 → S (t + 4) j = S0 (s + 4) j) ∧ (∀ j : Int, 0 ≤ j → j < 12 → S (t + 5) j = S0 (s + 5) j) ∧ (∀ j : Int, 0 ≤ j → j < 12 → S (t + 6) j = S0 (s + 6) j) ∧ (∀ j : Int, 0 ≤ j → j < 12 → S (t + 7) j = S0 (s + 7) j) ∧ (∀ j : Int, 0 ≤ j → j < 12 → S (t + 8) j = S0 (s + 8) j) ∧ (∀ j : Int, 0 ≤ j → j < 12 → S (t + 9) j = S0 (s + 9) j) ∧ (∀ (p : Nat) (j : Int), p ≠ t → p ≠ t + 1 → p ≠ t + 2 → p ≠ t + 4 → p ≠ t + 5 → p ≠ t + 6 → p ≠ t + 7 → p ≠ t + 8 → p ≠ t + 9 → S p j = S0 p j) ∧ ∀ j : Int, j ≠ 0 → j ≠ 4 → S t j = S0 t j
noncomputable def rkAt (S : Nat → Int → Int) (t : Nat) : Nat → Int → Int := fun p j => S (p + t - 427) j
theorem rkAt_427 {S : Nat → Int → Int} : rkAt S 427 = S := by
  funext p j
  show S (p + 427 - 427) j = S p j
  rw [Nat.add_sub_cancel]
theorem rkAt_p {S : Nat → Int → Int} {t p : Nat} (h : 427 ≤ p) (j : Int) : rkAt S t p j = S (t + (p - 427)) j := by
  show S (p + t - 427) j = _
  rw [show p + t - 427 = t + (p - 427) by omega]
noncomputable def rkHl (S : Nat → Int → Int) (t : Nat) (L : List rkQ) : Prop := S t 4 = (L.length : Int) ∧ (L.length : Int) ≤ 12 ∧ S t 0 ≤ 400 ∧ rkPd (rkAt S t) 0 L
theorem rkPd_cg {S S_p : Nat → Int → Int} (z : S_p 427 0 = S 427 0) (r1 : ∀ j : Int, 0 ≤ j → j < S 427 0 → S_p 428 j = S 428 j ∧ S_p 429 j = S 429 j) (r2 : ∀ p : Nat, 431 ≤ p → p ≤ 436 → ∀ j : Int, 0 ≤ j → j < 12 → S_p p j = S p j) {L : List rkQ} (hl : (L.length : Int) ≤ 12) (h : rkPd S 0 L) : rkPd S_p 0 L :=
  rkPd_fr (c := 12) (fun i a b => r1 i a b) (by omega) (fun p a b i x y => r2 p a b i x y) (Int.le_refl 0) (by omega) h
theorem rkHl_cp {S0 S : Nat → Int → Int} {t s : Nat} {L : List rkQ} (h : rkHl S0 s L) (q : rkQc S0 S t s) : rkHl S t L := by
  obtain ⟨h1, h2, h3, h4⟩ := h
  obtain ⟨q0, q4, r1, r2, k4, k5, k6, k7, k8, k9, -, -⟩ := q
  have a0 : rkAt S t 427 0 = S t 0 := (rkAt_p (Nat.le_refl 427) 0).trans rfl
  have b0 : rkAt S0 s 427 0 = S0 s 0 := (rkAt_p (Nat.le_refl 427) 0).trans rfl
  refine ⟨q4.trans h1, h2, by omega, rkPd_cg (S := rkAt S0 s) (a0.trans (q0.trans b0.symm)) (fun j x y => ?_) (fun p a b j x y => ?_) h2 h4⟩
  · rw [b0] at y
    rw [rkAt_p (by omega), rkAt_p (by omega), rkAt_p (by omega), rkAt_p (by omega)]
    exact ⟨r1 j x (by omega), r2 j x (by omega)⟩
  · rw [rkAt_p (by omega), rkAt_p (by omega)]
    have e : p = 431 ∨ p = 432 ∨ p = 433 ∨ p = 434 ∨ p = 435 ∨ p = 436 := by omega
    rcases e with rfl | rfl | rfl | rfl | rfl | rfl
    · exact k4 j x y
    · exact k5 j x y
    · exact k6 j x y
    · exact k7 j x y
    · exact k8 j x y
    · exact k9 j x y
noncomputable def rkTl (S : Nat → Int → Int) (row b : Nat) : Prop := ∀ i : Nat, i < 6 → S row (i : Int) = ((b + 10 * i : Nat) : Int) ∧ rkPq S (b + 10 * i)
noncomputable def rkPf (S : Nat → Int → Int) : Prop := rkPq S 427 ∧ rkTl S 20 77 ∧ rkTl S 157 214 ∧ rkTl S 293 350
end
section
noncomputable def rkOl : List Nat := (List.range 60).map (fun k => 77 + k) ++ ((List.range 60).map (fun k => 214 + k) ++ (List.range 60).map (fun k => 350 + k))
noncomputable def rkOf (S0 S : Nat → Int → Int) : Prop := ∀ p i : Nat, p ∈ rkOl → i < bx_wd (rxL.1 p) → S p (i : Int) = S0 p (i : Int)
noncomputable def rkPO (S0 S : Nat → Int → Int) : Prop := rkPp S ∧ rkOf S0 S
theorem rkOf_rf {S : Nat → Int → Int} : rkOf S S := fun _ _ _ _ => rfl
theorem rkOf.tr {S0 S S_p : Nat → Int → Int} (h : rkOf S0 S) (g : rkOf S S_p) : rkOf S0 S_p := fun p i a b => (g p i a b).trans (h p i a b)
theorem rkPO_rf {S : Nat → Int → Int} (h : rkPp S) : rkPO S S := ⟨h, rkOf_rf⟩
theorem rkPO.tr {S0 S S_p : Nat → Int → Int} (h : rkPO S0 S) (g : rkPO S S_p) : rkPO S0 S_p := ⟨g.1, h.2.tr g.2⟩
theorem rkPO_up {S0 S : Nat → Int → Int} {q : Nat} {i v : Int} (hq : rkOl.contains q = false) (h8 : ¬ (q = 427 ∧ 8 ≤ i ∧ i ≤ 10)) (h : rkPO S0 S) : rkPO S0 (bx_up S q i v) := by
  obtain ⟨⟨p1, p2, p3⟩, f⟩ := h
  refine ⟨⟨(bx_up_ne (by omega)).trans p1, (bx_up_ne (by omega)).trans p2, (bx_up_ne (by omega)).trans p3⟩, fun p j a b => (bx_up_ne fun g => ?_).trans (f p j a b)⟩
  have e := g.1
  subst e
  rw [List.contains_iff_mem.mpr a] at hq
  cases hq
noncomputable def rkKc : List Nat := [6, 1021, 1022, 1023, 1024, 1025, 1026, 1027]
theorem rkOl_k0 : rkOl.all (fun p => Nat.blt p 522 && rkKc.contains (bx_mc (rxL.1 p) 0).1) = true := by decide +kernel
theorem rkOl_k {p i : Nat} (h : p ∈ rkOl) : p < 522 ∧ rkKc.contains (bx_mc (rxL.1 p) i).1 = true := by
  have q := List.all_eq_true.mp rkOl_k0 p h
  rw [Bool.and_eq_true, Nat.blt_eq] at q
  rw [bx_mc1 (rxL.1 p) i]
  exact q
theorem rkPO_sm {ms : List (Nat × Nat)} {S0 S S_p : Nat → Int → Int} (hs : bx_same rxL (bx_mdl ms) S S_p) (hk : ms.all (fun q => !(rkKc.contains q.1)) = true) (h : rkPO S0 S) : rkPO S0 S_p := by
  have z : ∀ c k : Nat, rkKc.contains c = true → bx_mdl ms c k = false := fun c k hc => by
    unfold bx_mdl
    rw [List.any_eq_false]
    intro q hq g
    rw [Bool.and_eq_true, beq_iff_eq] at g
    have w := List.all_eq_true.mp hk q hq
    rw [g.1, hc] at w
    cases w
  obtain ⟨⟨p1, p2, p3⟩, f⟩ := h
  exact ⟨⟨(hs 427 8 (by decide) (by decide) (z 6 8 (by decide))).trans p1, (hs 427 9 (by decide) (by decide) (z 6 9 (by decide))).trans p2, (hs 427 10 (by decide) (by decide) (z 6 10 (by decide))).trans p3⟩, fun p i a b => (hs p i (rkOl_k (i := i) a).1 b (z _ _ (rkOl_k a).2)).trans (f p i a b)⟩
theorem rkPO_oc {S : Nat → Int → Int} {ki st cu : Int} (h : rkPp S) : rkPO S (rkOc S ki st cu) :=
  rkPO_up (by decide +kernel) (by omega) (rkPO_up (by decide +kernel) (by omega) (rkPO_up (by decide +kernel) (by omega) (rkPO_up (by decide +kernel) (by omega) (rkPO_up (by decide +kernel) (by omega) (rkPO_up (by decide +kernel) (by omega) (rkPO_up (by decide +kernel) (by omega) (rkPO_rf h)))))))
theorem rkHl_ne {S S_p : Nat → Int → Int} {t : Nat} {L : List rkQ} (h : rkHl S t L) (e : ∀ (p : Nat) (j : Int), t ≤ p → S_p p j = S p j) : rkHl S_p t L := by
  obtain ⟨h1, h2, h3, h4⟩ := h
  have f : ∀ (p : Nat) (j : Int), 427 ≤ p → rkAt S_p t p j = rkAt S t p j := fun p j a => by
    rw [rkAt_p a, rkAt_p a]
    exact e _ j (by omega)
  exact ⟨(e t 4 (Nat.le_refl t)).trans h1, h2, by rw [e t 0 (Nat.le_refl t)]; exact h3, rkPd_cg (S := rkAt S t) (f 427 0 (by omega)) (fun j x y => ⟨f 428 j (by omega), f 429 j (by omega)⟩) (fun p a b j x y => f p j (by omega)) h2 h4⟩
noncomputable def rkOi (S0 S : Nat → Int → Int) (t : Nat) : Prop := ∀ p i : Nat, p ∈ rkOl → (p < t ∨ t + 10 ≤ p) → i < bx_wd (rxL.1 p) → S p (i : Int) = S0 p (i : Int)
noncomputable def rkLd8 (S0 S : Nat → Int → Int) : Prop := ∃ i : Nat, i < 6 ∧ S0 1 14 = (i : Int) ∧ (∃ L : List rkQ, rkText false (rzCut (S0 411)) (S0 0 4) L ∧ rkHl S (77 + 10 * i) L) ∧ rkOi S0 S (77 + 10 * i)
noncomputable def rkLd (S0 S : Nat → Int → Int) : Prop := (S 1 14 = S0 1 14 ∧ rkOf S0 S) ∨ (S 1 14 = S0 1 14 + 1 ∧ rkLd8 S0 S)
theorem rkOl_ge {p : Nat} (h : p ∈ rkOl) : 77 ≤ p := by
  unfold rkOl at h
  rw [List.mem_append, List.mem_append, List.mem_map, List.mem_map, List.mem_map] at h
  rcases h with ⟨k, -, e⟩ | ⟨k, -, e⟩ | ⟨k, -, e⟩ <;> omega
theorem rkLd8_ne {S0 S S_p : Nat → Int → Int} (h : rkLd8 S0 S) (e : ∀ (p : Nat) (j : Int), 77 ≤ p → S_p p j = S p j) : rkLd8 S0 S_p := by
  obtain ⟨i, i6, hi, ⟨L, h1, h2⟩, h3⟩ := h
  exact ⟨i, i6, hi, ⟨L, h1, rkHl_ne h2 fun p j a => e p j (by omega)⟩, fun p k a b c => (e p _ (rkOl_ge a)).trans (h3 p k a b c)⟩
theorem rkLd8_of {S0 S S_p : Nat → Int → Int} {L : List rkQ} (h : rkPO S0 S) (h1 : rkText false (rzCut (S0 411)) (S0 0 4) L) (h2 : rkHl S 427 L) (e14 : S 1 14 = S0 1 14) (g : ∃ (i : Nat) (S1 : Nat → Int → Int), i < 6 ∧ S 1 14 = (i : Int) ∧ rkQc S S1 (77 + 10 * i) 427 ∧ ∀ (p : Nat) (j : Int), ¬ (p = 1 ∧ j = 14) → S_p p j = S1 p j) : rkLd8 S0 S_p := by
  obtain ⟨i, S1, i6, hi, q, f⟩ := g
  refine ⟨i, i6, by omega, ⟨L, h1, rkHl_ne (rkHl_cp h2 q) fun p j a => f p j (by omega)⟩, fun p k a b c => ?_⟩
  have g := rkOl_ge a
  have qf := q.2.2.2.2.2.2.2.2.2.2.1
  exact ((f p _ (by omega)).trans (qf p _ (by omega) (by omega) (by omega) (by omega) (by omega) (by omega) (by omega) (by omega) (by omega))).trans (h.2 p k a c)
theorem rkPp_of {S : Nat → Int → Int} (h : rkPf S) : rkPp S := ⟨by have := h.1.1; omega, by have := h.1.2.1; omega, by have := h.1.2.2; omega⟩
theorem rkPq_sm {ms : List (Nat × Nat)} {S S_p : Nat → Int → Int} (hs : bx_same rxL (bx_mdl ms) S S_p) (hk : [(6, 8), (6, 9), (6, 10)].all (fun q => !(bx_mdl ms q.1 q.2)) = true) {t : Nat} (ht : t < 522) (h1 : bx_mc (rxL.1 t) 8 = (6, 8) ∧ bx_mc (rxL.1 t) 9 = (6, 9) ∧ bx_mc (rxL.1 t) 10 = (6, 10) ∧ 10 < bx_wd (rxL.1 t)) (h : rkPq S t) : rkPq S_p t := by
  have k : ∀ c, c = 8 ∨ c = 9 ∨ c = 10 → bx_mdl ms 6 c = false := fun c hc => by
    have hm : ((6, c) : Nat × Nat) ∈ [(6, 8), (6, 9), (6, 10)] := by rcases hc with rfl | rfl | rfl <;> decide
    have := List.all_eq_true.mp hk (6, c) hm
    rw [Bool.not_eq_true'] at this
    exact this
  obtain ⟨a1, a2, a3, a4⟩ := h1
  have e8 : S_p t 8 = S t 8 := hs t 8 ht (by omega) (by rw [a1]; exact k 8 (by decide))
  have e9 : S_p t 9 = S t 9 := hs t 9 ht (by omega) (by rw [a2]; exact k 9 (by decide))
  have e10 : S_p t 10 = S t 10 := hs t 10 ht (by omega) (by rw [a3]; exact k 10 (by decide))
  exact ⟨e8.trans h.1, e9.trans h.2.1, e10.trans h.2.2⟩
theorem rkTl_sm {ms : List (Nat × Nat)} {S S_p : Nat → Int → Int} (hs : bx_same rxL (bx_mdl ms) S S_p) (hk : [(6, 8), (6, 9), (6, 10)].all (fun q => !(bx_mdl ms q.1 q.2)) = true) (hr : bx_mdl ms 1016 0 = false) {row b : Nat} (hrow : row = 20 ∧ b = 77 ∨ row = 157 ∧ b = 214 ∨ row = 293 ∧ b = 350) (h : rkTl S row b) : rkTl S_p row b := fun i i6 => by
  obtain ⟨h1, h2⟩ := h i i6
  have e : i = 0 ∨ i = 1 ∨ i = 2 ∨ i = 3 ∨ i = 4 ∨ i = 5 := by omega
  refine ⟨?_, ?_⟩
  · refine Eq.trans ?_ h1
    rcases hrow with ⟨rfl, rfl⟩ | ⟨rfl, rfl⟩ | ⟨rfl, rfl⟩
    · exact hs 20 i (by decide) (by rcases e with rfl | rfl | rfl | rfl | rfl | rfl <;> decide) (by rcases e with rfl | rfl | rfl | rfl | rfl | rfl <;> exact hr)
    · exact hs 157 i (by decide) (by rcases e with rfl | rfl | rfl | rfl | rfl | rfl <;> decide) (by rcases e with rfl | rfl | rfl | rfl | rfl | rfl <;> exact hr)
    · exact hs 293 i (by decide) (by rcases e with rfl | rfl | rfl | rfl | rfl | rfl <;> decide) (by rcases e with rfl | rfl | rfl | rfl | rfl | rfl <;> exact hr)
  · refine rkPq_sm hs hk ?_ ?_ h2
    · show b + 10 * i < 522
      omega
    · rcases hrow with ⟨-, rfl⟩ | ⟨-, rfl⟩ | ⟨-, rfl⟩ <;> rcases e with rfl | rfl | rfl | rfl | rfl | rfl <;> decide +kernel
theorem rkPf_sm {ms : List (Nat × Nat)} {S S_p : Nat → Int → Int} (hs : bx_same rxL (bx_mdl ms) S S_p) (hk : [(6, 8), (6, 9), (6, 10)].all (fun q => !(bx_mdl ms q.1 q.2)) = true) (hr : bx_mdl ms 1016 0 = false) (h : rkPf S) : rkPf S_p :=
  ⟨rkPq_sm hs hk (by decide) (by decide +kernel) h.1, rkTl_sm hs hk hr (Or.inl ⟨rfl, rfl⟩) h.2.1, rkTl_sm hs hk hr (Or.inr (Or.inl ⟨rfl, rfl⟩)) h.2.2.1, rkTl_sm hs hk hr (Or.inr (Or.inr ⟨rfl, rfl⟩)) h.2.2.2⟩
end
section
theorem rzOp_ge {T : Int → Int} {n f s st : Int} (h : st ≠ -1) (e : st = rzOp T n f s) : 4 ≤ st := by
  unfold rzOp at e
  (repeat' split at e) <;> subst e <;> first | exact absurd rfl h | decide
end
