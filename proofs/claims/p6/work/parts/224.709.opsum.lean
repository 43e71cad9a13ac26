/-! LONGS: all five operations, by hand with their exact answers -/
def bx_opvM (o : Nat) (a b : Int) : Int := if o = 40 then a + b else if o = 41 then a - b else if o = 42 then a * b else if o = 43 then a.tdiv b else a.tmod b
def bx_rgM (a : Int) : Prop := -9223372036854775808 ≤ a ∧ a ≤ 9223372036854775807
def bx_opcM (o : Nat) (a b : Int) : Prop := bx_rgM a ∧ bx_rgM b ∧ (o = 40 → bx_rgM (a + b)) ∧ (o = 41 → bx_rgM (a - b)) ∧ (o = 42 → bx_rgM (a * b)) ∧ (o = 43 ∨ o = 44 → b ≠ 0 ∧ -9223372036854775807 ≤ a)
def bx_mdM (o : Nat) (x y : Int64) : Int64 := if o = 40 then x + y else if o = 41 then x - y else if o = 42 then x * y else if o = 43 then x / y else x - x / y * y
theorem bx_opvM_ok {o : Nat} (ho : o = 40 ∨ o = 41 ∨ o = 42 ∨ o = 43 ∨ o = 44) {a b : Int} (h : bx_opcM o a b) : (bx_mdM o (Int64.ofInt a) (Int64.ofInt b)).toInt = bx_opvM o a b := by
  obtain ⟨ha, hb, h0, h1, h2, h3⟩ := h
  unfold bx_mdM bx_opvM
  rcases ho with rfl | rfl | rfl | rfl | rfl
  · show (Int64.ofInt a + Int64.ofInt b).toInt = a + b
    rw [Int64.toInt_add, bx_toL ha, bx_toL hb, bx_bmodL (h0 rfl)]
  · show (Int64.ofInt a - Int64.ofInt b).toInt = a - b
    rw [Int64.toInt_sub, bx_toL ha, bx_toL hb, bx_bmodL (h1 rfl)]
  · show (Int64.ofInt a * Int64.ofInt b).toInt = a * b
    rw [Int64.toInt_mul, bx_toL ha, bx_toL hb, bx_bmodL (h2 rfl)]
  · show (Int64.ofInt a / Int64.ofInt b).toInt = a.tdiv b
    obtain ⟨b0, a1⟩ := h3 (Or.inl rfl)
    rw [Int64.toInt_div, bx_toL ha, bx_toL hb]
    have l : (a.tdiv b).natAbs ≤ a.natAbs := by
      rw [Int.natAbs_tdiv]
      exact Nat.div_le_self _ _
    have a2 := ha.2
    exact bx_bmodL ⟨by omega, by omega⟩
  · show (Int64.ofInt a - Int64.ofInt a / Int64.ofInt b * Int64.ofInt b).toInt = a.tmod b
    obtain ⟨b0, a1⟩ := h3 (Or.inr rfl)
    have l : (a.tdiv b).natAbs ≤ a.natAbs := by
      rw [Int.natAbs_tdiv]
      exact Nat.div_le_self _ _
    have p : (a.tdiv b * b).natAbs ≤ a.natAbs := by
      rw [Int.natAbs_mul, Int.natAbs_tdiv]
      exact Nat.div_mul_le_self _ _
    have r : (a.tmod b).natAbs ≤ a.natAbs := by
      rw [Int.natAbs_tmod]
      exact Nat.mod_le _ _
    have q : a - a.tdiv b * b = a.tmod b := by
      rw [Int.tmod_def, Int.mul_comm]
    have a2 := ha.2
    rw [Int64.toInt_sub, Int64.toInt_mul, Int64.toInt_div, bx_toL ha, bx_toL hb, bx_bmodL (a := a.tdiv b) ⟨by omega, by omega⟩, bx_bmodL (a := a.tdiv b * b) ⟨by omega, by omega⟩, q]
    exact bx_bmodL ⟨by omega, by omega⟩
section RKOP
variable {PX : State → Prop} {Dg : va_G} {A : Nat → Prop} {ad xa : Nat → Nat} {l : Launch} {X : (Nat → Int → Int) → Prop}
variable {p : Program} {e : Env} {R : Room} {s : State} {m : MethodId} {args : Array Value} {below : List Frame} {meth : Method} {c : Code} {Q : State → Prop} {H0 : Heap}
def rx_obBM (X : (Nat → Int → Int) → Prop) (Sin : Nat → Int → Int) (ms : List (Nat × Nat)) (inv : Nat → bx_SP) (mea : Nat → (Nat → Int → Int) → (Nat → Int) → Nat) (i i_p : Nat) (z : rx_Z) (o : Nat) (a b : rx_E) (lo hi : Int) : Prop :=
  ∀ (S : Nat → Int → Int) (r : Nat → Int), inv i S r → X S → bx_Inv rxL S → bx_same rxL (bx_mdl ms) Sin S → rx_sat z.1 r → rx_facts z.2.1 r →
    bx_opcM o (rx_ev r a) (rx_ev r b) ∧ ∀ r_p : Nat → Int, rx_same z.1.length r r_p → r_p 0 = 0 → r_p z.1.length = bx_opvM o (rx_ev r a) (rx_ev r b) → (lo ≤ r_p z.1.length ∧ r_p z.1.length ≤ hi) ∧ inv i_p S r_p ∧ mea i_p S r_p < mea i S r
theorem rx_stepBM {M : rx_Mt} {tab : List bx_HE} {inv : Nat → bx_SP} {mea : Nat → (Nat → Int → Int) → (Nat → Int) → Nat} {Sin : Nat → Int → Int} {ms : List (Nat × Nat)} {i i_p o : Nat} {ins : Instr} {z : rx_Z} {os : List bx_HO} {es : List (rx_End × List (Nat × Int × Int))} {q_p : bx_HE} {a b : rx_E} {lo hi : Int} {t : List rx_V}
    (hF : rx_Fr rxG rxNW rxAO PX p s m args meth c M) (ho : (o = 40 ∧ ins = .ladd) ∨ (o = 41 ∧ ins = .lsub) ∨ (o = 42 ∧ ins = .lmul) ∨ (o = 43 ∧ ins = .ldiv) ∨ (o = 44 ∧ ins = .lrem)) (hdg : decode M.2.1 (rx_zpc z) = .ok (ins, 1)) (hne : bx_noE z.2.2.1 = true) (hst : rx_zst z = .inr (1, b) :: .inr (1, a) :: t)
    (htab : tab[i_p]? = some q_p) (hq' : rx_nxI (z.1 ++ [(lo, hi)]) z 1 (.inr (1, (z.1.length, 0)) :: t) = q_p.1) (hob : rx_obBM X Sin ms inv mea i i_p z o a b lo hi) :
    bx_Step p l e R s m args below meth c Q Dg rxL X vwCl A xa H0 ad M tab inv mea Sin ms i (z, os, es) := by
  intro S r H locs ls hinv hXS hsin hR K
  obtain ⟨Sq, ⟨ws0, tys0, hInv0, hrest0⟩, -, ⟨-, hch0⟩, -⟩ := id hR.2.2.2.1
  have eSq : Sq = S := bx_noE_eq hne (hch0 rfl)
  rw [eSq] at hInv0
  have hInv0 : bx_Inv rxL S := hInv0
  obtain ⟨o1, o2⟩ := hob S r hinv hXS hInv0 hsin hR.1 hR.2.1
  have hv := bx_opvM_ok (by rcases ho with h | h | h | h | h <;> omega) o1
  have hb0 : o = 43 ∨ o = 44 → ¬ Int64.ofInt (rx_ev r b) = 0 := fun ho4 hz => by
    have h1 := (o1.2.2.2.2.2 ho4).1
    have h2 := bx_toL (a := rx_ev r b) o1.2.1
    rw [hz] at h2
    have h3 : (0 : Int64).toInt = 0 := rfl
    omega
  obtain ⟨b1, b2, b3⟩ := o2 (rx_up r z.1.length (bx_mdM o (Int64.ofInt (rx_ev r a)) (Int64.ofInt (rx_ev r b))).toInt) rx_up_same ((rx_up_same 0 (rx_pos hR.1)).trans hR.1.1) (rx_up_self.trans hv)
  rw [rx_up_self] at b1
  have hsat := rx_sat_up (lo := lo) (hi := hi) hR.1 b1.1 b1.2
  have hsc := rx_stsc hR
  rw [hst] at hsc
  have ht2 : ∀ v ∈ t, rx_sc z.1.length z.2.2.1.length v := fun v hv => hsc v (List.mem_cons_of_mem _ (List.mem_cons_of_mem _ hv))
  have hlen : z.1.length ≤ (z.1 ++ [(lo, hi)]).length := by simp
  have hN := rx_R_nxI (d := 1) (st := .inr (1, (z.1.length, 0)) :: t) hR hlen rx_up_same hsat (fun v hv => by
    rcases List.mem_cons.mp hv with h | h
    · subst h
      show z.1.length < (z.1 ++ [(lo, hi)]).length
      simp
    · exact rx_sc.mono (ht2 v h) hlen trivial)
  rw [hq'] at hN
  have k := K i_p q_p S _ H locs ls htab b2 b3 hXS hsin hN
  rw [← hq'] at k
  have ev : rx_iv (rx_up r z.1.length (bx_mdM o (Int64.ofInt (rx_ev r a)) (Int64.ofInt (rx_ev r b))).toInt) ad xa (.inr (1, (z.1.length, 0))) = Value.long (bx_mdM o (Int64.ofInt (rx_ev r a)) (Int64.ofInt (rx_ev r b))) := by
    show Value.long (Int64.ofInt (rx_ev _ (z.1.length, 0))) = _
    unfold rx_ev
    rw [rx_up_self, Int.add_zero, Int64.ofInt_toInt]
  have et := rx_st_ext (ad := ad) (ad' := ad) (xa := xa) ht2 (rx_up_same (r := r) (n := z.1.length) (z := (bx_mdM o (Int64.ofInt (rx_ev r a)) (Int64.ofInt (rx_ev r b))).toInt)) rx_sameA.rf
  have row : W p l e R s m args below meth c H locs z.2.2.2.1 z.2.2.2.2.1 Q (F0 m (rx_zpc z + 1) ls (.long (bx_mdM o (Int64.ofInt (rx_ev r a)) (Int64.ofInt (rx_ev r b))) :: t.map (rx_iv r ad xa))) → W p l e R s m args below meth c H locs z.2.2.2.1 z.2.2.2.2.1 Q (F0 m (rx_zpc z) ls (.long (Int64.ofInt (rx_ev r b)) :: .long (Int64.ofInt (rx_ev r a)) :: t.map (rx_iv r ad xa))) := fun k => by
    rcases ho with ⟨h1, h2⟩ | ⟨h1, h2⟩ | ⟨h1, h2⟩ | ⟨h1, h2⟩ | ⟨h1, h2⟩
    · subst h1
      subst h2
      exact lv_ladd hF.1 hF.2.1 hdg k
    · subst h1
      subst h2
      exact lv_lsub hF.1 hF.2.1 hdg k
    · subst h1
      subst h2
      exact lv_lmul hF.1 hF.2.1 hdg k
    · have := hb0 (Or.inl h1)
      subst h1
      subst h2
      exact lv_ldiv hF.1 hF.2.1 hdg this k
    · have := hb0 (Or.inr h1)
      subst h1
      subst h2
      exact lv_lrem hF.1 hF.2.1 hdg this k
  rw [hst]
  refine row ?_
  rw [← ev, ← et]
  obtain ⟨zI, zF, zh, zc, zs, zp, zl, zt⟩ := z
  exact k
end RKOP
