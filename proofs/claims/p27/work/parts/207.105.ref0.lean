noncomputable def bx_opvL (o : Nat) (a b : Int) : Int := if o = 20 then a * b else a / b
noncomputable def bx_opcL (o : Nat) (a b : Int) : Prop := (-9223372036854775808 ≤ a ∧ a ≤ 9223372036854775807) ∧ (-9223372036854775808 ≤ b ∧ b ≤ 9223372036854775807) ∧ (if o = 20 then -9223372036854775808 ≤ a * b ∧ a * b ≤ 9223372036854775807 else 0 ≤ a ∧ 0 < b)
noncomputable def bx_mdL (o : Nat) (x y : Int64) : Int64 := if o = 20 then x * y else x / y
theorem bx_toL {a : Int} (h : -9223372036854775808 ≤ a ∧ a ≤ 9223372036854775807) : (Int64.ofInt a).toInt = a := Int64.toInt_ofInt_of_le (by omega) (by omega)
theorem bx_bmodL {a : Int} (h : -9223372036854775808 ≤ a ∧ a ≤ 9223372036854775807) : a.bmod (2 ^ 64) = a := Int.bmod_eq_of_le (by omega) (by omega)
theorem bx_opvL_ok {o : Nat} {a b : Int} (h : bx_opcL o a b) : (bx_mdL o (Int64.ofInt a) (Int64.ofInt b)).toInt = bx_opvL o a b := by
  obtain ⟨ha, hb, hc⟩ := h
  unfold bx_mdL bx_opvL
  by_cases ho : o = 20
  · rw [if_pos ho] at hc
    rw [if_pos ho, if_pos ho, Int64.toInt_mul, bx_toL ha, bx_toL hb, bx_bmodL hc]
  · rw [if_neg ho] at hc
    rw [if_neg ho, if_neg ho, Int64.toInt_div, bx_toL ha, bx_toL hb, Int.tdiv_eq_ediv_of_nonneg hc.1]
    refine bx_bmodL ⟨?_, ?_⟩
    · have := Int.ediv_nonneg hc.1 (Int.le_of_lt hc.2)
      omega
    · have := Int.ediv_le_self b hc.1
      omega
section RXOP
variable {PX : State → Prop} {Dg : va_G} {A : Nat → Prop} {ad xa : Nat → Nat} {l : Launch} {X : (Nat → Int → Int) → Prop}
variable {p : Program} {e : Env} {R : Room} {s : State} {m : MethodId} {args : Array Value} {below : List Frame} {meth : Method} {c : Code} {Q : State → Prop} {H0 : Heap}
noncomputable def rx_obBL (X : (Nat → Int → Int) → Prop) (Sin : Nat → Int → Int) (ms : List (Nat × Nat)) (inv : Nat → bx_SP) (mea : Nat → (Nat → Int → Int) → (Nat → Int) → Nat) (i i_p : Nat) (z : rx_Z) (o : Nat) (a b : rx_E) (lo hi : Int) : Prop :=
  ∀ (S : Nat → Int → Int) (r : Nat → Int), inv i S r → X S → bx_Inv rxL S → bx_same rxL (bx_mdl ms) Sin S → rx_sat z.1 r → rx_facts z.2.1 r →
    bx_opcL o (rx_ev r a) (rx_ev r b) ∧ ∀ r_p : Nat → Int, rx_same z.1.length r r_p → r_p 0 = 0 → r_p z.1.length = bx_opvL o (rx_ev r a) (rx_ev r b) → (lo ≤ r_p z.1.length ∧ r_p z.1.length ≤ hi) ∧ inv i_p S r_p ∧ mea i_p S r_p < mea i S r
theorem rx_stepBL {M : rx_Mt} {tab : List bx_HE} {inv : Nat → bx_SP} {mea : Nat → (Nat → Int → Int) → (Nat → Int) → Nat} {Sin : Nat → Int → Int} {ms : List (Nat × Nat)} {i i_p o : Nat} {ins : Instr} {z : rx_Z} {os : List bx_HO} {es : List (rx_End × List (Nat × Int × Int))} {q_p : bx_HE} {a b : rx_E} {lo hi : Int} {t : List rx_V}
    (hF : rx_Fr rxG rxNW rxAO PX p s m args meth c M) (ho : (o = 20 ∧ ins = .lmul) ∨ (o = 21 ∧ ins = .ldiv)) (hdg : decode M.2.1 (rx_zpc z) = .ok (ins, 1)) (hne : bx_noE z.2.2.1 = true) (hst : rx_zst z = .inr (1, b) :: .inr (1, a) :: t)
    (htab : tab[i_p]? = some q_p) (hq_p : rx_nxI (z.1 ++ [(lo, hi)]) z 1 (.inr (1, (z.1.length, 0)) :: t) = q_p.1) (hob : rx_obBL X Sin ms inv mea i i_p z o a b lo hi) :
    bx_Step p l e R s m args below meth c Q Dg rxL X vwCl A xa H0 ad M tab inv mea Sin ms i (z, os, es) := by
  intro S r H locs ls hinv hXS hsin hR K
  obtain ⟨Sq, ⟨ws0, tys0, hInv0, hrest0⟩, -, ⟨-, hch0⟩, -⟩ := id hR.2.2.2.1
  have eSq : Sq = S := bx_noE_eq hne (hch0 rfl)
  rw [eSq] at hInv0
  have hInv0 : bx_Inv rxL S := hInv0
  obtain ⟨o1, o2⟩ := hob S r hinv hXS hInv0 hsin hR.1 hR.2.1
  have hv := bx_opvL_ok o1
  have hb0 : o = 21 → ¬ Int64.ofInt (rx_ev r b) = 0 := fun ho4 hz => by
    subst ho4
    have h1 : 0 ≤ rx_ev r a ∧ 0 < rx_ev r b := o1.2.2
    have h2 := bx_toL (a := rx_ev r b) (by have := o1.2.1; omega)
    rw [hz] at h2
    have h3 : (0 : Int64).toInt = 0 := rfl
    omega
  obtain ⟨b1, b2, b3⟩ := o2 (rx_up r z.1.length (bx_mdL o (Int64.ofInt (rx_ev r a)) (Int64.ofInt (rx_ev r b))).toInt) rx_up_same ((rx_up_same 0 (rx_pos hR.1)).trans hR.1.1) (rx_up_self.trans hv)
  rw [rx_up_self] at b1
  have hsat := rx_sat_up (lo := lo) (hi := hi) hR.1 b1.1 b1.2
  have hsc := rx_stsc hR
  rw [hst] at hsc
  have ht2 : ∀ v ∈ t, rx_sc z.1.length z.2.2.1.length v := fun v hv => hsc v (List.mem_cons_of_mem _ (List.mem_cons_of_mem _ hv))
  have hlen : z.1.length ≤ (z.1 ++ [(lo, hi)]).length := by simp
  have hN := rx_R_nxI (d := 1) (st := .inr (1, (z.1.length, 0)) :: t) hR hlen rx_up_same hsat (fun v hv => by
    rcases List.mem_cons.mp hv with h | h
    · subst h
      show z.1.length < (z.1 ++ [(lo, hi)]).length
      simp
    · exact rx_sc.mono (ht2 v h) hlen trivial)
  rw [hq_p] at hN
  have k := K i_p q_p S _ H locs ls htab b2 b3 hXS hsin hN
  rw [← hq_p] at k
  have ev : rx_iv (rx_up r z.1.length (bx_mdL o (Int64.ofInt (rx_ev r a)) (Int64.ofInt (rx_ev r b))).toInt) ad xa (.inr (1, (z.1.length, 0))) = Value.long (bx_mdL o (Int64.ofInt (rx_ev r a)) (Int64.ofInt (rx_ev r b))) := by
    show Value.long (Int64.ofInt (rx_ev _ (z.1.length, 0))) = _
    unfold rx_ev
    rw [rx_up_self, Int.add_zero, Int64.ofInt_toInt]
  have et := rx_st_ext (ad := ad) (ad_p := ad) (xa := xa) ht2 (rx_up_same (r := r) (n := z.1.length) (z := (bx_mdL o (Int64.ofInt (rx_ev r a)) (Int64.ofInt (rx_ev r b))).toInt)) rx_sameA.rf
  have row : W p l e R s m args below meth c H locs z.2.2.2.1 z.2.2.2.2.1 Q (F0 m (rx_zpc z + 1) ls (.long (bx_mdL o (Int64.ofInt (rx_ev r a)) (Int64.ofInt (rx_ev r b))) :: t.map (rx_iv r ad xa))) → W p l e R s m args below meth c H locs z.2.2.2.1 z.2.2.2.2.1 Q (F0 m (rx_zpc z) ls (.long (Int64.ofInt (rx_ev r b)) :: .long (Int64.ofInt (rx_ev r a)) :: t.map (rx_iv r ad xa))) := fun k => by
    rcases ho with ⟨h1, h2⟩ | ⟨h1, h2⟩
    · subst h1
      subst h2
      exact lv_lmul hF.1 hF.2.1 hdg k
    · have := hb0 h1
      subst h1
      subst h2
      exact lv_ldiv hF.1 hF.2.1 hdg this k
  rw [hst]
  refine row ?_
  rw [← ev, ← et]
  obtain ⟨zI, zF, zh, zc, zs, zp, zl, zt⟩ := z
  exact k
end RXOP
noncomputable def bx_opvA (_o : Nat) (a b : Int) : Int := a + b
noncomputable def bx_opcA (_o : Nat) (a b : Int) : Prop := (-9223372036854775808 ≤ a ∧ a ≤ 9223372036854775807) ∧ (-9223372036854775808 ≤ b ∧ b ≤ 9223372036854775807) ∧ (-9223372036854775808 ≤ a + b ∧ a + b ≤ 9223372036854775807)
noncomputable def bx_mdA (_o : Nat) (x y : Int64) : Int64 := x + y
theorem bx_opvA_ok {o : Nat} {a b : Int} (h : bx_opcA o a b) : (bx_mdA o (Int64.ofInt a) (Int64.ofInt b)).toInt = bx_opvA o a b := by
  obtain ⟨ha, hb, hc⟩ := h
  unfold bx_mdA bx_opvA
  rw [Int64.toInt_add, bx_toL ha, bx_toL hb, bx_bmodL hc]
section RXOP
variable {PX : State → Prop} {Dg : va_G} {A : Nat → Prop} {ad xa : Nat → Nat} {l : Launch} {X : (Nat → Int → Int) → Prop}
variable {p : Program} {e : Env} {R : Room} {s : State} {m : MethodId} {args : Array Value} {below : List Frame} {meth : Method} {c : Code} {Q : State → Prop} {H0 : Heap}
noncomputable def rx_obBA (X : (Nat → Int → Int) → Prop) (Sin : Nat → Int → Int) (ms : List (Nat × Nat)) (inv : Nat → bx_SP) (mea : Nat → (Nat → Int → Int) → (Nat → Int) → Nat) (i i_p : Nat) (z : rx_Z) (o : Nat) (a b : rx_E) (lo hi : Int) : Prop :=
  ∀ (S : Nat → Int → Int) (r : Nat → Int), inv i S r → X S → bx_Inv rxL S → bx_same rxL (bx_mdl ms) Sin S → rx_sat z.1 r → rx_facts z.2.1 r →
    bx_opcA o (rx_ev r a) (rx_ev r b) ∧ ∀ r_p : Nat → Int, rx_same z.1.length r r_p → r_p 0 = 0 → r_p z.1.length = bx_opvA o (rx_ev r a) (rx_ev r b) → (lo ≤ r_p z.1.length ∧ r_p z.1.length ≤ hi) ∧ inv i_p S r_p ∧ mea i_p S r_p < mea i S r
theorem rx_stepBA {M : rx_Mt} {tab : List bx_HE} {inv : Nat → bx_SP} {mea : Nat → (Nat → Int → Int) → (Nat → Int) → Nat} {Sin : Nat → Int → Int} {ms : List (Nat × Nat)} {i i_p o : Nat} {ins : Instr} {z : rx_Z} {os : List bx_HO} {es : List (rx_End × List (Nat × Int × Int))} {q_p : bx_HE} {a b : rx_E} {lo hi : Int} {t : List rx_V}
    (hF : rx_Fr rxG rxNW rxAO PX p s m args meth c M) (ho : o = 25 ∧ ins = .ladd) (hdg : decode M.2.1 (rx_zpc z) = .ok (ins, 1)) (hne : bx_noE z.2.2.1 = true) (hst : rx_zst z = .inr (1, b) :: .inr (1, a) :: t)
    (htab : tab[i_p]? = some q_p) (hq_p : rx_nxI (z.1 ++ [(lo, hi)]) z 1 (.inr (1, (z.1.length, 0)) :: t) = q_p.1) (hob : rx_obBA X Sin ms inv mea i i_p z o a b lo hi) :
    bx_Step p l e R s m args below meth c Q Dg rxL X vwCl A xa H0 ad M tab inv mea Sin ms i (z, os, es) := by
  intro S r H locs ls hinv hXS hsin hR K
  obtain ⟨Sq, ⟨ws0, tys0, hInv0, hrest0⟩, -, ⟨-, hch0⟩, -⟩ := id hR.2.2.2.1
  have eSq : Sq = S := bx_noE_eq hne (hch0 rfl)
  rw [eSq] at hInv0
  have hInv0 : bx_Inv rxL S := hInv0
  obtain ⟨o1, o2⟩ := hob S r hinv hXS hInv0 hsin hR.1 hR.2.1
  have hv := bx_opvA_ok o1
  obtain ⟨b1, b2, b3⟩ := o2 (rx_up r z.1.length (bx_mdA o (Int64.ofInt (rx_ev r a)) (Int64.ofInt (rx_ev r b))).toInt) rx_up_same ((rx_up_same 0 (rx_pos hR.1)).trans hR.1.1) (rx_up_self.trans hv)
  rw [rx_up_self] at b1
  have hsat := rx_sat_up (lo := lo) (hi := hi) hR.1 b1.1 b1.2
  have hsc := rx_stsc hR
  rw [hst] at hsc
  have ht2 : ∀ v ∈ t, rx_sc z.1.length z.2.2.1.length v := fun v hv => hsc v (List.mem_cons_of_mem _ (List.mem_cons_of_mem _ hv))
  have hlen : z.1.length ≤ (z.1 ++ [(lo, hi)]).length := by simp
  have hN := rx_R_nxI (d := 1) (st := .inr (1, (z.1.length, 0)) :: t) hR hlen rx_up_same hsat (fun v hv => by
    rcases List.mem_cons.mp hv with h | h
    · subst h
      show z.1.length < (z.1 ++ [(lo, hi)]).length
      simp
    · exact rx_sc.mono (ht2 v h) hlen trivial)
  rw [hq_p] at hN
  have k := K i_p q_p S _ H locs ls htab b2 b3 hXS hsin hN
  rw [← hq_p] at k
  have ev : rx_iv (rx_up r z.1.length (bx_mdA o (Int64.ofInt (rx_ev r a)) (Int64.ofInt (rx_ev r b))).toInt) ad xa (.inr (1, (z.1.length, 0))) = Value.long (bx_mdA o (Int64.ofInt (rx_ev r a)) (Int64.ofInt (rx_ev r b))) := by
    show Value.long (Int64.ofInt (rx_ev _ (z.1.length, 0))) = _
    unfold rx_ev
    rw [rx_up_self, Int.add_zero, Int64.ofInt_toInt]
  have et := rx_st_ext (ad := ad) (ad_p := ad) (xa := xa) ht2 (rx_up_same (r := r) (n := z.1.length) (z := (bx_mdA o (Int64.ofInt (rx_ev r a)) (Int64.ofInt (rx_ev r b))).toInt)) rx_sameA.rf
  have row : W p l e R s m args below meth c H locs z.2.2.2.1 z.2.2.2.2.1 Q (F0 m (rx_zpc z + 1) ls (.long (bx_mdA o (Int64.ofInt (rx_ev r a)) (Int64.ofInt (rx_ev r b))) :: t.map (rx_iv r ad xa))) → W p l e R s m args below meth c H locs z.2.2.2.1 z.2.2.2.2.1 Q (F0 m (rx_zpc z) ls (.long (Int64.ofInt (rx_ev r b)) :: .long (Int64.ofInt (rx_ev r a)) :: t.map (rx_iv r ad xa))) := fun k => by
    obtain ⟨h1, h2⟩ := ho
    subst h1
    subst h2
    exact lv_ladd hF.1 hF.2.1 hdg k
  rw [hst]
  refine row ?_
  rw [← ev, ← et]
  obtain ⟨zI, zF, zh, zc, zs, zp, zl, zt⟩ := z
  exact k
end RXOP
theorem rzHs_le {T : Int → Int} {f : Int} : ∀ {m : Nat}, m ≤ 10 → (∀ i : Nat, i < m → 97 ≤ T (f + (i : Int)) ∧ T (f + (i : Int)) ≤ 122) → rzHs T f m < 32 ^ m
  | 0, _, _ => (by decide : (0 : Int) < 32 ^ 0)
  | m + 1, hm, h => by
    have h1 := rzHs_le (m := m) (by omega) fun i hi => h i (by omega)
    have g := h m (by omega)
    show (if m < 10 then rzHs T f m * 32 + T (f + (m : Int)) - 96 else -1) < 32 ^ (m + 1)
    rw [if_pos (by omega), Int.pow_succ]
    omega
theorem rzHs_9 {T : Int → Int} {f : Int} {m : Nat} (hm : m ≤ 9) (h : ∀ i : Nat, i < m → 97 ≤ T (f + (i : Int)) ∧ T (f + (i : Int)) ≤ 122) : 0 ≤ rzHs T f m ∧ rzHs T f m < 35184372088832 := by
  refine ⟨(rzHs_nn (by omega) h).1, Int.lt_of_lt_of_le (rzHs_le (by omega) h) ?_⟩
  have : ∀ k : Nat, k < 10 → (32 : Int) ^ k ≤ 35184372088832 := by decide
  exact this m (by omega)
noncomputable def rzDq (S : Nat → Int → Int) : Prop := 0 ≤ S 480 9 ∧ S 480 9 ≤ S 480 8 ∧ S 480 8 ≤ 400 ∧ S 480 10 = rzT (rzCut (S 485)) (S 480 8) (S 480 9) ∧
  ((S 480 11 = 0 ∧ S 480 9 = S 480 8 ∧ S 480 12 = 0) ∨
   (S 480 11 = 1 ∧ S 480 9 < S 480 8 ∧ rzL (rzCut (S 485) (S 480 9)) = true ∧ S 480 12 = rzHs (rzCut (S 485)) (S 480 9) (S 480 10 - S 480 9).toNat) ∨
   (S 480 11 = 2 ∧ S 480 9 < S 480 8 ∧ rzL (rzCut (S 485) (S 480 9)) = false ∧ rzG (rzCut (S 485) (S 480 9)) = true ∧ S 480 12 = rzDv (rzCut (S 485)) (S 480 9) (S 480 10 - S 480 9).toNat) ∨
   (S 480 11 = 3 ∧ S 480 9 < S 480 8 ∧ rzL (rzCut (S 485) (S 480 9)) = false ∧ rzG (rzCut (S 485) (S 480 9)) = false ∧ S 480 12 = rzCut (S 485) (S 480 9)))
theorem rzDq_tk {S : Nat → Int → Int} (h : rzDq S) : rxTk S := by
  obtain ⟨h0, h1, h2, h3, h4⟩ := h
  have b := rzT_b (T := rzCut (S 485)) (n := S 480 8) (f := S 480 9)
  rw [← h3] at b
  have b2 := b.2.1 h1
  refine ⟨h0, b.1, b2, fun q => ?_, fun q q2 => ?_, fun q => ?_⟩
  · rcases h4 with h4 | h4 | h4 | h4
    · omega
    · exact b.2.2 h4.2.1
    · exact b.2.2 h4.2.1
    · exact b.2.2 h4.2.1
  · rcases h4 with h4 | ⟨c1, c2, c3, c4⟩ | h4 | h4
    · omega
    · have b3 := b.2.2 c2
      by_cases e : S 480 9 + 2 ≤ S 480 10
      · exact e
      · rw [show (S 480 10 - S 480 9).toNat = 1 by omega] at c4
        have c5 := rzL_b c3
        have c6 : rzHs (rzCut (S 485)) (S 480 9) 1 = 0 * 32 + rzCut (S 485) (S 480 9 + ((0 : Nat) : Int)) - 96 := rfl
        rw [show S 480 9 + ((0 : Nat) : Int) = S 480 9 by omega] at c6
        omega
    · omega
    · omega
  · rcases h4 with h4 | h4 | ⟨c1, c2, c3, c4, c5⟩ | h4
    · omega
    · omega
    · rw [c5]
      exact (rzNm_dv _ fun i hi => rzG_b (rzT_gs c2 c3 c4 (by omega) (by omega))).1
    · omega
noncomputable def rzK0 (n f to a wo : Int) : Prop := a = 0 ∧ f = n ∧ to = f ∧ wo = 0
noncomputable def rzK1 (T : Int → Int) (n f to a wo : Int) : Prop := a = 1 ∧ f < n ∧ rzL (T f) = true ∧ f ≤ to ∧ to ≤ n ∧ rzE (fun i => rzL (T i)) n to = rzT T n f ∧ wo = rzHs T f (to - f).toNat
noncomputable def rzK1e (T : Int → Int) (n f to a wo : Int) : Prop := a = 1 ∧ f < n ∧ rzL (T f) = true ∧ to = rzT T n f ∧ wo = rzHs T f (to - f).toNat
noncomputable def rzK2 (T : Int → Int) (n f to a wo : Int) : Prop := a = 2 ∧ f < n ∧ rzL (T f) = false ∧ rzG (T f) = true ∧ f ≤ to ∧ to ≤ n ∧ rzE (fun i => rzG (T i)) n to = rzT T n f ∧ wo = rzDv T f (to - f).toNat
noncomputable def rzK3 (T : Int → Int) (n f to a wo : Int) : Prop := a = 3 ∧ f < n ∧ rzL (T f) = false ∧ rzG (T f) = false ∧ to = f + 1 ∧ wo = T f
noncomputable def rzKa (T : Int → Int) (n f to a wo : Int) : Prop := rzK0 n f to a wo ∨ rzK3 T n f to a wo ∨ rzK1 T n f to a wo ∨ rzK2 T n f to a wo
noncomputable def rzKb (T : Int → Int) (n f to a wo : Int) : Prop := rzK0 n f to a wo ∨ rzK3 T n f to a wo ∨ rzK1e T n f to a wo ∨ rzK2 T n f to a wo
theorem rzKa_c {T : Int → Int} {n f to a wo f_p to_p a_p wo_p : Int} (e1 : f_p = f) (e2 : to_p = to) (e3 : a_p = a) (e4 : wo_p = wo) (h : rzKa T n f to a wo) : rzKa T n f_p to_p a_p wo_p := by
  rw [e1, e2, e3, e4]
  exact h
theorem rzKb_c {T : Int → Int} {n f to a wo f_p to_p a_p wo_p : Int} (e1 : f_p = f) (e2 : to_p = to) (e3 : a_p = a) (e4 : wo_p = wo) (h : rzKb T n f to a wo) : rzKb T n f_p to_p a_p wo_p := by
  rw [e1, e2, e3, e4]
  exact h
theorem rzK1_0 {T : Int → Int} {n f : Int} (h : f < n) (hl : rzL (T f) = true) : rzK1 T n f f 1 0 := by
  refine ⟨rfl, h, hl, Int.le_refl _, by omega, ?_, ?_⟩
  · rw [rzT_l h hl]
    exact rzE_y (q := fun i => rzL (T i)) h hl
  · rw [show (f - f).toNat = 0 by omega]
    rfl
theorem rzK2_0 {T : Int → Int} {n f : Int} (h : f < n) (hl : rzL (T f) = false) (hg : rzG (T f) = true) : rzK2 T n f f 2 0 := by
  refine ⟨rfl, h, hl, hg, Int.le_refl _, by omega, ?_, ?_⟩
  · rw [rzT_g h hl hg]
    exact rzE_y (q := fun i => rzG (T i)) h hg
  · rw [show (f - f).toNat = 0 by omega]
    rfl
theorem rzK1_s {T : Int → Int} {n f to a wo : Int} (h : rzK1 T n f to a wo) (ht : to < n) (hl : rzL (T to) = true) (hd : to - f < 10) : rzK1 T n f (to + 1) a (wo * 32 + T to - 96) := by
  obtain ⟨h1, h2, h3, h4, h5, h6, h7⟩ := h
  refine ⟨h1, h2, h3, by omega, by omega, (rzE_y (q := fun i => rzL (T i)) ht hl).symm.trans h6, ?_⟩
  rw [show (to + 1 - f).toNat = (to - f).toNat + 1 by omega]
  show _ = (if (to - f).toNat < 10 then rzHs T f (to - f).toNat * 32 + T (f + ((to - f).toNat : Int)) - 96 else -1)
  rw [if_pos (by omega), ← h7, show f + ((to - f).toNat : Int) = to by omega]
theorem rzK1_m {T : Int → Int} {n f to a wo : Int} (h : rzK1 T n f to a wo) (ht : to < n) (hl : rzL (T to) = true) (hd : 10 ≤ to - f) : rzK1 T n f (to + 1) a (-1) := by
  obtain ⟨h1, h2, h3, h4, h5, h6, h7⟩ := h
  refine ⟨h1, h2, h3, by omega, by omega, (rzE_y (q := fun i => rzL (T i)) ht hl).symm.trans h6, ?_⟩
  rw [show (to + 1 - f).toNat = (to - f).toNat + 1 by omega]
  exact (if_neg (by omega)).symm
theorem rzK1_e {T : Int → Int} {n f to a wo : Int} (h : rzK1 T n f to a wo) (he : ¬ (to < n ∧ rzL (T to) = true)) : rzK1e T n f to a wo := by
  obtain ⟨h1, h2, h3, h4, h5, h6, h7⟩ := h
  exact ⟨h1, h2, h3, (rzE_n (q := fun i => rzL (T i)) he).symm.trans h6, h7⟩
theorem rzK1_r {T : Int → Int} {n f to a wo : Int} (h : rzK1 T n f to a wo) (hd : to - f < 10) : 0 ≤ wo ∧ wo ≤ 35184372088832 := by
  obtain ⟨h1, h2, h3, h4, h5, h6, h7⟩ := h
  have b := (rzE_b (q := fun i => rzL (T i)) (n := n) (k := to)).1
  have q := rzHs_9 (T := T) (f := f) (m := (to - f).toNat) (by omega) fun i hi => rzL_b (rzT_ls h2 h3 (by omega) (by omega))
  omega
theorem rzK2_s {T : Int → Int} {n f to a wo : Int} (h : rzK2 T n f to a wo) (ht : to < n) (hg : rzG (T to) = true) (hd : wo ≤ 1000000) : rzK2 T n f (to + 1) a (wo * 10 + T to - 48) := by
  obtain ⟨h1, h2, h3, h3b, h4, h5, h6, h7⟩ := h
  refine ⟨h1, h2, h3, h3b, by omega, by omega, (rzE_y (q := fun i => rzG (T i)) ht hg).symm.trans h6, ?_⟩
  rw [show (to + 1 - f).toNat = (to - f).toNat + 1 by omega]
  show _ = (if 1000000 < rzDv T f (to - f).toNat then rzDv T f (to - f).toNat else rzDv T f (to - f).toNat * 10 + T (f + ((to - f).toNat : Int)) - 48)
  rw [if_neg (by omega), ← h7, show f + ((to - f).toNat : Int) = to by omega]
theorem rzK2_m {T : Int → Int} {n f to a wo : Int} (h : rzK2 T n f to a wo) (ht : to < n) (hg : rzG (T to) = true) (hd : 1000000 < wo) : rzK2 T n f (to + 1) a wo := by
  obtain ⟨h1, h2, h3, h3b, h4, h5, h6, h7⟩ := h
  refine ⟨h1, h2, h3, h3b, by omega, by omega, (rzE_y (q := fun i => rzG (T i)) ht hg).symm.trans h6, ?_⟩
  rw [show (to + 1 - f).toNat = (to - f).toNat + 1 by omega]
  exact h7.trans (if_pos (by omega)).symm
theorem rzK2_r {T : Int → Int} {n f to a wo : Int} (h : rzK2 T n f to a wo) : 0 ≤ wo := by
  obtain ⟨h1, h2, h3, h3b, h4, h5, h6, h7⟩ := h
  have b := (rzE_b (q := fun i => rzG (T i)) (n := n) (k := to)).1
  rw [h7]
  exact (rzNm_dv _ fun i hi => rzG_b (rzT_gs h2 h3 h3b (by omega) (by omega))).1
theorem rzDq_of {S0 S : Nat → Int → Int} (k1 : S 485 = S0 485) (k2 : S 480 8 = S0 480 8) (h0 : 0 ≤ S 480 9) (h1 : S 480 9 ≤ S 480 8) (h2 : S 480 8 ≤ 400) (h : rzKb (rzCut (S0 485)) (S0 480 8) (S 480 9) (S 480 10) (S 480 11) (S 480 12)) (he : S 480 11 = 2 → ¬ (S 480 10 < S0 480 8 ∧ rzG (rzCut (S0 485) (S 480 10)) = true)) : rzDq S := by
  unfold rzDq
  rw [k1, k2]
  refine ⟨h0, by omega, by omega, ?_⟩
  rcases h with ⟨a1, a2, a3, a4⟩ | ⟨a1, a2, a3, a4, a5, a6⟩ | ⟨a1, a2, a3, a4, a5⟩ | ⟨a1, a2, a3, a4, a5, a6, a7, a8⟩
  · exact ⟨by rw [rzT_e (by omega)]; omega, Or.inl ⟨a1, a2, a4⟩⟩
  · exact ⟨by rw [rzT_s a2 a3 a4]; exact a5, Or.inr (Or.inr (Or.inr ⟨a1, a2, a3, a4, a6⟩))⟩
  · exact ⟨a4, Or.inr (Or.inl ⟨a1, a2, a3, a5⟩)⟩
  · exact ⟨(rzE_n (q := fun i => rzG (rzCut (S0 485) i)) (he a1)).symm.trans a7, Or.inr (Or.inr (Or.inl ⟨a1, a2, a3, a4, a8⟩))⟩
noncomputable def rxCNXX : bx_Ct := ([(3, (1, 480, 0))], none, [(12, 9), (12, 10), (12, 11), (12, 12)], 1, [])
noncomputable def rxINXX_0 (S0 : Nat → Int → Int) (ws : List Int) (S : Nat → Int → Int) : Prop := S = S0 ∧ ws = [480]
noncomputable def rxmNXX_0 (S0 : Nat → Int → Int) (ws : List Int) (S : Nat → Int → Int) : Nat := 100000 * 20
noncomputable def rxzNXX_0 : rx_Z := ([(0, 0), (0, 0), (0, 0), (0, 0), (0, 0), (0, 0), (0, 0), (0, 0)], [], [], 0, 0, 0, [(0, .inr (3, (0, 480)))], [])
noncomputable def rxINXX_1 (S0 : Nat → Int → Int) (ws : List Int) (S : Nat → Int → Int) : Prop := S 485 = S0 485 ∧ S 480 8 = S0 480 8 ∧ 0 ≤ S 480 9 ∧ S 480 9 ≤ S0 480 8 ∧ S0 480 10 ≤ S 480 9 ∧ rzE (fun i => decide ((rzCut (S0 485)) i = 32)) (S0 480 8) (S 480 9) = rzF (rzCut (S0 485)) (S0 480 8) (S0 480 10)
noncomputable def rxmNXX_1 (S0 : Nat → Int → Int) (ws : List Int) (S : Nat → Int → Int) : Nat := 100000 * 10 + 10 * (1000 - S 480 9).toNat
noncomputable def rxzNXX_1 : rx_Z := ([(0, 0), (0, 0), (0, 0), (0, 0), (0, 0), (0, 0), (0, 0), (0, 0)], [], [], 0, 0, 8, [(0, .inr (3, (0, 480)))], [])
noncomputable def rxINXX_2 (S0 : Nat → Int → Int) (ws : List Int) (S : Nat → Int → Int) : Prop := S 485 = S0 485 ∧ S 480 8 = S0 480 8 ∧ S0 480 10 ≤ S 480 9 ∧ S 480 9 = rzF (rzCut (S0 485)) (S0 480 8) (S0 480 10)
noncomputable def rxmNXX_2 (S0 : Nat → Int → Int) (ws : List Int) (S : Nat → Int → Int) : Nat := 100000 * 9 + 0
noncomputable def rxzNXX_2 : rx_Z := ([(0, 0), (0, 0), (0, 0), (0, 0), (0, 0), (0, 0), (0, 0), (0, 0)], [], [], 0, 0, 46, [(0, .inr (3, (0, 480)))], [])
noncomputable def rxINXX_3 (S0 : Nat → Int → Int) (ws : List Int) (S : Nat → Int → Int) (t f g : Int) : Prop := (S 485 = S0 485 ∧ S 480 8 = S0 480 8 ∧ S0 480 10 ≤ S 480 9 ∧ S 480 9 = rzF (rzCut (S0 485)) (S0 480 8) (S0 480 10)) ∧ S 480 9 = f ∧ S 480 8 = t ∧ S 480 10 = g ∧ g = f ∧ S 480 12 = 0
noncomputable def rxmNXX_3 (S0 : Nat → Int → Int) (ws : List Int) (S : Nat → Int → Int) (t f g : Int) : Nat := 100000 * 8 + 0
noncomputable def rxzNXX_3 : rx_Z := ([(0, 0), (0, 0), (0, 0), (0, 0), (0, 0), (0, 0), (0, 0), (0, 0), (1, 400), (0, 399), (0, 399)], [(0, (9, 0), (8, 0))], [(((0, 480), 8), .inr (0, (8, 0))), (((0, 480), 9), .inr (0, (9, 0))), (((0, 480), 10), .inr (0, (10, 0)))], 0, 0, 75, [(0, .inr (3, (0, 480)))], [.inr (3, (0, 480))])
noncomputable def rxINXX_4 (S0 : Nat → Int → Int) (ws : List Int) (S : Nat → Int → Int) : Prop := S 485 = S0 485 ∧ S 480 8 = S0 480 8 ∧ S0 480 10 ≤ S 480 9 ∧ S 480 9 = rzF (rzCut (S0 485)) (S0 480 8) (S0 480 10) ∧ rzKa (rzCut (S0 485)) (S0 480 8) (S 480 9) (S 480 10) (S 480 11) (S 480 12)
noncomputable def rxmNXX_4 (S0 : Nat → Int → Int) (ws : List Int) (S : Nat → Int → Int) : Nat := 100000 * 7 + 10 * (1000 - S 480 10).toNat + 9
noncomputable def rxzNXX_4 : rx_Z := ([(0, 0), (0, 0), (0, 0), (0, 0), (0, 0), (0, 0), (0, 0), (0, 0)], [], [], 0, 0, 149, [(0, .inr (3, (0, 480)))], [])
noncomputable def rxINXX_5 (S0 : Nat → Int → Int) (ws : List Int) (S : Nat → Int → Int) (w t : Int) : Prop := (S 485 = S0 485 ∧ S 480 8 = S0 480 8 ∧ S0 480 10 ≤ S 480 9 ∧ S 480 9 = rzF (rzCut (S0 485)) (S0 480 8) (S0 480 10) ∧ rzK1 (rzCut (S0 485)) (S0 480 8) (S 480 9) (S 480 10) (S 480 11) w ∧ S 480 10 = t ∧ t < S0 480 8 ∧ rzL ((rzCut (S0 485)) t) = true ∧ t - S 480 9 < 10)
noncomputable def rxmNXX_5 (S0 : Nat → Int → Int) (ws : List Int) (S : Nat → Int → Int) (w t : Int) : Nat := 100000 * 7 + 10 * (1000 - S 480 10).toNat + 8
noncomputable def rxzNXX_5 : rx_Z := ([(0, 0), (0, 0), (0, 0), (0, 0), (0, 0), (0, 0), (0, 0), (0, 0), (0, 35184372088832), (0, 399)], [], [(((0, 480), 10), .inr (0, (9, 0)))], 0, 0, 205, [(0, .inr (3, (0, 480)))], [.inr (1, (0, 32)), .inr (1, (8, 0)), .inr (3, (0, 480))])
noncomputable def rxINXX_6 (S0 : Nat → Int → Int) (ws : List Int) (S : Nat → Int → Int) (w t y : Int) : Prop := (S 485 = S0 485 ∧ S 480 8 = S0 480 8 ∧ S0 480 10 ≤ S 480 9 ∧ S 480 9 = rzF (rzCut (S0 485)) (S0 480 8) (S0 480 10) ∧ rzK1 (rzCut (S0 485)) (S0 480 8) (S 480 9) (S 480 10) (S 480 11) w ∧ S 480 10 = t ∧ t < S0 480 8 ∧ rzL ((rzCut (S0 485)) t) = true ∧ t - S 480 9 < 10) ∧ y = w * 32
noncomputable def rxmNXX_6 (S0 : Nat → Int → Int) (ws : List Int) (S : Nat → Int → Int) (w t y : Int) : Nat := 100000 * 7 + 10 * (1000 - S 480 10).toNat + 7
noncomputable def rxzNXX_6 : rx_Z := ([(0, 0), (0, 0), (0, 0), (0, 0), (0, 0), (0, 0), (0, 0), (0, 0), (0, 35184372088832), (0, 399), (0, 1125899906842624)], [], [(((0, 480), 10), .inr (0, (9, 0)))], 0, 0, 206, [(0, .inr (3, (0, 480)))], [.inr (1, (10, 0)), .inr (3, (0, 480))])
noncomputable def rxINXX_7 (S0 : Nat → Int → Int) (ws : List Int) (S : Nat → Int → Int) (y c t : Int) : Prop := ∃ w : Int, (S 485 = S0 485 ∧ S 480 8 = S0 480 8 ∧ S0 480 10 ≤ S 480 9 ∧ S 480 9 = rzF (rzCut (S0 485)) (S0 480 8) (S0 480 10) ∧ rzK1 (rzCut (S0 485)) (S0 480 8) (S 480 9) (S 480 10) (S 480 11) w ∧ S 480 10 = t ∧ t < S0 480 8 ∧ rzL ((rzCut (S0 485)) t) = true ∧ t - S 480 9 < 10) ∧ y = w * 32 ∧ c = (rzCut (S0 485)) t
noncomputable def rxmNXX_7 (S0 : Nat → Int → Int) (ws : List Int) (S : Nat → Int → Int) (y c t : Int) : Nat := 100000 * 7 + 10 * (1000 - S 480 10).toNat + 6
noncomputable def rxzNXX_7 : rx_Z := ([(0, 0), (0, 0), (0, 0), (0, 0), (0, 0), (0, 0), (0, 0), (0, 0), (0, 1125899906842624), (0, 255), (0, 399)], [], [(((0, 480), 10), .inr (0, (10, 0)))], 0, 0, 216, [(0, .inr (3, (0, 480)))], [.inr (1, (9, 0)), .inr (1, (8, 0)), .inr (3, (0, 480))])
noncomputable def rxINXX_8 (S0 : Nat → Int → Int) (ws : List Int) (S : Nat → Int → Int) (y c t z : Int) : Prop := ∃ w : Int, (S 485 = S0 485 ∧ S 480 8 = S0 480 8 ∧ S0 480 10 ≤ S 480 9 ∧ S 480 9 = rzF (rzCut (S0 485)) (S0 480 8) (S0 480 10) ∧ rzK1 (rzCut (S0 485)) (S0 480 8) (S 480 9) (S 480 10) (S 480 11) w ∧ S 480 10 = t ∧ t < S0 480 8 ∧ rzL ((rzCut (S0 485)) t) = true ∧ t - S 480 9 < 10) ∧ z = w * 32 + (rzCut (S0 485)) t
noncomputable def rxmNXX_8 (S0 : Nat → Int → Int) (ws : List Int) (S : Nat → Int → Int) (y c t z : Int) : Nat := 100000 * 7 + 10 * (1000 - S 480 10).toNat + 5
noncomputable def rxzNXX_8 : rx_Z := ([(0, 0), (0, 0), (0, 0), (0, 0), (0, 0), (0, 0), (0, 0), (0, 0), (0, 1125899906842624), (0, 255), (0, 399), (0, 2251799813685248)], [], [(((0, 480), 10), .inr (0, (10, 0)))], 0, 0, 217, [(0, .inr (3, (0, 480)))], [.inr (1, (11, 0)), .inr (3, (0, 480))])
noncomputable def rxINXX_9 (S0 : Nat → Int → Int) (ws : List Int) (S : Nat → Int → Int) : Prop := S 485 = S0 485 ∧ S 480 8 = S0 480 8 ∧ S0 480 10 ≤ S 480 9 ∧ S 480 9 = rzF (rzCut (S0 485)) (S0 480 8) (S0 480 10) ∧ rzKb (rzCut (S0 485)) (S0 480 8) (S 480 9) (S 480 10) (S 480 11) (S 480 12)
noncomputable def rxmNXX_9 (S0 : Nat → Int → Int) (ws : List Int) (S : Nat → Int → Int) : Nat := 100000 * 4 + 10 * (1000 - S 480 10).toNat + 9
noncomputable def rxzNXX_9 : rx_Z := ([(0, 0), (0, 0), (0, 0), (0, 0), (0, 0), (0, 0), (0, 0), (0, 0)], [], [], 0, 0, 243, [(0, .inr (3, (0, 480)))], [])
noncomputable def rxINXX_10 (S0 : Nat → Int → Int) (ws : List Int) (S : Nat → Int → Int) (w t : Int) : Prop := (S 485 = S0 485 ∧ S 480 8 = S0 480 8 ∧ S0 480 10 ≤ S 480 9 ∧ S 480 9 = rzF (rzCut (S0 485)) (S0 480 8) (S0 480 10) ∧ rzK2 (rzCut (S0 485)) (S0 480 8) (S 480 9) (S 480 10) (S 480 11) w ∧ S 480 10 = t ∧ t < S0 480 8 ∧ rzG ((rzCut (S0 485)) t) = true)
noncomputable def rxmNXX_10 (S0 : Nat → Int → Int) (ws : List Int) (S : Nat → Int → Int) (w t : Int) : Nat := 100000 * 4 + 10 * (1000 - S 480 10).toNat + 8
noncomputable def rxzNXX_10 : rx_Z := ([(0, 0), (0, 0), (0, 0), (0, 0), (0, 0), (0, 0), (0, 0), (0, 0), (0, 1000000), (0, 399)], [], [(((0, 480), 10), .inr (0, (9, 0)))], 0, 0, 303, [(0, .inr (3, (0, 480)))], [.inr (1, (0, 10)), .inr (1, (8, 0)), .inr (3, (0, 480))])
noncomputable def rxINXX_11 (S0 : Nat → Int → Int) (ws : List Int) (S : Nat → Int → Int) (w t y : Int) : Prop := (S 485 = S0 485 ∧ S 480 8 = S0 480 8 ∧ S0 480 10 ≤ S 480 9 ∧ S 480 9 = rzF (rzCut (S0 485)) (S0 480 8) (S0 480 10) ∧ rzK2 (rzCut (S0 485)) (S0 480 8) (S 480 9) (S 480 10) (S 480 11) w ∧ S 480 10 = t ∧ t < S0 480 8 ∧ rzG ((rzCut (S0 485)) t) = true) ∧ y = w * 10 ∧ w ≤ 1000000
noncomputable def rxmNXX_11 (S0 : Nat → Int → Int) (ws : List Int) (S : Nat → Int → Int) (w t y : Int) : Nat := 100000 * 4 + 10 * (1000 - S 480 10).toNat + 7
noncomputable def rxzNXX_11 : rx_Z := ([(0, 0), (0, 0), (0, 0), (0, 0), (0, 0), (0, 0), (0, 0), (0, 0), (0, 1000000), (0, 399), (0, 10000000)], [], [(((0, 480), 10), .inr (0, (9, 0)))], 0, 0, 304, [(0, .inr (3, (0, 480)))], [.inr (1, (10, 0)), .inr (3, (0, 480))])
noncomputable def rxINXX_12 (S0 : Nat → Int → Int) (ws : List Int) (S : Nat → Int → Int) (y c t : Int) : Prop := ∃ w : Int, (S 485 = S0 485 ∧ S 480 8 = S0 480 8 ∧ S0 480 10 ≤ S 480 9 ∧ S 480 9 = rzF (rzCut (S0 485)) (S0 480 8) (S0 480 10) ∧ rzK2 (rzCut (S0 485)) (S0 480 8) (S 480 9) (S 480 10) (S 480 11) w ∧ S 480 10 = t ∧ t < S0 480 8 ∧ rzG ((rzCut (S0 485)) t) = true) ∧ y = w * 10 ∧ w ≤ 1000000 ∧ c = (rzCut (S0 485)) t
noncomputable def rxmNXX_12 (S0 : Nat → Int → Int) (ws : List Int) (S : Nat → Int → Int) (y c t : Int) : Nat := 100000 * 4 + 10 * (1000 - S 480 10).toNat + 6
noncomputable def rxzNXX_12 : rx_Z := ([(0, 0), (0, 0), (0, 0), (0, 0), (0, 0), (0, 0), (0, 0), (0, 0), (0, 10000000), (0, 255), (0, 399)], [], [(((0, 480), 10), .inr (0, (10, 0)))], 0, 0, 314, [(0, .inr (3, (0, 480)))], [.inr (1, (9, 0)), .inr (1, (8, 0)), .inr (3, (0, 480))])
noncomputable def rxINXX_13 (S0 : Nat → Int → Int) (ws : List Int) (S : Nat → Int → Int) (y c t z : Int) : Prop := ∃ w : Int, (S 485 = S0 485 ∧ S 480 8 = S0 480 8 ∧ S0 480 10 ≤ S 480 9 ∧ S 480 9 = rzF (rzCut (S0 485)) (S0 480 8) (S0 480 10) ∧ rzK2 (rzCut (S0 485)) (S0 480 8) (S 480 9) (S 480 10) (S 480 11) w ∧ S 480 10 = t ∧ t < S0 480 8 ∧ rzG ((rzCut (S0 485)) t) = true) ∧ z = w * 10 + (rzCut (S0 485)) t ∧ w ≤ 1000000
noncomputable def rxmNXX_13 (S0 : Nat → Int → Int) (ws : List Int) (S : Nat → Int → Int) (y c t z : Int) : Nat := 100000 * 4 + 10 * (1000 - S 480 10).toNat + 5
noncomputable def rxzNXX_13 : rx_Z := ([(0, 0), (0, 0), (0, 0), (0, 0), (0, 0), (0, 0), (0, 0), (0, 0), (0, 10000000), (0, 255), (0, 399), (0, 10000255)], [], [(((0, 480), 10), .inr (0, (10, 0)))], 0, 0, 315, [(0, .inr (3, (0, 480)))], [.inr (1, (11, 0)), .inr (3, (0, 480))])
noncomputable def rxoNXX_0_0 : bx_HO := (([(0, 0), (0, 0), (0, 0), (0, 0), (0, 0), (0, 0), (0, 0), (0, 0), (0, 400)], [], [(((0, 0), 1851192626986356799230700691457999792575411195110560459820892163000000), .inr (0, (8, 0))), (((0, 480), 9), .inr (0, (8, 0))), (((0, 0), 1851192626986356799431407398244775400849232659564395713374715904000000), .inr (0, (8, 0))), (((0, 480), 10), .inr (0, (8, 0)))], 0, 0, 8, [(0, .inr (3, (0, 480)))], []), [], [], [(0, 0), (0, 0), (0, 0), (0, 0), (0, 0), (0, 0), (0, 0), (0, 0)], 1)
noncomputable def rxoNXX_1_0 : bx_HO := (([(0, 0), (0, 0), (0, 0), (0, 0), (0, 0), (0, 0), (0, 0), (0, 0), (0, 399), (1, 400), (32, 32)], [(0, (8, 0), (9, 0))], [(((0, 0), 1851192626986356799230700691457999792575411195110560459820892163000000), .inr (0, (8, 1))), (((0, 480), 9), .inr (0, (8, 1))), (((0, 0), 1851192626986356797424364830707437625680387377997778265150652416000000), .inr (0, (10, 0))), (((0, 480), 7), .inr (3, (0, 485))), (((0, 0), 1851192626986356799029993984671224184301589730656725206267068416000000), .inr (0, (9, 0))), (((0, 480), 8), .inr (0, (9, 0))), (((0, 0), 1851192626986356799230700691457999792575411195110560459820892160000000), .inr (0, (8, 0)))], 0, 0, 8, [(0, .inr (3, (0, 480)))], []), [], [], [(0, 0), (0, 0), (0, 0), (0, 0), (0, 0), (0, 0), (0, 0), (0, 0)], 1)
noncomputable def rxoNXX_1_1 : bx_HO := (([(0, 0), (0, 0), (0, 0), (0, 0), (0, 0), (0, 0), (0, 0), (0, 0), (0, 399), (1, 400), (0, 255)], [(3, (10, 0), (0, 32)), (0, (8, 0), (9, 0))], [(((0, 0), 1851192626986356797424364830707437625680387377997778265150652416000000), .inr (0, (10, 0))), (((0, 480), 7), .inr (3, (0, 485))), (((0, 0), 1851192626986356799029993984671224184301589730656725206267068416000000), .inr (0, (9, 0))), (((0, 480), 8), .inr (0, (9, 0))), (((0, 0), 1851192626986356799230700691457999792575411195110560459820892160000000), .inr (0, (8, 0))), (((0, 480), 9), .inr (0, (8, 0)))], 0, 0, 46, [(0, .inr (3, (0, 480)))], []), [], [], [(0, 0), (0, 0), (0, 0), (0, 0), (0, 0), (0, 0), (0, 0), (0, 0)], 2)
noncomputable def rxoNXX_1_2 : bx_HO := (([(0, 0), (0, 0), (0, 0), (0, 0), (0, 0), (0, 0), (0, 0), (0, 0), (0, 400), (0, 400)], [(1, (9, 0), (8, 0))], [(((0, 0), 1851192626986356799029993984671224184301589730656725206267068416000000), .inr (0, (9, 0))), (((0, 480), 8), .inr (0, (9, 0))), (((0, 0), 1851192626986356799230700691457999792575411195110560459820892160000000), .inr (0, (8, 0))), (((0, 480), 9), .inr (0, (8, 0)))], 0, 0, 46, [(0, .inr (3, (0, 480)))], []), [], [], [(0, 0), (0, 0), (0, 0), (0, 0), (0, 0), (0, 0), (0, 0), (0, 0)], 2)
noncomputable def rxoNXX_2_0 : bx_HO := (([(0, 0), (0, 0), (0, 0), (0, 0), (0, 0), (0, 0), (0, 0), (0, 0), (0, 400), (0, 400)], [(2, (8, 0), (9, 0))], [(((0, 0), 1851192626986356799632114105031551009123054124018230966928539651000000), .inr (0, (0, 0))), (((0, 480), 11), .inr (0, (0, 0))), (((0, 0), 1851192626986356799029993984671224184301589730656725206267068416000000), .inr (0, (9, 0))), (((0, 480), 8), .inr (0, (9, 0))), (((0, 0), 1851192626986356799832820811818326617396875588472066220482363395000000), .inr (1, (0, 0))), (((0, 480), 12), .inr (1, (0, 0))), (((0, 0), 1851192626986356799431407398244775400849232659564395713374715907000000), .inr (0, (8, 0))), (((0, 480), 10), .inr (0, (8, 0))), (((0, 0), 1851192626986356799230700691457999792575411195110560459820892160000000), .inr (0, (8, 0))), (((0, 480), 9), .inr (0, (8, 0)))], 0, 0, 149, [(0, .inr (3, (0, 480)))], []), [], [], [(0, 0), (0, 0), (0, 0), (0, 0), (0, 0), (0, 0), (0, 0), (0, 0)], 4)
noncomputable def rxoNXX_2_1 : bx_HO := (([(0, 0), (0, 0), (0, 0), (0, 0), (0, 0), (0, 0), (0, 0), (0, 0), (0, 400), (0, 400)], [(3, (8, 0), (9, 0))], [(((0, 0), 1851192626986356799029993984671224184301589730656725206267068416000000), .inr (0, (9, 0))), (((0, 480), 8), .inr (0, (9, 0))), (((0, 0), 1851192626986356799832820811818326617396875588472066220482363395000000), .inr (1, (0, 0))), (((0, 480), 12), .inr (1, (0, 0))), (((0, 0), 1851192626986356799431407398244775400849232659564395713374715907000000), .inr (0, (8, 0))), (((0, 480), 10), .inr (0, (8, 0))), (((0, 0), 1851192626986356799230700691457999792575411195110560459820892160000000), .inr (0, (8, 0))), (((0, 480), 9), .inr (0, (8, 0)))], 0, 0, 75, [(0, .inr (3, (0, 480)))], [.inr (3, (0, 480))]), [(9, 1, 400), (8, 0, 399), (8, 0, 399)], [(0, (8, 0), (9, 0))], [(0, 0), (0, 0), (0, 0), (0, 0), (0, 0), (0, 0), (0, 0), (0, 0), (9, 0), (8, 0), (8, 0)], 3)
noncomputable def rxoNXX_3_0 : bx_HO := (([(0, 0), (0, 0), (0, 0), (0, 0), (0, 0), (0, 0), (0, 0), (0, 0), (1, 400), (0, 399), (0, 399), (0, 96), (0, 47), (0, 255)], [(0, (9, 0), (8, 0))], [(((0, 0), 1851192626986356799431407398244775400849232659564395713374715907000000), .inr (0, (10, 1))), (((0, 480), 10), .inr (0, (10, 1))), (((0, 0), 1851192626986356799832820811818326617396875588472066220482363395000000), .inr (1, (13, 0))), (((0, 480), 12), .inr (1, (13, 0))), (((0, 0), 1851192626986356797424367893248739914126558548369245151064555520000000), .inr (0, (13, 0))), (((0, 0), 1851192626986356799632114105031551009123054124018230966928539651000000), .inr (0, (0, 3))), (((0, 480), 11), .inr (0, (0, 3))), (((0, 0), 1851192626986356797424367893248739914126558548369245151064555520000000), .inr (0, (12, 0))), (((0, 0), 1851192626986356797424367893248739914126558548369245151064555520000000), .inr (0, (11, 0))), (((0, 480), 7), .inr (3, (0, 485))), (((0, 480), 8), .inr (0, (8, 0))), (((0, 480), 9), .inr (0, (9, 0)))], 0, 0, 149, [(0, .inr (3, (0, 480)))], []), [], [], [(0, 0), (0, 0), (0, 0), (0, 0), (0, 0), (0, 0), (0, 0), (0, 0)], 4)
noncomputable def rxoNXX_3_1 : bx_HO := (([(0, 0), (0, 0), (0, 0), (0, 0), (0, 0), (0, 0), (0, 0), (0, 0), (1, 400), (0, 399), (0, 399), (0, 96), (58, 255), (0, 255)], [(0, (9, 0), (8, 0))], [(((0, 0), 1851192626986356799431407398244775400849232659564395713374715907000000), .inr (0, (10, 1))), (((0, 480), 10), .inr (0, (10, 1))), (((0, 0), 1851192626986356799832820811818326617396875588472066220482363395000000), .inr (1, (13, 0))), (((0, 480), 12), .inr (1, (13, 0))), (((0, 0), 1851192626986356797424367893248739914126558548369245151064555520000000), .inr (0, (13, 0))), (((0, 0), 1851192626986356799632114105031551009123054124018230966928539651000000), .inr (0, (0, 3))), (((0, 480), 11), .inr (0, (0, 3))), (((0, 0), 1851192626986356797424367893248739914126558548369245151064555520000000), .inr (0, (12, 0))), (((0, 0), 1851192626986356797424367893248739914126558548369245151064555520000000), .inr (0, (11, 0))), (((0, 480), 7), .inr (3, (0, 485))), (((0, 480), 8), .inr (0, (8, 0))), (((0, 480), 9), .inr (0, (9, 0)))], 0, 0, 149, [(0, .inr (3, (0, 480)))], []), [], [], [(0, 0), (0, 0), (0, 0), (0, 0), (0, 0), (0, 0), (0, 0), (0, 0)], 4)
noncomputable def rxoNXX_3_2 : bx_HO := (([(0, 0), (0, 0), (0, 0), (0, 0), (0, 0), (0, 0), (0, 0), (0, 0), (1, 400), (0, 399), (0, 399), (0, 96), (48, 57)], [(0, (9, 0), (8, 0))], [(((0, 0), 1851192626986356799632114105031551009123054124018230966928539651000000), .inr (0, (0, 2))), (((0, 480), 11), .inr (0, (0, 2))), (((0, 0), 1851192626986356797424367893248739914126558548369245151064555520000000), .inr (0, (12, 0))), (((0, 0), 1851192626986356797424367893248739914126558548369245151064555520000000), .inr (0, (11, 0))), (((0, 480), 7), .inr (3, (0, 485))), (((0, 480), 8), .inr (0, (8, 0))), (((0, 480), 9), .inr (0, (9, 0))), (((0, 480), 10), .inr (0, (10, 0)))], 0, 0, 149, [(0, .inr (3, (0, 480)))], []), [], [], [(0, 0), (0, 0), (0, 0), (0, 0), (0, 0), (0, 0), (0, 0), (0, 0)], 4)
noncomputable def rxoNXX_3_3 : bx_HO := (([(0, 0), (0, 0), (0, 0), (0, 0), (0, 0), (0, 0), (0, 0), (0, 0), (1, 400), (0, 399), (0, 399), (123, 255), (0, 47), (0, 255)], [(0, (9, 0), (8, 0))], [(((0, 0), 1851192626986356799431407398244775400849232659564395713374715907000000), .inr (0, (10, 1))), (((0, 480), 10), .inr (0, (10, 1))), (((0, 0), 1851192626986356799832820811818326617396875588472066220482363395000000), .inr (1, (13, 0))), (((0, 480), 12), .inr (1, (13, 0))), (((0, 0), 1851192626986356797424367893248739914126558548369245151064555520000000), .inr (0, (13, 0))), (((0, 0), 1851192626986356799632114105031551009123054124018230966928539651000000), .inr (0, (0, 3))), (((0, 480), 11), .inr (0, (0, 3))), (((0, 0), 1851192626986356797424367893248739914126558548369245151064555520000000), .inr (0, (12, 0))), (((0, 0), 1851192626986356797424367893248739914126558548369245151064555520000000), .inr (0, (11, 0))), (((0, 480), 7), .inr (3, (0, 485))), (((0, 480), 8), .inr (0, (8, 0))), (((0, 480), 9), .inr (0, (9, 0)))], 0, 0, 149, [(0, .inr (3, (0, 480)))], []), [], [], [(0, 0), (0, 0), (0, 0), (0, 0), (0, 0), (0, 0), (0, 0), (0, 0)], 4)
noncomputable def rxoNXX_3_4 : bx_HO := (([(0, 0), (0, 0), (0, 0), (0, 0), (0, 0), (0, 0), (0, 0), (0, 0), (1, 400), (0, 399), (0, 399), (123, 255), (58, 255), (0, 255)], [(0, (9, 0), (8, 0))], [(((0, 0), 1851192626986356799431407398244775400849232659564395713374715907000000), .inr (0, (10, 1))), (((0, 480), 10), .inr (0, (10, 1))), (((0, 0), 1851192626986356799832820811818326617396875588472066220482363395000000), .inr (1, (13, 0))), (((0, 480), 12), .inr (1, (13, 0))), (((0, 0), 1851192626986356797424367893248739914126558548369245151064555520000000), .inr (0, (13, 0))), (((0, 0), 1851192626986356799632114105031551009123054124018230966928539651000000), .inr (0, (0, 3))), (((0, 480), 11), .inr (0, (0, 3))), (((0, 0), 1851192626986356797424367893248739914126558548369245151064555520000000), .inr (0, (12, 0))), (((0, 0), 1851192626986356797424367893248739914126558548369245151064555520000000), .inr (0, (11, 0))), (((0, 480), 7), .inr (3, (0, 485))), (((0, 480), 8), .inr (0, (8, 0))), (((0, 480), 9), .inr (0, (9, 0)))], 0, 0, 149, [(0, .inr (3, (0, 480)))], []), [], [], [(0, 0), (0, 0), (0, 0), (0, 0), (0, 0), (0, 0), (0, 0), (0, 0)], 4)
noncomputable def rxoNXX_3_5 : bx_HO := (([(0, 0), (0, 0), (0, 0), (0, 0), (0, 0), (0, 0), (0, 0), (0, 0), (1, 400), (0, 399), (0, 399), (123, 255), (48, 57)], [(0, (9, 0), (8, 0))], [(((0, 0), 1851192626986356799632114105031551009123054124018230966928539651000000), .inr (0, (0, 2))), (((0, 480), 11), .inr (0, (0, 2))), (((0, 0), 1851192626986356797424367893248739914126558548369245151064555520000000), .inr (0, (12, 0))), (((0, 0), 1851192626986356797424367893248739914126558548369245151064555520000000), .inr (0, (11, 0))), (((0, 480), 7), .inr (3, (0, 485))), (((0, 480), 8), .inr (0, (8, 0))), (((0, 480), 9), .inr (0, (9, 0))), (((0, 480), 10), .inr (0, (10, 0)))], 0, 0, 149, [(0, .inr (3, (0, 480)))], []), [], [], [(0, 0), (0, 0), (0, 0), (0, 0), (0, 0), (0, 0), (0, 0), (0, 0)], 4)
noncomputable def rxoNXX_3_6 : bx_HO := (([(0, 0), (0, 0), (0, 0), (0, 0), (0, 0), (0, 0), (0, 0), (0, 0), (1, 400), (0, 399), (0, 399), (97, 122)], [(0, (9, 0), (8, 0))], [(((0, 0), 1851192626986356799632114105031551009123054124018230966928539651000000), .inr (0, (0, 1))), (((0, 480), 11), .inr (0, (0, 1))), (((0, 0), 1851192626986356797424367893248739914126558548369245151064555520000000), .inr (0, (11, 0))), (((0, 480), 7), .inr (3, (0, 485))), (((0, 480), 8), .inr (0, (8, 0))), (((0, 480), 9), .inr (0, (9, 0))), (((0, 480), 10), .inr (0, (10, 0)))], 0, 0, 149, [(0, .inr (3, (0, 480)))], []), [], [], [(0, 0), (0, 0), (0, 0), (0, 0), (0, 0), (0, 0), (0, 0), (0, 0)], 4)
noncomputable def rxoNXX_4_0 : bx_HO := (([(0, 0), (0, 0), (0, 0), (0, 0), (0, 0), (0, 0), (0, 0), (0, 0), (1, 1), (0, 399), (1, 400), (0, 96)], [(0, (9, 0), (10, 0))], [(((0, 0), 1851192626986356797424367893248739914126558548369245151064555520000000), .inr (0, (11, 0))), (((0, 480), 7), .inr (3, (0, 485))), (((0, 0), 1851192626986356799029993984671224184301589730656725206267068416000000), .inr (0, (10, 0))), (((0, 480), 8), .inr (0, (10, 0))), (((0, 0), 1851192626986356799431407398244775400849232659564395713374715904000000), .inr (0, (9, 0))), (((0, 480), 10), .inr (0, (9, 0))), (((0, 0), 1851192626986356799632114105031551009123054124018230966928539648000000), .inr (0, (8, 0))), (((0, 480), 11), .inr (0, (8, 0)))], 0, 0, 243, [(0, .inr (3, (0, 480)))], []), [], [], [(0, 0), (0, 0), (0, 0), (0, 0), (0, 0), (0, 0), (0, 0), (0, 0)], 9)
noncomputable def rxoNXX_4_1 : bx_HO := (([(0, 0), (0, 0), (0, 0), (0, 0), (0, 0), (0, 0), (0, 0), (0, 0), (1, 1), (0, 399), (1, 400), (123, 255)], [(0, (9, 0), (10, 0))], [(((0, 0), 1851192626986356797424367893248739914126558548369245151064555520000000), .inr (0, (11, 0))), (((0, 480), 7), .inr (3, (0, 485))), (((0, 0), 1851192626986356799029993984671224184301589730656725206267068416000000), .inr (0, (10, 0))), (((0, 480), 8), .inr (0, (10, 0))), (((0, 0), 1851192626986356799431407398244775400849232659564395713374715904000000), .inr (0, (9, 0))), (((0, 480), 10), .inr (0, (9, 0))), (((0, 0), 1851192626986356799632114105031551009123054124018230966928539648000000), .inr (0, (8, 0))), (((0, 480), 11), .inr (0, (8, 0)))], 0, 0, 243, [(0, .inr (3, (0, 480)))], []), [], [], [(0, 0), (0, 0), (0, 0), (0, 0), (0, 0), (0, 0), (0, 0), (0, 0)], 9)
noncomputable def rxoNXX_4_2 : bx_HO := (([(0, 0), (0, 0), (0, 0), (0, 0), (0, 0), (0, 0), (0, 0), (0, 0), (1, 1), (0, 399), (1, 400), (97, 122), (0, 400), ((-400), 9), ((-9223372036854775808), 9223372036854775807)], [(604462909807314587353100000000, (9, 0), (13, 0)), (0, (9, 0), (10, 0))], [(((0, 0), 1851192626986356799832820811818326617396875588472066220482363392000000), .inr (1, (14, 0))), (((0, 480), 12), .inr (1, (14, 0))), (((0, 0), 1851192626986356799230700691457999792575411195110560459820892160000000), .inr (0, (12, 0))), (((0, 480), 9), .inr (0, (12, 0))), (((0, 0), 1851192626986356797424367893248739914126558548369245151064555520000000), .inr (0, (11, 0))), (((0, 480), 7), .inr (3, (0, 485))), (((0, 0), 1851192626986356799029993984671224184301589730656725206267068416000000), .inr (0, (10, 0))), (((0, 480), 8), .inr (0, (10, 0))), (((0, 0), 1851192626986356799431407398244775400849232659564395713374715904000000), .inr (0, (9, 0))), (((0, 480), 10), .inr (0, (9, 0))), (((0, 0), 1851192626986356799632114105031551009123054124018230966928539648000000), .inr (0, (8, 0))), (((0, 480), 11), .inr (0, (8, 0)))], 0, 0, 205, [(0, .inr (3, (0, 480)))], [.inr (1, (0, 32)), .inr (1, (14, 0)), .inr (3, (0, 480))]), [(14, 0, 35184372088832)], [], [(0, 0), (0, 0), (0, 0), (0, 0), (0, 0), (0, 0), (0, 0), (0, 0), (14, 0), (9, 0)], 5)
noncomputable def rxoNXX_4_3 : bx_HO := (([(0, 0), (0, 0), (0, 0), (0, 0), (0, 0), (0, 0), (0, 0), (0, 0), (1, 1), (0, 399), (1, 400), (97, 122), (0, 400), (10, 399)], [(604462909807314587353100000000, (9, 0), (13, 0)), (0, (9, 0), (10, 0))], [(((0, 0), 1851192626986356799431407398244775400849232659564395713374715907000000), .inr (0, (9, 1))), (((0, 480), 10), .inr (0, (9, 1))), (((0, 0), 1851192626986356799832820811818326617396875588472066220482363395000000), .inr (1, (0, (-1)))), (((0, 480), 12), .inr (1, (0, (-1)))), (((0, 0), 1851192626986356799230700691457999792575411195110560459820892160000000), .inr (0, (12, 0))), (((0, 480), 9), .inr (0, (12, 0))), (((0, 0), 1851192626986356797424367893248739914126558548369245151064555520000000), .inr (0, (11, 0))), (((0, 480), 7), .inr (3, (0, 485))), (((0, 0), 1851192626986356799029993984671224184301589730656725206267068416000000), .inr (0, (10, 0))), (((0, 480), 8), .inr (0, (10, 0))), (((0, 0), 1851192626986356799431407398244775400849232659564395713374715904000000), .inr (0, (9, 0))), (((0, 0), 1851192626986356799632114105031551009123054124018230966928539648000000), .inr (0, (8, 0))), (((0, 480), 11), .inr (0, (8, 0)))], 0, 0, 149, [(0, .inr (3, (0, 480)))], []), [], [], [(0, 0), (0, 0), (0, 0), (0, 0), (0, 0), (0, 0), (0, 0), (0, 0)], 4)
noncomputable def rxoNXX_4_4 : bx_HO := (([(0, 0), (0, 0), (0, 0), (0, 0), (0, 0), (0, 0), (0, 0), (0, 0), (1, 1), (0, 400), (0, 400)], [(1, (10, 0), (9, 0))], [(((0, 0), 1851192626986356799029993984671224184301589730656725206267068416000000), .inr (0, (10, 0))), (((0, 480), 8), .inr (0, (10, 0))), (((0, 0), 1851192626986356799431407398244775400849232659564395713374715904000000), .inr (0, (9, 0))), (((0, 480), 10), .inr (0, (9, 0))), (((0, 0), 1851192626986356799632114105031551009123054124018230966928539648000000), .inr (0, (8, 0))), (((0, 480), 11), .inr (0, (8, 0)))], 0, 0, 243, [(0, .inr (3, (0, 480)))], []), [], [], [(0, 0), (0, 0), (0, 0), (0, 0), (0, 0), (0, 0), (0, 0), (0, 0)], 9)
noncomputable def rxoNXX_4_5 : bx_HO := (([(0, 0), (0, 0), (0, 0), (0, 0), (0, 0), (0, 0), (0, 0), (0, 0), (0, 3)], [(3, (8, 0), (0, 1))], [(((0, 0), 1851192626986356799632114105031551009123054124018230966928539648000000), .inr (0, (8, 0))), (((0, 480), 11), .inr (0, (8, 0)))], 0, 0, 243, [(0, .inr (3, (0, 480)))], []), [], [], [(0, 0), (0, 0), (0, 0), (0, 0), (0, 0), (0, 0), (0, 0), (0, 0)], 9)
noncomputable def rxoNXX_6_0 : bx_HO := (([(0, 0), (0, 0), (0, 0), (0, 0), (0, 0), (0, 0), (0, 0), (0, 0), (0, 35184372088832), (0, 399), (0, 1125899906842624), (0, 255)], [], [(((0, 0), 1851192626986356797424367893248739914126558548369245151064555520000000), .inr (0, (11, 0))), (((0, 480), 7), .inr (3, (0, 485))), (((0, 480), 10), .inr (0, (9, 0)))], 0, 0, 216, [(0, .inr (3, (0, 480)))], [.inr (1, (11, 0)), .inr (1, (10, 0)), .inr (3, (0, 480))]), [], [], [(0, 0), (0, 0), (0, 0), (0, 0), (0, 0), (0, 0), (0, 0), (0, 0), (10, 0), (11, 0), (9, 0)], 7)
noncomputable def rxoNXX_8_0 : bx_HO := (([(0, 0), (0, 0), (0, 0), (0, 0), (0, 0), (0, 0), (0, 0), (0, 0), (0, 1125899906842624), (0, 255), (0, 399), (0, 2251799813685248)], [], [(((0, 0), 1851192626986356799431407398244775400849232659564395713374715907000000), .inr (0, (10, 1))), (((0, 480), 10), .inr (0, (10, 1))), (((0, 0), 1851192626986356799832820811818326617396875588472066220482363395000000), .inr (1, (11, (-96)))), (((0, 480), 12), .inr (1, (11, (-96))))], 0, 0, 149, [(0, .inr (3, (0, 480)))], []), [], [], [(0, 0), (0, 0), (0, 0), (0, 0), (0, 0), (0, 0), (0, 0), (0, 0)], 4)
noncomputable def rxoNXX_9_0 : bx_HO := (([(0, 0), (0, 0), (0, 0), (0, 0), (0, 0), (0, 0), (0, 0), (0, 0), (2, 2), (0, 399), (1, 400), (48, 57), (1000001, 9223372036854775807)], [(0, (9, 0), (10, 0))], [(((0, 0), 1851192626986356799431407398244775400849232659564395713374715907000000), .inr (0, (9, 1))), (((0, 480), 10), .inr (0, (9, 1))), (((0, 0), 1851192626986356799832820811818326617396875588472066220482363395000000), .inr (1, (12, 0))), (((0, 480), 12), .inr (1, (12, 0))), (((0, 0), 1851192626986356799832820811818326617396875588472066220482363392000000), .inr (1, (12, 0))), (((0, 0), 1851192626986356797424367893248739914126558548369245151064555520000000), .inr (0, (11, 0))), (((0, 480), 7), .inr (3, (0, 485))), (((0, 0), 1851192626986356799029993984671224184301589730656725206267068416000000), .inr (0, (10, 0))), (((0, 480), 8), .inr (0, (10, 0))), (((0, 0), 1851192626986356799431407398244775400849232659564395713374715904000000), .inr (0, (9, 0))), (((0, 0), 1851192626986356799632114105031551009123054124018230966928539648000000), .inr (0, (8, 0))), (((0, 480), 11), .inr (0, (8, 0)))], 0, 0, 243, [(0, .inr (3, (0, 480)))], []), [], [], [(0, 0), (0, 0), (0, 0), (0, 0), (0, 0), (0, 0), (0, 0), (0, 0)], 9)
noncomputable def rxoNXX_9_1 : bx_HO := (([(0, 0), (0, 0), (0, 0), (0, 0), (0, 0), (0, 0), (0, 0), (0, 0), (2, 2), (0, 399), (1, 400), (48, 57), ((-9223372036854775808), 1000000)], [(0, (9, 0), (10, 0))], [(((0, 0), 1851192626986356799832820811818326617396875588472066220482363392000000), .inr (1, (12, 0))), (((0, 480), 12), .inr (1, (12, 0))), (((0, 0), 1851192626986356797424367893248739914126558548369245151064555520000000), .inr (0, (11, 0))), (((0, 480), 7), .inr (3, (0, 485))), (((0, 0), 1851192626986356799029993984671224184301589730656725206267068416000000), .inr (0, (10, 0))), (((0, 480), 8), .inr (0, (10, 0))), (((0, 0), 1851192626986356799431407398244775400849232659564395713374715904000000), .inr (0, (9, 0))), (((0, 480), 10), .inr (0, (9, 0))), (((0, 0), 1851192626986356799632114105031551009123054124018230966928539648000000), .inr (0, (8, 0))), (((0, 480), 11), .inr (0, (8, 0)))], 0, 0, 303, [(0, .inr (3, (0, 480)))], [.inr (1, (0, 10)), .inr (1, (12, 0)), .inr (3, (0, 480))]), [(12, 0, 1000000)], [], [(0, 0), (0, 0), (0, 0), (0, 0), (0, 0), (0, 0), (0, 0), (0, 0), (12, 0), (9, 0)], 10)
noncomputable def rxeNXX_9_0 : rx_End × List (Nat × Int × Int) := (([(0, 0), (0, 0), (0, 0), (0, 0), (0, 0), (0, 0), (0, 0), (0, 0), (2, 2), (0, 399), (1, 400), (0, 47)], [(0, (9, 0), (10, 0))], [(((0, 0), 1851192626986356797424367893248739914126558548369245151064555520000000), .inr (0, (11, 0))), (((0, 480), 7), .inr (3, (0, 485))), (((0, 0), 1851192626986356799029993984671224184301589730656725206267068416000000), .inr (0, (10, 0))), (((0, 480), 8), .inr (0, (10, 0))), (((0, 0), 1851192626986356799431407398244775400849232659564395713374715904000000), .inr (0, (9, 0))), (((0, 480), 10), .inr (0, (9, 0))), (((0, 0), 1851192626986356799632114105031551009123054124018230966928539648000000), .inr (0, (8, 0))), (((0, 480), 11), .inr (0, (8, 0)))], none), [])
noncomputable def rxeNXX_9_1 : rx_End × List (Nat × Int × Int) := (([(0, 0), (0, 0), (0, 0), (0, 0), (0, 0), (0, 0), (0, 0), (0, 0), (2, 2), (0, 399), (1, 400), (58, 255)], [(0, (9, 0), (10, 0))], [(((0, 0), 1851192626986356797424367893248739914126558548369245151064555520000000), .inr (0, (11, 0))), (((0, 480), 7), .inr (3, (0, 485))), (((0, 0), 1851192626986356799029993984671224184301589730656725206267068416000000), .inr (0, (10, 0))), (((0, 480), 8), .inr (0, (10, 0))), (((0, 0), 1851192626986356799431407398244775400849232659564395713374715904000000), .inr (0, (9, 0))), (((0, 480), 10), .inr (0, (9, 0))), (((0, 0), 1851192626986356799632114105031551009123054124018230966928539648000000), .inr (0, (8, 0))), (((0, 480), 11), .inr (0, (8, 0)))], none), [])
noncomputable def rxeNXX_9_2 : rx_End × List (Nat × Int × Int) := (([(0, 0), (0, 0), (0, 0), (0, 0), (0, 0), (0, 0), (0, 0), (0, 0), (2, 2), (0, 400), (0, 400)], [(1, (10, 0), (9, 0))], [(((0, 0), 1851192626986356799029993984671224184301589730656725206267068416000000), .inr (0, (10, 0))), (((0, 480), 8), .inr (0, (10, 0))), (((0, 0), 1851192626986356799431407398244775400849232659564395713374715904000000), .inr (0, (9, 0))), (((0, 480), 10), .inr (0, (9, 0))), (((0, 0), 1851192626986356799632114105031551009123054124018230966928539648000000), .inr (0, (8, 0))), (((0, 480), 11), .inr (0, (8, 0)))], none), [])
noncomputable def rxeNXX_9_3 : rx_End × List (Nat × Int × Int) := (([(0, 0), (0, 0), (0, 0), (0, 0), (0, 0), (0, 0), (0, 0), (0, 0), (0, 3)], [(3, (8, 0), (0, 2))], [(((0, 0), 1851192626986356799632114105031551009123054124018230966928539648000000), .inr (0, (8, 0))), (((0, 480), 11), .inr (0, (8, 0)))], none), [])
noncomputable def rxoNXX_11_0 : bx_HO := (([(0, 0), (0, 0), (0, 0), (0, 0), (0, 0), (0, 0), (0, 0), (0, 0), (0, 1000000), (0, 399), (0, 10000000), (0, 255)], [], [(((0, 0), 1851192626986356797424367893248739914126558548369245151064555520000000), .inr (0, (11, 0))), (((0, 480), 7), .inr (3, (0, 485))), (((0, 480), 10), .inr (0, (9, 0)))], 0, 0, 314, [(0, .inr (3, (0, 480)))], [.inr (1, (11, 0)), .inr (1, (10, 0)), .inr (3, (0, 480))]), [], [], [(0, 0), (0, 0), (0, 0), (0, 0), (0, 0), (0, 0), (0, 0), (0, 0), (10, 0), (11, 0), (9, 0)], 12)
noncomputable def rxoNXX_13_0 : bx_HO := (([(0, 0), (0, 0), (0, 0), (0, 0), (0, 0), (0, 0), (0, 0), (0, 0), (0, 10000000), (0, 255), (0, 399), (0, 10000255)], [], [(((0, 0), 1851192626986356799431407398244775400849232659564395713374715907000000), .inr (0, (10, 1))), (((0, 480), 10), .inr (0, (10, 1))), (((0, 0), 1851192626986356799832820811818326617396875588472066220482363395000000), .inr (1, (11, (-48)))), (((0, 480), 12), .inr (1, (11, (-48))))], 0, 0, 243, [(0, .inr (3, (0, 480)))], []), [], [], [(0, 0), (0, 0), (0, 0), (0, 0), (0, 0), (0, 0), (0, 0), (0, 0)], 9)
noncomputable def rxYNXX : List bx_HE := [(rxzNXX_0, [rxoNXX_0_0], []), (rxzNXX_1, [rxoNXX_1_0, rxoNXX_1_1, rxoNXX_1_2], []), (rxzNXX_2, [rxoNXX_2_0, rxoNXX_2_1], []), (rxzNXX_3, [rxoNXX_3_0, rxoNXX_3_1, rxoNXX_3_2, rxoNXX_3_3, rxoNXX_3_4, rxoNXX_3_5, rxoNXX_3_6], []), (rxzNXX_4, [rxoNXX_4_0, rxoNXX_4_1, rxoNXX_4_2, rxoNXX_4_3, rxoNXX_4_4, rxoNXX_4_5], []), (rxzNXX_5, [], []), (rxzNXX_6, [rxoNXX_6_0], []), (rxzNXX_7, [], []), (rxzNXX_8, [rxoNXX_8_0], []), (rxzNXX_9, [rxoNXX_9_0, rxoNXX_9_1], [rxeNXX_9_0, rxeNXX_9_1, rxeNXX_9_2, rxeNXX_9_3]), (rxzNXX_10, [], []), (rxzNXX_11, [rxoNXX_11_0], []), (rxzNXX_12, [], []), (rxzNXX_13, [rxoNXX_13_0], [])]
noncomputable def rxUNXX (q : bx_HE) : Bool := Nat.beq (rx_zpc q.1) 205 || Nat.beq (rx_zpc q.1) 216 || Nat.beq (rx_zpc q.1) 303 || Nat.beq (rx_zpc q.1) 314
noncomputable def rxYBNXX : bx_B := (rxV, rxNP, rxDmf, bx_mdH rxCNXX.2.2.1)
set_option maxRecDepth 100000 in
theorem rxYcNXX : bx_chkH rxYBNXX rxM264 rxCNXX rxYNXX (rxUNXX, fun cut z => rx_ex2 (rxCT rxYBNXX rxCnE) cut 30000 rxCNXX.2.2.2.1 264 z) = true := by decide +kernel
noncomputable def rxINXX (S0 : Nat → Int → Int) (ws : List Int) (i : Nat) : bx_SP := fun S r => match i with | 0 => rxINXX_0 S0 ws S | 1 => rxINXX_1 S0 ws S | 2 => rxINXX_2 S0 ws S | 3 => rxINXX_3 S0 ws S (r 8) (r 9) (r 10) | 4 => rxINXX_4 S0 ws S | 5 => rxINXX_5 S0 ws S (r 8) (r 9) | 6 => rxINXX_6 S0 ws S (r 8) (r 9) (r 10) | 7 => rxINXX_7 S0 ws S (r 8) (r 9) (r 10) | 8 => rxINXX_8 S0 ws S (r 8) (r 9) (r 10) (r 11) | 9 => rxINXX_9 S0 ws S | 10 => rxINXX_10 S0 ws S (r 8) (r 9) | 11 => rxINXX_11 S0 ws S (r 8) (r 9) (r 10) | 12 => rxINXX_12 S0 ws S (r 8) (r 9) (r 10) | 13 => rxINXX_13 S0 ws S (r 8) (r 9) (r 10) (r 11) | _ => False
noncomputable def rxmNXX (S0 : Nat → Int → Int) (ws : List Int) (i : Nat) (S : Nat → Int → Int) (r : Nat → Int) : Nat := match i with | 0 => rxmNXX_0 S0 ws S | 1 => rxmNXX_1 S0 ws S | 2 => rxmNXX_2 S0 ws S | 3 => rxmNXX_3 S0 ws S (r 8) (r 9) (r 10) | 4 => rxmNXX_4 S0 ws S | 5 => rxmNXX_5 S0 ws S (r 8) (r 9) | 6 => rxmNXX_6 S0 ws S (r 8) (r 9) (r 10) | 7 => rxmNXX_7 S0 ws S (r 8) (r 9) (r 10) | 8 => rxmNXX_8 S0 ws S (r 8) (r 9) (r 10) (r 11) | 9 => rxmNXX_9 S0 ws S | 10 => rxmNXX_10 S0 ws S (r 8) (r 9) | 11 => rxmNXX_11 S0 ws S (r 8) (r 9) (r 10) | 12 => rxmNXX_12 S0 ws S (r 8) (r 9) (r 10) | 13 => rxmNXX_13 S0 ws S (r 8) (r 9) (r 10) (r 11) | _ => 0
noncomputable def rxPNXX (S0 : Nat → Int → Int) (ws : List Int) : Prop := rxPNX S0 ws
noncomputable def rxPSNXX (S0 : Nat → Int → Int) (ws : List Int) (S : Nat → Int → Int) (w : Option Int) : Prop := w = none ∧ rxPSNX S0 ws S w ∧ rzDq S ∧ S 480 9 = rzF (rzCut (S0 485)) (S0 480 8) (S0 480 10)
theorem rxbNXX_5 {S0 : Nat → Int → Int} {ws : List Int} {S : Nat → Int → Int} {w t : Int} (hP : rxPNXX S0 ws) (hin : bx_same rxL (bx_mdl rxCNXX.2.2.1) S0 S) (I0 : bx_Inv rxL S) (hinv : rxINXX_5 S0 ws S w t) (l8 : 0 ≤ w) (u8 : w ≤ 35184372088832) (l9 : 0 ≤ t) (u9 : t ≤ 399) : bx_opcL 20 w 32 ∧ ∀ y : Int, y = bx_opvL 20 w 32 → (0 ≤ y ∧ y ≤ 1125899906842624) ∧ rxINXX_6 S0 ws S w t y ∧ rxmNXX_6 S0 ws S w t y < rxmNXX_5 S0 ws S w t := by
  obtain ⟨k1, k2, k3, k4, hk, ht, h1, h2, h3⟩ := hinv
  refine ⟨⟨⟨by omega, by omega⟩, ⟨by omega, by omega⟩, show (-9223372036854775808 : Int) ≤ w * 32 ∧ w * 32 ≤ 9223372036854775807 by omega⟩, fun y hv => ?_⟩
  have hv : y = w * 32 := hv
  exact ⟨by omega, ⟨⟨k1, k2, k3, k4, hk, ht, h1, h2, h3⟩, hv⟩, by unfold rxmNXX_5 rxmNXX_6; omega⟩
theorem rxsNXX_5 {X : (Nat → Int → Int) → Prop} {S0 : Nat → Int → Int} {ws : List Int} (hP : rxPNXX S0 ws) : rx_obBL X S0 rxCNXX.2.2.1 (rxINXX S0 ws) (rxmNXX S0 ws) 5 6 rxzNXX_5 20 (8, 0) (0, 32) 0 1125899906842624 := by
  intro S r hinv hXS I0 hin hs_ hf_
  have b_ := bx_bds_sat hs_
  have f_ := bx_fcl_ok hs_.1 hf_
  obtain ⟨⟨l8, u8⟩, ⟨l9, u9⟩, -⟩ := b_
  have g := rxbNXX_5 hP hin I0 hinv l8 u8 l9 u9
  rw [bx_x_ok hs_.1, bx_x_ok hs_.1]
  refine ⟨g.1, fun r_p hr h0_ hv => ?_⟩
  have g2 := g.2 (r_p 10) hv
  show _ ∧ rxINXX_6 S0 ws S (r_p 8) (r_p 9) (r_p 10) ∧ rxmNXX_6 S0 ws S (r_p 8) (r_p 9) (r_p 10) < _
  rw [hr 8 (by decide), hr 9 (by decide)]
  exact g2
theorem rxbNXX_7 {S0 : Nat → Int → Int} {ws : List Int} {S : Nat → Int → Int} {y c t : Int} (hP : rxPNXX S0 ws) (hin : bx_same rxL (bx_mdl rxCNXX.2.2.1) S0 S) (I0 : bx_Inv rxL S) (hinv : rxINXX_7 S0 ws S y c t) (l8 : 0 ≤ y) (u8 : y ≤ 1125899906842624) (l9 : 0 ≤ c) (u9 : c ≤ 255) (l10 : 0 ≤ t) (u10 : t ≤ 399) : bx_opcA 25 y c ∧ ∀ z : Int, z = bx_opvA 25 y c → (0 ≤ z ∧ z ≤ 2251799813685248) ∧ rxINXX_8 S0 ws S y c t z ∧ rxmNXX_8 S0 ws S y c t z < rxmNXX_7 S0 ws S y c t := by
  obtain ⟨w, ⟨k1, k2, k3, k4, hk, ht, h1, h2, h3⟩, hy, hc⟩ := hinv
  refine ⟨⟨⟨by omega, by omega⟩, ⟨by omega, by omega⟩, show (-9223372036854775808 : Int) ≤ y + c ∧ y + c ≤ 9223372036854775807 by omega⟩, fun z hv => ?_⟩
  have hv : z = y + c := hv
  exact ⟨by omega, ⟨w, ⟨k1, k2, k3, k4, hk, ht, h1, h2, h3⟩, by omega⟩, by unfold rxmNXX_7 rxmNXX_8; omega⟩
theorem rxsNXX_7 {X : (Nat → Int → Int) → Prop} {S0 : Nat → Int → Int} {ws : List Int} (hP : rxPNXX S0 ws) : rx_obBA X S0 rxCNXX.2.2.1 (rxINXX S0 ws) (rxmNXX S0 ws) 7 8 rxzNXX_7 25 (8, 0) (9, 0) 0 2251799813685248 := by
  intro S r hinv hXS I0 hin hs_ hf_
  have b_ := bx_bds_sat hs_
  have f_ := bx_fcl_ok hs_.1 hf_
  obtain ⟨⟨l8, u8⟩, ⟨l9, u9⟩, ⟨l10, u10⟩, -⟩ := b_
  have g := rxbNXX_7 hP hin I0 hinv l8 u8 l9 u9 l10 u10
  rw [bx_x_ok hs_.1, bx_x_ok hs_.1]
  refine ⟨g.1, fun r_p hr h0_ hv => ?_⟩
  have g2 := g.2 (r_p 11) hv
  show _ ∧ rxINXX_8 S0 ws S (r_p 8) (r_p 9) (r_p 10) (r_p 11) ∧ rxmNXX_8 S0 ws S (r_p 8) (r_p 9) (r_p 10) (r_p 11) < _
  rw [hr 8 (by decide), hr 9 (by decide), hr 10 (by decide)]
  exact g2
theorem rxbNXX_10 {S0 : Nat → Int → Int} {ws : List Int} {S : Nat → Int → Int} {w t : Int} (hP : rxPNXX S0 ws) (hin : bx_same rxL (bx_mdl rxCNXX.2.2.1) S0 S) (I0 : bx_Inv rxL S) (hinv : rxINXX_10 S0 ws S w t) (l8 : 0 ≤ w) (u8 : w ≤ 1000000) (l9 : 0 ≤ t) (u9 : t ≤ 399) : bx_opcL 20 w 10 ∧ ∀ y : Int, y = bx_opvL 20 w 10 → (0 ≤ y ∧ y ≤ 10000000) ∧ rxINXX_11 S0 ws S w t y ∧ rxmNXX_11 S0 ws S w t y < rxmNXX_10 S0 ws S w t := by
  obtain ⟨k1, k2, k3, k4, hk, ht, h1, h2⟩ := hinv
  refine ⟨⟨⟨by omega, by omega⟩, ⟨by omega, by omega⟩, show (-9223372036854775808 : Int) ≤ w * 10 ∧ w * 10 ≤ 9223372036854775807 by omega⟩, fun y hv => ?_⟩
  have hv : y = w * 10 := hv
  exact ⟨by omega, ⟨⟨k1, k2, k3, k4, hk, ht, h1, h2⟩, hv, by omega⟩, by unfold rxmNXX_10 rxmNXX_11; omega⟩
theorem rxsNXX_10 {X : (Nat → Int → Int) → Prop} {S0 : Nat → Int → Int} {ws : List Int} (hP : rxPNXX S0 ws) : rx_obBL X S0 rxCNXX.2.2.1 (rxINXX S0 ws) (rxmNXX S0 ws) 10 11 rxzNXX_10 20 (8, 0) (0, 10) 0 10000000 := by
  intro S r hinv hXS I0 hin hs_ hf_
  have b_ := bx_bds_sat hs_
  have f_ := bx_fcl_ok hs_.1 hf_
  obtain ⟨⟨l8, u8⟩, ⟨l9, u9⟩, -⟩ := b_
  have g := rxbNXX_10 hP hin I0 hinv l8 u8 l9 u9
  rw [bx_x_ok hs_.1, bx_x_ok hs_.1]
  refine ⟨g.1, fun r_p hr h0_ hv => ?_⟩
  have g2 := g.2 (r_p 10) hv
  show _ ∧ rxINXX_11 S0 ws S (r_p 8) (r_p 9) (r_p 10) ∧ rxmNXX_11 S0 ws S (r_p 8) (r_p 9) (r_p 10) < _
  rw [hr 8 (by decide), hr 9 (by decide)]
  exact g2
theorem rxbNXX_12 {S0 : Nat → Int → Int} {ws : List Int} {S : Nat → Int → Int} {y c t : Int} (hP : rxPNXX S0 ws) (hin : bx_same rxL (bx_mdl rxCNXX.2.2.1) S0 S) (I0 : bx_Inv rxL S) (hinv : rxINXX_12 S0 ws S y c t) (l8 : 0 ≤ y) (u8 : y ≤ 10000000) (l9 : 0 ≤ c) (u9 : c ≤ 255) (l10 : 0 ≤ t) (u10 : t ≤ 399) : bx_opcA 25 y c ∧ ∀ z : Int, z = bx_opvA 25 y c → (0 ≤ z ∧ z ≤ 10000255) ∧ rxINXX_13 S0 ws S y c t z ∧ rxmNXX_13 S0 ws S y c t z < rxmNXX_12 S0 ws S y c t := by
  obtain ⟨w, ⟨k1, k2, k3, k4, hk, ht, h1, h2⟩, hy, hw, hc⟩ := hinv
  refine ⟨⟨⟨by omega, by omega⟩, ⟨by omega, by omega⟩, show (-9223372036854775808 : Int) ≤ y + c ∧ y + c ≤ 9223372036854775807 by omega⟩, fun z hv => ?_⟩
  have hv : z = y + c := hv
  exact ⟨by omega, ⟨w, ⟨k1, k2, k3, k4, hk, ht, h1, h2⟩, by omega, hw⟩, by unfold rxmNXX_12 rxmNXX_13; omega⟩
theorem rxsNXX_12 {X : (Nat → Int → Int) → Prop} {S0 : Nat → Int → Int} {ws : List Int} (hP : rxPNXX S0 ws) : rx_obBA X S0 rxCNXX.2.2.1 (rxINXX S0 ws) (rxmNXX S0 ws) 12 13 rxzNXX_12 25 (8, 0) (9, 0) 0 10000255 := by
  intro S r hinv hXS I0 hin hs_ hf_
  have b_ := bx_bds_sat hs_
  have f_ := bx_fcl_ok hs_.1 hf_
  obtain ⟨⟨l8, u8⟩, ⟨l9, u9⟩, ⟨l10, u10⟩, -⟩ := b_
  have g := rxbNXX_12 hP hin I0 hinv l8 u8 l9 u9 l10 u10
  rw [bx_x_ok hs_.1, bx_x_ok hs_.1]
  refine ⟨g.1, fun r_p hr h0_ hv => ?_⟩
  have g2 := g.2 (r_p 11) hv
  show _ ∧ rxINXX_13 S0 ws S (r_p 8) (r_p 9) (r_p 10) (r_p 11) ∧ rxmNXX_13 S0 ws S (r_p 8) (r_p 9) (r_p 10) (r_p 11) < _
  rw [hr 8 (by decide), hr 9 (by decide), hr 10 (by decide)]
  exact g2
theorem rxcNXX_0_0 {S0 : Nat → Int → Int} {ws : List Int} {S : Nat → Int → Int} {x8 : Int} (hP : rxPNXX S0 ws) (hin : bx_same rxL (bx_mdl rxCNXX.2.2.1) S0 S) (I0 : bx_Inv rxL S) (hinv : rxINXX_0 S0 ws S) (l8 : 0 ≤ x8) (u8 : x8 ≤ 400) (e1 : S 480 10 = x8) : (True) ∧ (True) ∧ rxINXX_1 S0 ws (bx_up S 480 9 x8) ∧ rxmNXX_1 S0 ws (bx_up S 480 9 x8) < rxmNXX_0 S0 ws S := by
  obtain ⟨rfl, hw⟩ := hinv
  have hp : S 480 10 ≤ S 480 8 := hP
  refine ⟨trivial, trivial, ⟨funext fun _ => bx_up_ne (by omega), bx_up_ne (by omega), by rw [bx_up_at]; omega, by rw [bx_up_at]; omega, by rw [bx_up_at]; omega, by rw [bx_up_at, ← e1]; rfl⟩, by unfold rxmNXX_0 rxmNXX_1; rw [show (bx_up S 480 9 x8) 480 9 = _ from bx_up_at]; omega⟩
theorem rxgNXX_0_0 {X : (Nat → Int → Int) → Prop} {S0 : Nat → Int → Int} {ws : List Int} (hP : rxPNXX S0 ws) : bx_obC rxL X S0 rxCNXX.2.2.1 (rxINXX S0 ws) (rxmNXX S0 ws) 0 rxzNXX_0 rxoNXX_0_0 := by
  intro S S_p r r_p hinv hX hin hsm_ hseg
  obtain ⟨I0, I1, h0_, hr_, b_, f_, d_⟩ := bx_cl (evs := [(1, (0, 480), (0, 9), .inr (0, (8, 0))), (0, (0, 480), (0, 10), .inr (0, (8, 0)))]) (fvs := []) hseg (by decide +kernel) (by decide +kernel)
  have hinv : rxINXX_0 S0 ws S := hinv
  obtain ⟨⟨l8, u8⟩, -⟩ := b_
  obtain ⟨T0, ⟨e1, w_⟩, w0⟩ := d_
  subst w0
  subst w_
  have g := rxcNXX_0_0 hP hin I0 hinv l8 u8 e1
  refine ⟨bx_narP_ok (l := []) g.1, bx_nfP_ok h0_ (fvs := []) (by decide +kernel) g.2.1, ?_, ?_⟩
  · show rxINXX_1 S0 ws (bx_up T0 480 (9) (r_p 8))
    exact g.2.2.1
  · show rxmNXX_1 S0 ws (bx_up T0 480 (9) (r_p 8)) < rxmNXX_0 S0 ws T0
    exact g.2.2.2
theorem rxcNXX_1_0 {S0 : Nat → Int → Int} {ws : List Int} {S : Nat → Int → Int} {x8 x9 x10 : Int} (hP : rxPNXX S0 ws) (hin : bx_same rxL (bx_mdl rxCNXX.2.2.1) S0 S) (I0 : bx_Inv rxL S) (hinv : rxINXX_1 S0 ws S) (l8 : 0 ≤ x8) (u8 : x8 ≤ 399) (l9 : 1 ≤ x9) (u9 : x9 ≤ 400) (l10 : 32 ≤ x10) (u10 : x10 ≤ 32) (f0 : x8 < x9) (e3 : S 480 9 = x8) (e2 : S 480 8 = x9) (e1 : S 485 x8 = x10) : (True) ∧ (True) ∧ rxINXX_1 S0 ws (bx_up S 480 9 (x8 + 1)) ∧ rxmNXX_1 S0 ws (bx_up S 480 9 (x8 + 1)) < rxmNXX_1 S0 ws S := by
  obtain ⟨k1, k2, h0, h1, h2, hE⟩ := hinv
  have b8 : 0 ≤ S 480 8 ∧ S 480 8 ≤ 400 := I0 480 8 (by decide) (by decide)
  have b9 : 0 ≤ S 480 9 ∧ S 480 9 ≤ 400 := I0 480 9 (by decide) (by decide)
  have qe1 : (rzCut (S0 485)) (x8) = x10 := rzCut_at ((congrFun k1 _).symm.trans e1) (by omega) (by omega)
  rw [e3] at hE
  have hz : rzE (fun i => decide ((rzCut (S0 485)) i = 32)) (S0 480 8) x8 = rzE (fun i => decide ((rzCut (S0 485)) i = 32)) (S0 480 8) (x8 + 1) := rzE_y (by omega) (decide_eq_true (p := (rzCut (S0 485)) x8 = 32) (by omega))
  rw [hz] at hE
  refine ⟨trivial, trivial, ⟨(funext fun _ => bx_up_ne (by omega)).trans k1, (bx_up_ne (by omega)).trans k2, by rw [bx_up_at]; omega, by rw [bx_up_at]; omega, by rw [bx_up_at]; omega, by rw [bx_up_at]; exact hE⟩, by unfold rxmNXX_1; rw [show (bx_up S 480 9 (x8 + 1)) 480 9 = _ from bx_up_at]; omega⟩
theorem rxgNXX_1_0 {X : (Nat → Int → Int) → Prop} {S0 : Nat → Int → Int} {ws : List Int} (hP : rxPNXX S0 ws) : bx_obC rxL X S0 rxCNXX.2.2.1 (rxINXX S0 ws) (rxmNXX S0 ws) 1 rxzNXX_1 rxoNXX_1_0 := by
  intro S S_p r r_p hinv hX hin hsm_ hseg
  obtain ⟨I0, I1, h0_, hr_, b_, f_, d_⟩ := bx_cl (evs := [(1, (0, 480), (0, 9), .inr (0, (8, 1))), (0, (0, 485), (8, 0), .inr (0, (10, 0))), (0, (0, 480), (0, 8), .inr (0, (9, 0))), (0, (0, 480), (0, 9), .inr (0, (8, 0)))]) (fvs := [(0, (8, 0), (9, 0), (0, 0))]) hseg (by decide +kernel) (by decide +kernel)
  have hinv : rxINXX_1 S0 ws S := hinv
  obtain ⟨⟨l8, u8⟩, ⟨l9, u9⟩, ⟨l10, u10⟩, -⟩ := b_
  obtain ⟨f0, -⟩ := f_
  obtain ⟨T0, ⟨e1, ⟨e2, ⟨e3, w_⟩⟩⟩, w0⟩ := d_
  subst w0
  subst w_
  have g := rxcNXX_1_0 hP hin I0 hinv l8 u8 l9 u9 l10 u10 f0 e3 e2 e1
  refine ⟨bx_narP_ok (l := []) g.1, bx_nfP_ok h0_ (fvs := []) (by decide +kernel) g.2.1, ?_, ?_⟩
  · show rxINXX_1 S0 ws (bx_up T0 480 (9) (r_p 8 + 1))
    exact g.2.2.1
  · show rxmNXX_1 S0 ws (bx_up T0 480 (9) (r_p 8 + 1)) < rxmNXX_1 S0 ws T0
    exact g.2.2.2
theorem rxcNXX_1_1 {S0 : Nat → Int → Int} {ws : List Int} {S : Nat → Int → Int} {x8 x9 x10 : Int} (hP : rxPNXX S0 ws) (hin : bx_same rxL (bx_mdl rxCNXX.2.2.1) S0 S) (I0 : bx_Inv rxL S) (hinv : rxINXX_1 S0 ws S) (l8 : 0 ≤ x8) (u8 : x8 ≤ 399) (l9 : 1 ≤ x9) (u9 : x9 ≤ 400) (l10 : 0 ≤ x10) (u10 : x10 ≤ 255) (f0 : x10 ≠ 32) (f1 : x8 < x9) (e2 : S 480 9 = x8) (e1 : S 480 8 = x9) (e0 : S 485 x8 = x10) : (True) ∧ (True) ∧ rxINXX_2 S0 ws S ∧ rxmNXX_2 S0 ws S < rxmNXX_1 S0 ws S := by
  obtain ⟨k1, k2, h0, h1, h2, hE⟩ := hinv
  have b8 : 0 ≤ S 480 8 ∧ S 480 8 ≤ 400 := I0 480 8 (by decide) (by decide)
  have b9 : 0 ≤ S 480 9 ∧ S 480 9 ≤ 400 := I0 480 9 (by decide) (by decide)
  have qe0 : (rzCut (S0 485)) (x8) = x10 := rzCut_at ((congrFun k1 _).symm.trans e0) (by omega) (by omega)
  rw [e2] at hE
  have hz : rzE (fun i => decide ((rzCut (S0 485)) i = 32)) (S0 480 8) x8 = x8 := rzE_n (fun g => by have g2 : (rzCut (S0 485)) x8 = 32 := of_decide_eq_true g.2; omega)
  rw [hz] at hE
  exact ⟨trivial, trivial, ⟨k1, k2, h2, e2.trans hE⟩, by unfold rxmNXX_1 rxmNXX_2; omega⟩
theorem rxgNXX_1_1 {X : (Nat → Int → Int) → Prop} {S0 : Nat → Int → Int} {ws : List Int} (hP : rxPNXX S0 ws) : bx_obC rxL X S0 rxCNXX.2.2.1 (rxINXX S0 ws) (rxmNXX S0 ws) 1 rxzNXX_1 rxoNXX_1_1 := by
  intro S S_p r r_p hinv hX hin hsm_ hseg
  obtain ⟨I0, I1, h0_, hr_, b_, f_, d_⟩ := bx_cl (evs := [(0, (0, 485), (8, 0), .inr (0, (10, 0))), (0, (0, 480), (0, 8), .inr (0, (9, 0))), (0, (0, 480), (0, 9), .inr (0, (8, 0)))]) (fvs := [(3, (10, 0), (0, 32), (0, 0)), (0, (8, 0), (9, 0), (0, 0))]) hseg (by decide +kernel) (by decide +kernel)
  have hinv : rxINXX_1 S0 ws S := hinv
  obtain ⟨⟨l8, u8⟩, ⟨l9, u9⟩, ⟨l10, u10⟩, -⟩ := b_
  obtain ⟨f0, f1, -⟩ := f_
  obtain ⟨e0, ⟨e1, ⟨e2, w_⟩⟩⟩ := d_
  subst w_
  have g := rxcNXX_1_1 hP hin I0 hinv l8 u8 l9 u9 l10 u10 f0 f1 e2 e1 e0
  refine ⟨bx_narP_ok (l := []) g.1, bx_nfP_ok h0_ (fvs := []) (by decide +kernel) g.2.1, ?_, ?_⟩
  · show rxINXX_2 S0 ws S_p
    exact g.2.2.1
  · show rxmNXX_2 S0 ws S_p < rxmNXX_1 S0 ws S_p
    exact g.2.2.2
theorem rxcNXX_1_2 {S0 : Nat → Int → Int} {ws : List Int} {S : Nat → Int → Int} {x8 x9 : Int} (hP : rxPNXX S0 ws) (hin : bx_same rxL (bx_mdl rxCNXX.2.2.1) S0 S) (I0 : bx_Inv rxL S) (hinv : rxINXX_1 S0 ws S) (l8 : 0 ≤ x8) (u8 : x8 ≤ 400) (l9 : 0 ≤ x9) (u9 : x9 ≤ 400) (f0 : x9 ≤ x8) (e1 : S 480 9 = x8) (e0 : S 480 8 = x9) : (True) ∧ (True) ∧ rxINXX_2 S0 ws S ∧ rxmNXX_2 S0 ws S < rxmNXX_1 S0 ws S := by
  obtain ⟨k1, k2, h0, h1, h2, hE⟩ := hinv
  have b8 : 0 ≤ S 480 8 ∧ S 480 8 ≤ 400 := I0 480 8 (by decide) (by decide)
  have b9 : 0 ≤ S 480 9 ∧ S 480 9 ≤ 400 := I0 480 9 (by decide) (by decide)
  rw [e1] at hE
  have hz : rzE (fun i => decide ((rzCut (S0 485)) i = 32)) (S0 480 8) x8 = x8 := rzE_n (fun g => by have g2 : (rzCut (S0 485)) x8 = 32 := of_decide_eq_true g.2; omega)
  rw [hz] at hE
  exact ⟨trivial, trivial, ⟨k1, k2, h2, e1.trans hE⟩, by unfold rxmNXX_1 rxmNXX_2; omega⟩
theorem rxgNXX_1_2 {X : (Nat → Int → Int) → Prop} {S0 : Nat → Int → Int} {ws : List Int} (hP : rxPNXX S0 ws) : bx_obC rxL X S0 rxCNXX.2.2.1 (rxINXX S0 ws) (rxmNXX S0 ws) 1 rxzNXX_1 rxoNXX_1_2 := by
  intro S S_p r r_p hinv hX hin hsm_ hseg
  obtain ⟨I0, I1, h0_, hr_, b_, f_, d_⟩ := bx_cl (evs := [(0, (0, 480), (0, 8), .inr (0, (9, 0))), (0, (0, 480), (0, 9), .inr (0, (8, 0)))]) (fvs := [(1, (9, 0), (8, 0), (0, 0))]) hseg (by decide +kernel) (by decide +kernel)
  have hinv : rxINXX_1 S0 ws S := hinv
  obtain ⟨⟨l8, u8⟩, ⟨l9, u9⟩, -⟩ := b_
  obtain ⟨f0, -⟩ := f_
  obtain ⟨e0, ⟨e1, w_⟩⟩ := d_
  subst w_
  have g := rxcNXX_1_2 hP hin I0 hinv l8 u8 l9 u9 f0 e1 e0
  refine ⟨bx_narP_ok (l := []) g.1, bx_nfP_ok h0_ (fvs := []) (by decide +kernel) g.2.1, ?_, ?_⟩
  · show rxINXX_2 S0 ws S_p
    exact g.2.2.1
  · show rxmNXX_2 S0 ws S_p < rxmNXX_1 S0 ws S_p
    exact g.2.2.2
theorem rxcNXX_2_0 {S0 : Nat → Int → Int} {ws : List Int} {S : Nat → Int → Int} {x8 x9 : Int} (hP : rxPNXX S0 ws) (hin : bx_same rxL (bx_mdl rxCNXX.2.2.1) S0 S) (I0 : bx_Inv rxL S) (hinv : rxINXX_2 S0 ws S) (l8 : 0 ≤ x8) (u8 : x8 ≤ 400) (l9 : 0 ≤ x9) (u9 : x9 ≤ 400) (f0 : x8 = x9) (e4 : S 480 9 = x8) (e1 : (bx_up (bx_up S 480 10 x8) 480 12 0) 480 8 = x9) : (True) ∧ (True) ∧ rxINXX_4 S0 ws (bx_up (bx_up (bx_up S 480 10 x8) 480 12 0) 480 11 0) ∧ rxmNXX_4 S0 ws (bx_up (bx_up (bx_up S 480 10 x8) 480 12 0) 480 11 0) < rxmNXX_2 S0 ws S := by
  obtain ⟨k1, k2, k3, k4⟩ := hinv
  have b8 : 0 ≤ S 480 8 ∧ S 480 8 ≤ 400 := I0 480 8 (by decide) (by decide)
  have b9 : 0 ≤ S 480 9 ∧ S 480 9 ≤ 400 := I0 480 9 (by decide) (by decide)
  have q8 : S 480 8 = x9 := ((bx_up_ne (by omega)).trans ((bx_up_ne (by omega)))).symm.trans e1
  have hp : S0 480 10 ≤ S0 480 8 := hP
  have bF := (rzF_b (T := (rzCut (S0 485))) (n := (S0 480 8)) (k := S0 480 10)).2 hp
  refine ⟨trivial, trivial, ⟨(funext fun _ => (bx_up_ne (by omega)).trans ((bx_up_ne (by omega)).trans ((bx_up_ne (by omega))))).trans k1, ((bx_up_ne (by omega)).trans ((bx_up_ne (by omega)).trans ((bx_up_ne (by omega))))).trans k2, by rw [show (bx_up (bx_up (bx_up S 480 10 x8) 480 12 0) 480 11 0) 480 9 = S 480 9 from (bx_up_ne (by omega)).trans ((bx_up_ne (by omega)).trans ((bx_up_ne (by omega))))]; exact k3, ((bx_up_ne (by omega)).trans ((bx_up_ne (by omega)).trans ((bx_up_ne (by omega))))).trans k4, rzKa_c ((bx_up_ne (by omega)).trans ((bx_up_ne (by omega)).trans ((bx_up_ne (by omega))))) ((bx_up_ne (by omega)).trans ((bx_up_ne (by omega)).trans (bx_up_at))) (bx_up_at) ((bx_up_ne (by omega)).trans (bx_up_at)) ?_⟩, by unfold rxmNXX_2 rxmNXX_4; rw [show (bx_up (bx_up (bx_up S 480 10 x8) 480 12 0) 480 11 0) 480 10 = _ from (bx_up_ne (by omega)).trans ((bx_up_ne (by omega)).trans (bx_up_at))]; omega⟩
  exact Or.inl ⟨rfl, by omega, by omega, rfl⟩
theorem rxgNXX_2_0 {X : (Nat → Int → Int) → Prop} {S0 : Nat → Int → Int} {ws : List Int} (hP : rxPNXX S0 ws) : bx_obC rxL X S0 rxCNXX.2.2.1 (rxINXX S0 ws) (rxmNXX S0 ws) 2 rxzNXX_2 rxoNXX_2_0 := by
  intro S S_p r r_p hinv hX hin hsm_ hseg
  obtain ⟨I0, I1, h0_, hr_, b_, f_, d_⟩ := bx_cl (evs := [(1, (0, 480), (0, 11), .inr (0, (0, 0))), (0, (0, 480), (0, 8), .inr (0, (9, 0))), (1, (0, 480), (0, 12), .inr (1, (0, 0))), (1, (0, 480), (0, 10), .inr (0, (8, 0))), (0, (0, 480), (0, 9), .inr (0, (8, 0)))]) (fvs := [(2, (8, 0), (9, 0), (0, 0))]) hseg (by decide +kernel) (by decide +kernel)
  have hinv : rxINXX_2 S0 ws S := hinv
  obtain ⟨⟨l8, u8⟩, ⟨l9, u9⟩, -⟩ := b_
  obtain ⟨f0, -⟩ := f_
  obtain ⟨T0, ⟨e1, ⟨T2, ⟨T3, ⟨e4, w_⟩, w3⟩, w2⟩⟩, w0⟩ := d_
  subst w0
  subst w2
  subst w3
  subst w_
  have g := rxcNXX_2_0 hP hin I0 hinv l8 u8 l9 u9 f0 e4 e1
  refine ⟨bx_narP_ok (l := []) g.1, bx_nfP_ok h0_ (fvs := []) (by decide +kernel) g.2.1, ?_, ?_⟩
  · show rxINXX_4 S0 ws (bx_up (bx_up (bx_up T3 480 (10) (r_p 8)) 480 (12) (0)) 480 (11) (0))
    exact g.2.2.1
  · show rxmNXX_4 S0 ws (bx_up (bx_up (bx_up T3 480 (10) (r_p 8)) 480 (12) (0)) 480 (11) (0)) < rxmNXX_2 S0 ws T3
    exact g.2.2.2
theorem rxcNXX_2_1 {S0 : Nat → Int → Int} {ws : List Int} {S : Nat → Int → Int} {x8 x9 : Int} (hP : rxPNXX S0 ws) (hin : bx_same rxL (bx_mdl rxCNXX.2.2.1) S0 S) (I0 : bx_Inv rxL S) (hinv : rxINXX_2 S0 ws S) (l8 : 0 ≤ x8) (u8 : x8 ≤ 400) (l9 : 0 ≤ x9) (u9 : x9 ≤ 400) (f0 : x8 ≠ x9) (e3 : S 480 9 = x8) (e0 : (bx_up (bx_up S 480 10 x8) 480 12 0) 480 8 = x9) : ((1 ≤ x9 ∧ x9 ≤ 400) ∧ (0 ≤ x8 ∧ x8 ≤ 399) ∧ (0 ≤ x8 ∧ x8 ≤ 399) ∧ True) ∧ (x8 < x9 ∧ True) ∧ rxINXX_3 S0 ws (bx_up (bx_up S 480 10 x8) 480 12 0) x9 x8 x8 ∧ rxmNXX_3 S0 ws (bx_up (bx_up S 480 10 x8) 480 12 0) x9 x8 x8 < rxmNXX_2 S0 ws S := by
  obtain ⟨k1, k2, k3, k4⟩ := hinv
  have b8 : 0 ≤ S 480 8 ∧ S 480 8 ≤ 400 := I0 480 8 (by decide) (by decide)
  have b9 : 0 ≤ S 480 9 ∧ S 480 9 ≤ 400 := I0 480 9 (by decide) (by decide)
  have q8 : S 480 8 = x9 := ((bx_up_ne (by omega)).trans ((bx_up_ne (by omega)))).symm.trans e0
  have hp : S0 480 10 ≤ S0 480 8 := hP
  have bF := (rzF_b (T := (rzCut (S0 485))) (n := (S0 480 8)) (k := S0 480 10)).2 hp
  refine ⟨⟨⟨by omega, by omega⟩, ⟨by omega, by omega⟩, ⟨by omega, by omega⟩, trivial⟩, ⟨by omega, trivial⟩, ⟨⟨(funext fun _ => (bx_up_ne (by omega)).trans ((bx_up_ne (by omega)))).trans k1, ((bx_up_ne (by omega)).trans ((bx_up_ne (by omega)))).trans k2, by rw [show (bx_up (bx_up S 480 10 x8) 480 12 0) 480 9 = S 480 9 from (bx_up_ne (by omega)).trans ((bx_up_ne (by omega)))]; exact k3, ((bx_up_ne (by omega)).trans ((bx_up_ne (by omega)))).trans k4⟩, ((bx_up_ne (by omega)).trans ((bx_up_ne (by omega)))).trans e3, ((bx_up_ne (by omega)).trans ((bx_up_ne (by omega)))).trans q8, (bx_up_ne (by omega)).trans (bx_up_at), rfl, bx_up_at⟩, by unfold rxmNXX_2 rxmNXX_3; omega⟩
theorem rxgNXX_2_1 {X : (Nat → Int → Int) → Prop} {S0 : Nat → Int → Int} {ws : List Int} (hP : rxPNXX S0 ws) : bx_obC rxL X S0 rxCNXX.2.2.1 (rxINXX S0 ws) (rxmNXX S0 ws) 2 rxzNXX_2 rxoNXX_2_1 := by
  intro S S_p r r_p hinv hX hin hsm_ hseg
  obtain ⟨I0, I1, h0_, hr_, b_, f_, d_⟩ := bx_cl (evs := [(0, (0, 480), (0, 8), .inr (0, (9, 0))), (1, (0, 480), (0, 12), .inr (1, (0, 0))), (1, (0, 480), (0, 10), .inr (0, (8, 0))), (0, (0, 480), (0, 9), .inr (0, (8, 0)))]) (fvs := [(3, (8, 0), (9, 0), (0, 0))]) hseg (by decide +kernel) (by decide +kernel)
  have hinv : rxINXX_2 S0 ws S := hinv
  obtain ⟨⟨l8, u8⟩, ⟨l9, u9⟩, -⟩ := b_
  obtain ⟨f0, -⟩ := f_
  obtain ⟨e0, ⟨T1, ⟨T2, ⟨e3, w_⟩, w2⟩, w1⟩⟩ := d_
  subst w1
  subst w2
  subst w_
  have g := rxcNXX_2_1 hP hin I0 hinv l8 u8 l9 u9 f0 e3 e0
  refine ⟨bx_narP_ok (l := [(9, 1, 400), (8, 0, 399), (8, 0, 399)]) g.1, bx_nfP_ok h0_ (fvs := [(0, (8, 0), (9, 0), (0, 0))]) (by decide +kernel) g.2.1, ?_, ?_⟩
  · show rxINXX_3 S0 ws (bx_up (bx_up T2 480 (10) (r_p 8)) 480 (12) (0)) (bx_val [(0, 0), (0, 0), (0, 0), (0, 0), (0, 0), (0, 0), (0, 0), (0, 0), (9, 0), (8, 0), (8, 0)] r_p 8) (bx_val [(0, 0), (0, 0), (0, 0), (0, 0), (0, 0), (0, 0), (0, 0), (0, 0), (9, 0), (8, 0), (8, 0)] r_p 9) (bx_val [(0, 0), (0, 0), (0, 0), (0, 0), (0, 0), (0, 0), (0, 0), (0, 0), (9, 0), (8, 0), (8, 0)] r_p 10)
    rw [bx_val_x (n := 8) (e := (9, 0)) h0_ rfl, bx_val_x (n := 9) (e := (8, 0)) h0_ rfl, bx_val_x (n := 10) (e := (8, 0)) h0_ rfl]
    exact g.2.2.1
  · show rxmNXX_3 S0 ws (bx_up (bx_up T2 480 (10) (r_p 8)) 480 (12) (0)) (bx_val [(0, 0), (0, 0), (0, 0), (0, 0), (0, 0), (0, 0), (0, 0), (0, 0), (9, 0), (8, 0), (8, 0)] r_p 8) (bx_val [(0, 0), (0, 0), (0, 0), (0, 0), (0, 0), (0, 0), (0, 0), (0, 0), (9, 0), (8, 0), (8, 0)] r_p 9) (bx_val [(0, 0), (0, 0), (0, 0), (0, 0), (0, 0), (0, 0), (0, 0), (0, 0), (9, 0), (8, 0), (8, 0)] r_p 10) < rxmNXX_2 S0 ws T2
    rw [bx_val_x (n := 8) (e := (9, 0)) h0_ rfl, bx_val_x (n := 9) (e := (8, 0)) h0_ rfl, bx_val_x (n := 10) (e := (8, 0)) h0_ rfl]
    exact g.2.2.2
theorem rxcNXX_3_0 {S0 : Nat → Int → Int} {ws : List Int} {S : Nat → Int → Int} {t f g x11 x12 x13 : Int} (hP : rxPNXX S0 ws) (hin : bx_same rxL (bx_mdl rxCNXX.2.2.1) S0 S) (I0 : bx_Inv rxL S) (hinv : rxINXX_3 S0 ws S t f g) (l8 : 1 ≤ t) (u8 : t ≤ 400) (l9 : 0 ≤ f) (u9 : f ≤ 399) (l10 : 0 ≤ g) (u10 : g ≤ 399) (l11 : 0 ≤ x11) (u11 : x11 ≤ 96) (l12 : 0 ≤ x12) (u12 : x12 ≤ 47) (l13 : 0 ≤ x13) (u13 : x13 ≤ 255) (f0 : f < t) (e5 : S 485 f = x11) (e4 : S 485 f = x12) (e2 : (bx_up S 480 11 3) 485 f = x13) : (True) ∧ (True) ∧ rxINXX_4 S0 ws (bx_up (bx_up (bx_up S 480 11 3) 480 12 x13) 480 10 (g + 1)) ∧ rxmNXX_4 S0 ws (bx_up (bx_up (bx_up S 480 11 3) 480 12 x13) 480 10 (g + 1)) < rxmNXX_3 S0 ws S t f g := by
  obtain ⟨⟨k1, k2, k3, k4⟩, h9, h8, h10, hg, h12⟩ := hinv
  have qe5 : (rzCut (S0 485)) (f) = x11 := rzCut_at ((congrFun k1 _).symm.trans e5) (by omega) (by omega)
  have qe4 : (rzCut (S0 485)) (f) = x12 := rzCut_at ((congrFun k1 _).symm.trans e4) (by omega) (by omega)
  have qe2 : (rzCut (S0 485)) (f) = x13 := rzCut_at ((congrFun k1 _).symm.trans (((bx_up_ne (by omega))).symm.trans e2)) (by omega) (by omega)
  have z0 : x11 = x12 := qe5.symm.trans qe4
  have z1 : x11 = x13 := qe5.symm.trans qe2
  refine ⟨trivial, trivial, ⟨(funext fun _ => (bx_up_ne (by omega)).trans ((bx_up_ne (by omega)).trans ((bx_up_ne (by omega))))).trans k1, ((bx_up_ne (by omega)).trans ((bx_up_ne (by omega)).trans ((bx_up_ne (by omega))))).trans k2, by rw [show (bx_up (bx_up (bx_up S 480 11 3) 480 12 x13) 480 10 (g + 1)) 480 9 = S 480 9 from (bx_up_ne (by omega)).trans ((bx_up_ne (by omega)).trans ((bx_up_ne (by omega))))]; exact k3, ((bx_up_ne (by omega)).trans ((bx_up_ne (by omega)).trans ((bx_up_ne (by omega))))).trans k4, rzKa_c (((bx_up_ne (by omega)).trans ((bx_up_ne (by omega)).trans ((bx_up_ne (by omega))))).trans h9) (bx_up_at) ((bx_up_ne (by omega)).trans ((bx_up_ne (by omega)).trans (bx_up_at))) ((bx_up_ne (by omega)).trans (bx_up_at)) ?_⟩, by unfold rxmNXX_3 rxmNXX_4; rw [show (bx_up (bx_up (bx_up S 480 11 3) 480 12 x13) 480 10 (g + 1)) 480 10 = _ from bx_up_at]; omega⟩
  exact Or.inr (Or.inl ⟨rfl, by omega, rzL_f (by omega), rzG_f (by omega), by omega, qe2.symm⟩)
theorem rxgNXX_3_0 {X : (Nat → Int → Int) → Prop} {S0 : Nat → Int → Int} {ws : List Int} (hP : rxPNXX S0 ws) : bx_obC rxL X S0 rxCNXX.2.2.1 (rxINXX S0 ws) (rxmNXX S0 ws) 3 rxzNXX_3 rxoNXX_3_0 := by
  intro S S_p r r_p hinv hX hin hsm_ hseg
  obtain ⟨I0, I1, h0_, hr_, b_, f_, d_⟩ := bx_cl (evs := [(1, (0, 480), (0, 10), .inr (0, (10, 1))), (1, (0, 480), (0, 12), .inr (1, (13, 0))), (0, (0, 485), (9, 0), .inr (0, (13, 0))), (1, (0, 480), (0, 11), .inr (0, (0, 3))), (0, (0, 485), (9, 0), .inr (0, (12, 0))), (0, (0, 485), (9, 0), .inr (0, (11, 0)))]) (fvs := [(0, (9, 0), (8, 0), (0, 0))]) hseg (by decide +kernel) (by decide +kernel)
  have hinv : rxINXX_3 S0 ws S (r 8) (r 9) (r 10) := hinv
  rw [← hr_ 8 (by decide), ← hr_ 9 (by decide), ← hr_ 10 (by decide)] at hinv
  obtain ⟨⟨l8, u8⟩, ⟨l9, u9⟩, ⟨l10, u10⟩, ⟨l11, u11⟩, ⟨l12, u12⟩, ⟨l13, u13⟩, -⟩ := b_
  obtain ⟨f0, -⟩ := f_
  obtain ⟨T0, ⟨T1, ⟨e2, ⟨T3, ⟨e4, ⟨e5, w_⟩⟩, w3⟩⟩, w1⟩, w0⟩ := d_
  subst w0
  subst w1
  subst w3
  subst w_
  have g := rxcNXX_3_0 hP hin I0 hinv l8 u8 l9 u9 l10 u10 l11 u11 l12 u12 l13 u13 f0 e5 e4 e2
  refine ⟨bx_narP_ok (l := []) g.1, bx_nfP_ok h0_ (fvs := []) (by decide +kernel) g.2.1, ?_, ?_⟩
  · show rxINXX_4 S0 ws (bx_up (bx_up (bx_up T3 480 (11) (3)) 480 (12) (r_p 13)) 480 (10) (r_p 10 + 1))
    exact g.2.2.1
  · show rxmNXX_4 S0 ws (bx_up (bx_up (bx_up T3 480 (11) (3)) 480 (12) (r_p 13)) 480 (10) (r_p 10 + 1)) < rxmNXX_3 S0 ws T3 (r 8) (r 9) (r 10)
    rw [← hr_ 8 (by decide), ← hr_ 9 (by decide), ← hr_ 10 (by decide)]
    exact g.2.2.2
theorem rxcNXX_3_1 {S0 : Nat → Int → Int} {ws : List Int} {S : Nat → Int → Int} {t f g x11 x12 x13 : Int} (hP : rxPNXX S0 ws) (hin : bx_same rxL (bx_mdl rxCNXX.2.2.1) S0 S) (I0 : bx_Inv rxL S) (hinv : rxINXX_3 S0 ws S t f g) (l8 : 1 ≤ t) (u8 : t ≤ 400) (l9 : 0 ≤ f) (u9 : f ≤ 399) (l10 : 0 ≤ g) (u10 : g ≤ 399) (l11 : 0 ≤ x11) (u11 : x11 ≤ 96) (l12 : 58 ≤ x12) (u12 : x12 ≤ 255) (l13 : 0 ≤ x13) (u13 : x13 ≤ 255) (f0 : f < t) (e5 : S 485 f = x11) (e4 : S 485 f = x12) (e2 : (bx_up S 480 11 3) 485 f = x13) : (True) ∧ (True) ∧ rxINXX_4 S0 ws (bx_up (bx_up (bx_up S 480 11 3) 480 12 x13) 480 10 (g + 1)) ∧ rxmNXX_4 S0 ws (bx_up (bx_up (bx_up S 480 11 3) 480 12 x13) 480 10 (g + 1)) < rxmNXX_3 S0 ws S t f g := by
  obtain ⟨⟨k1, k2, k3, k4⟩, h9, h8, h10, hg, h12⟩ := hinv
  have qe5 : (rzCut (S0 485)) (f) = x11 := rzCut_at ((congrFun k1 _).symm.trans e5) (by omega) (by omega)
  have qe4 : (rzCut (S0 485)) (f) = x12 := rzCut_at ((congrFun k1 _).symm.trans e4) (by omega) (by omega)
  have qe2 : (rzCut (S0 485)) (f) = x13 := rzCut_at ((congrFun k1 _).symm.trans (((bx_up_ne (by omega))).symm.trans e2)) (by omega) (by omega)
  have z0 : x11 = x12 := qe5.symm.trans qe4
  have z1 : x11 = x13 := qe5.symm.trans qe2
  refine ⟨trivial, trivial, ⟨(funext fun _ => (bx_up_ne (by omega)).trans ((bx_up_ne (by omega)).trans ((bx_up_ne (by omega))))).trans k1, ((bx_up_ne (by omega)).trans ((bx_up_ne (by omega)).trans ((bx_up_ne (by omega))))).trans k2, by rw [show (bx_up (bx_up (bx_up S 480 11 3) 480 12 x13) 480 10 (g + 1)) 480 9 = S 480 9 from (bx_up_ne (by omega)).trans ((bx_up_ne (by omega)).trans ((bx_up_ne (by omega))))]; exact k3, ((bx_up_ne (by omega)).trans ((bx_up_ne (by omega)).trans ((bx_up_ne (by omega))))).trans k4, rzKa_c (((bx_up_ne (by omega)).trans ((bx_up_ne (by omega)).trans ((bx_up_ne (by omega))))).trans h9) (bx_up_at) ((bx_up_ne (by omega)).trans ((bx_up_ne (by omega)).trans (bx_up_at))) ((bx_up_ne (by omega)).trans (bx_up_at)) ?_⟩, by unfold rxmNXX_3 rxmNXX_4; rw [show (bx_up (bx_up (bx_up S 480 11 3) 480 12 x13) 480 10 (g + 1)) 480 10 = _ from bx_up_at]; omega⟩
  exact Or.inr (Or.inl ⟨rfl, by omega, rzL_f (by omega), rzG_f (by omega), by omega, qe2.symm⟩)
theorem rxgNXX_3_1 {X : (Nat → Int → Int) → Prop} {S0 : Nat → Int → Int} {ws : List Int} (hP : rxPNXX S0 ws) : bx_obC rxL X S0 rxCNXX.2.2.1 (rxINXX S0 ws) (rxmNXX S0 ws) 3 rxzNXX_3 rxoNXX_3_1 := by
  intro S S_p r r_p hinv hX hin hsm_ hseg
  obtain ⟨I0, I1, h0_, hr_, b_, f_, d_⟩ := bx_cl (evs := [(1, (0, 480), (0, 10), .inr (0, (10, 1))), (1, (0, 480), (0, 12), .inr (1, (13, 0))), (0, (0, 485), (9, 0), .inr (0, (13, 0))), (1, (0, 480), (0, 11), .inr (0, (0, 3))), (0, (0, 485), (9, 0), .inr (0, (12, 0))), (0, (0, 485), (9, 0), .inr (0, (11, 0)))]) (fvs := [(0, (9, 0), (8, 0), (0, 0))]) hseg (by decide +kernel) (by decide +kernel)
  have hinv : rxINXX_3 S0 ws S (r 8) (r 9) (r 10) := hinv
  rw [← hr_ 8 (by decide), ← hr_ 9 (by decide), ← hr_ 10 (by decide)] at hinv
  obtain ⟨⟨l8, u8⟩, ⟨l9, u9⟩, ⟨l10, u10⟩, ⟨l11, u11⟩, ⟨l12, u12⟩, ⟨l13, u13⟩, -⟩ := b_
  obtain ⟨f0, -⟩ := f_
  obtain ⟨T0, ⟨T1, ⟨e2, ⟨T3, ⟨e4, ⟨e5, w_⟩⟩, w3⟩⟩, w1⟩, w0⟩ := d_
  subst w0
  subst w1
  subst w3
  subst w_
  have g := rxcNXX_3_1 hP hin I0 hinv l8 u8 l9 u9 l10 u10 l11 u11 l12 u12 l13 u13 f0 e5 e4 e2
  refine ⟨bx_narP_ok (l := []) g.1, bx_nfP_ok h0_ (fvs := []) (by decide +kernel) g.2.1, ?_, ?_⟩
  · show rxINXX_4 S0 ws (bx_up (bx_up (bx_up T3 480 (11) (3)) 480 (12) (r_p 13)) 480 (10) (r_p 10 + 1))
    exact g.2.2.1
  · show rxmNXX_4 S0 ws (bx_up (bx_up (bx_up T3 480 (11) (3)) 480 (12) (r_p 13)) 480 (10) (r_p 10 + 1)) < rxmNXX_3 S0 ws T3 (r 8) (r 9) (r 10)
    rw [← hr_ 8 (by decide), ← hr_ 9 (by decide), ← hr_ 10 (by decide)]
    exact g.2.2.2
theorem rxcNXX_3_2 {S0 : Nat → Int → Int} {ws : List Int} {S : Nat → Int → Int} {t f g x11 x12 : Int} (hP : rxPNXX S0 ws) (hin : bx_same rxL (bx_mdl rxCNXX.2.2.1) S0 S) (I0 : bx_Inv rxL S) (hinv : rxINXX_3 S0 ws S t f g) (l8 : 1 ≤ t) (u8 : t ≤ 400) (l9 : 0 ≤ f) (u9 : f ≤ 399) (l10 : 0 ≤ g) (u10 : g ≤ 399) (l11 : 0 ≤ x11) (u11 : x11 ≤ 96) (l12 : 48 ≤ x12) (u12 : x12 ≤ 57) (f0 : f < t) (e2 : S 485 f = x11) (e1 : S 485 f = x12) : (True) ∧ (True) ∧ rxINXX_4 S0 ws (bx_up S 480 11 2) ∧ rxmNXX_4 S0 ws (bx_up S 480 11 2) < rxmNXX_3 S0 ws S t f g := by
  obtain ⟨⟨k1, k2, k3, k4⟩, h9, h8, h10, hg, h12⟩ := hinv
  have qe2 : (rzCut (S0 485)) (f) = x11 := rzCut_at ((congrFun k1 _).symm.trans e2) (by omega) (by omega)
  have qe1 : (rzCut (S0 485)) (f) = x12 := rzCut_at ((congrFun k1 _).symm.trans e1) (by omega) (by omega)
  have z0 : x11 = x12 := qe2.symm.trans qe1
  refine ⟨trivial, trivial, ⟨(funext fun _ => (bx_up_ne (by omega))).trans k1, ((bx_up_ne (by omega))).trans k2, by rw [show (bx_up S 480 11 2) 480 9 = S 480 9 from (bx_up_ne (by omega))]; exact k3, ((bx_up_ne (by omega))).trans k4, rzKa_c (((bx_up_ne (by omega))).trans h9) (((bx_up_ne (by omega))).trans (h10.trans hg)) (bx_up_at) (((bx_up_ne (by omega))).trans h12) ?_⟩, by unfold rxmNXX_3 rxmNXX_4; rw [show (bx_up S 480 11 2) 480 10 = _ from (bx_up_ne (by omega))]; omega⟩
  exact Or.inr (Or.inr (Or.inr (rzK2_0 (by omega) (rzL_f (by omega)) (rzG_t (by omega) (by omega)))))
theorem rxgNXX_3_2 {X : (Nat → Int → Int) → Prop} {S0 : Nat → Int → Int} {ws : List Int} (hP : rxPNXX S0 ws) : bx_obC rxL X S0 rxCNXX.2.2.1 (rxINXX S0 ws) (rxmNXX S0 ws) 3 rxzNXX_3 rxoNXX_3_2 := by
  intro S S_p r r_p hinv hX hin hsm_ hseg
  obtain ⟨I0, I1, h0_, hr_, b_, f_, d_⟩ := bx_cl (evs := [(1, (0, 480), (0, 11), .inr (0, (0, 2))), (0, (0, 485), (9, 0), .inr (0, (12, 0))), (0, (0, 485), (9, 0), .inr (0, (11, 0)))]) (fvs := [(0, (9, 0), (8, 0), (0, 0))]) hseg (by decide +kernel) (by decide +kernel)
  have hinv : rxINXX_3 S0 ws S (r 8) (r 9) (r 10) := hinv
  rw [← hr_ 8 (by decide), ← hr_ 9 (by decide), ← hr_ 10 (by decide)] at hinv
  obtain ⟨⟨l8, u8⟩, ⟨l9, u9⟩, ⟨l10, u10⟩, ⟨l11, u11⟩, ⟨l12, u12⟩, -⟩ := b_
  obtain ⟨f0, -⟩ := f_
  obtain ⟨T0, ⟨e1, ⟨e2, w_⟩⟩, w0⟩ := d_
  subst w0
  subst w_
  have g := rxcNXX_3_2 hP hin I0 hinv l8 u8 l9 u9 l10 u10 l11 u11 l12 u12 f0 e2 e1
  refine ⟨bx_narP_ok (l := []) g.1, bx_nfP_ok h0_ (fvs := []) (by decide +kernel) g.2.1, ?_, ?_⟩
  · show rxINXX_4 S0 ws (bx_up T0 480 (11) (2))
    exact g.2.2.1
  · show rxmNXX_4 S0 ws (bx_up T0 480 (11) (2)) < rxmNXX_3 S0 ws T0 (r 8) (r 9) (r 10)
    rw [← hr_ 8 (by decide), ← hr_ 9 (by decide), ← hr_ 10 (by decide)]
    exact g.2.2.2
theorem rxcNXX_3_3 {S0 : Nat → Int → Int} {ws : List Int} {S : Nat → Int → Int} {t f g x11 x12 x13 : Int} (hP : rxPNXX S0 ws) (hin : bx_same rxL (bx_mdl rxCNXX.2.2.1) S0 S) (I0 : bx_Inv rxL S) (hinv : rxINXX_3 S0 ws S t f g) (l8 : 1 ≤ t) (u8 : t ≤ 400) (l9 : 0 ≤ f) (u9 : f ≤ 399) (l10 : 0 ≤ g) (u10 : g ≤ 399) (l11 : 123 ≤ x11) (u11 : x11 ≤ 255) (l12 : 0 ≤ x12) (u12 : x12 ≤ 47) (l13 : 0 ≤ x13) (u13 : x13 ≤ 255) (f0 : f < t) (e5 : S 485 f = x11) (e4 : S 485 f = x12) (e2 : (bx_up S 480 11 3) 485 f = x13) : (True) ∧ (True) ∧ rxINXX_4 S0 ws (bx_up (bx_up (bx_up S 480 11 3) 480 12 x13) 480 10 (g + 1)) ∧ rxmNXX_4 S0 ws (bx_up (bx_up (bx_up S 480 11 3) 480 12 x13) 480 10 (g + 1)) < rxmNXX_3 S0 ws S t f g := by
  obtain ⟨⟨k1, k2, k3, k4⟩, h9, h8, h10, hg, h12⟩ := hinv
  have qe5 : (rzCut (S0 485)) (f) = x11 := rzCut_at ((congrFun k1 _).symm.trans e5) (by omega) (by omega)
  have qe4 : (rzCut (S0 485)) (f) = x12 := rzCut_at ((congrFun k1 _).symm.trans e4) (by omega) (by omega)
  have qe2 : (rzCut (S0 485)) (f) = x13 := rzCut_at ((congrFun k1 _).symm.trans (((bx_up_ne (by omega))).symm.trans e2)) (by omega) (by omega)
  have z0 : x11 = x12 := qe5.symm.trans qe4
  have z1 : x11 = x13 := qe5.symm.trans qe2
  refine ⟨trivial, trivial, ⟨(funext fun _ => (bx_up_ne (by omega)).trans ((bx_up_ne (by omega)).trans ((bx_up_ne (by omega))))).trans k1, ((bx_up_ne (by omega)).trans ((bx_up_ne (by omega)).trans ((bx_up_ne (by omega))))).trans k2, by rw [show (bx_up (bx_up (bx_up S 480 11 3) 480 12 x13) 480 10 (g + 1)) 480 9 = S 480 9 from (bx_up_ne (by omega)).trans ((bx_up_ne (by omega)).trans ((bx_up_ne (by omega))))]; exact k3, ((bx_up_ne (by omega)).trans ((bx_up_ne (by omega)).trans ((bx_up_ne (by omega))))).trans k4, rzKa_c (((bx_up_ne (by omega)).trans ((bx_up_ne (by omega)).trans ((bx_up_ne (by omega))))).trans h9) (bx_up_at) ((bx_up_ne (by omega)).trans ((bx_up_ne (by omega)).trans (bx_up_at))) ((bx_up_ne (by omega)).trans (bx_up_at)) ?_⟩, by unfold rxmNXX_3 rxmNXX_4; rw [show (bx_up (bx_up (bx_up S 480 11 3) 480 12 x13) 480 10 (g + 1)) 480 10 = _ from bx_up_at]; omega⟩
  exact Or.inr (Or.inl ⟨rfl, by omega, rzL_f (by omega), rzG_f (by omega), by omega, qe2.symm⟩)
theorem rxgNXX_3_3 {X : (Nat → Int → Int) → Prop} {S0 : Nat → Int → Int} {ws : List Int} (hP : rxPNXX S0 ws) : bx_obC rxL X S0 rxCNXX.2.2.1 (rxINXX S0 ws) (rxmNXX S0 ws) 3 rxzNXX_3 rxoNXX_3_3 := by
  intro S S_p r r_p hinv hX hin hsm_ hseg
  obtain ⟨I0, I1, h0_, hr_, b_, f_, d_⟩ := bx_cl (evs := [(1, (0, 480), (0, 10), .inr (0, (10, 1))), (1, (0, 480), (0, 12), .inr (1, (13, 0))), (0, (0, 485), (9, 0), .inr (0, (13, 0))), (1, (0, 480), (0, 11), .inr (0, (0, 3))), (0, (0, 485), (9, 0), .inr (0, (12, 0))), (0, (0, 485), (9, 0), .inr (0, (11, 0)))]) (fvs := [(0, (9, 0), (8, 0), (0, 0))]) hseg (by decide +kernel) (by decide +kernel)
  have hinv : rxINXX_3 S0 ws S (r 8) (r 9) (r 10) := hinv
  rw [← hr_ 8 (by decide), ← hr_ 9 (by decide), ← hr_ 10 (by decide)] at hinv
  obtain ⟨⟨l8, u8⟩, ⟨l9, u9⟩, ⟨l10, u10⟩, ⟨l11, u11⟩, ⟨l12, u12⟩, ⟨l13, u13⟩, -⟩ := b_
  obtain ⟨f0, -⟩ := f_
  obtain ⟨T0, ⟨T1, ⟨e2, ⟨T3, ⟨e4, ⟨e5, w_⟩⟩, w3⟩⟩, w1⟩, w0⟩ := d_
  subst w0
  subst w1
  subst w3
  subst w_
  have g := rxcNXX_3_3 hP hin I0 hinv l8 u8 l9 u9 l10 u10 l11 u11 l12 u12 l13 u13 f0 e5 e4 e2
  refine ⟨bx_narP_ok (l := []) g.1, bx_nfP_ok h0_ (fvs := []) (by decide +kernel) g.2.1, ?_, ?_⟩
  · show rxINXX_4 S0 ws (bx_up (bx_up (bx_up T3 480 (11) (3)) 480 (12) (r_p 13)) 480 (10) (r_p 10 + 1))
    exact g.2.2.1
  · show rxmNXX_4 S0 ws (bx_up (bx_up (bx_up T3 480 (11) (3)) 480 (12) (r_p 13)) 480 (10) (r_p 10 + 1)) < rxmNXX_3 S0 ws T3 (r 8) (r 9) (r 10)
    rw [← hr_ 8 (by decide), ← hr_ 9 (by decide), ← hr_ 10 (by decide)]
    exact g.2.2.2
theorem rxcNXX_3_4 {S0 : Nat → Int → Int} {ws : List Int} {S : Nat → Int → Int} {t f g x11 x12 x13 : Int} (hP : rxPNXX S0 ws) (hin : bx_same rxL (bx_mdl rxCNXX.2.2.1) S0 S) (I0 : bx_Inv rxL S) (hinv : rxINXX_3 S0 ws S t f g) (l8 : 1 ≤ t) (u8 : t ≤ 400) (l9 : 0 ≤ f) (u9 : f ≤ 399) (l10 : 0 ≤ g) (u10 : g ≤ 399) (l11 : 123 ≤ x11) (u11 : x11 ≤ 255) (l12 : 58 ≤ x12) (u12 : x12 ≤ 255) (l13 : 0 ≤ x13) (u13 : x13 ≤ 255) (f0 : f < t) (e5 : S 485 f = x11) (e4 : S 485 f = x12) (e2 : (bx_up S 480 11 3) 485 f = x13) : (True) ∧ (True) ∧ rxINXX_4 S0 ws (bx_up (bx_up (bx_up S 480 11 3) 480 12 x13) 480 10 (g + 1)) ∧ rxmNXX_4 S0 ws (bx_up (bx_up (bx_up S 480 11 3) 480 12 x13) 480 10 (g + 1)) < rxmNXX_3 S0 ws S t f g := by
  obtain ⟨⟨k1, k2, k3, k4⟩, h9, h8, h10, hg, h12⟩ := hinv
  have qe5 : (rzCut (S0 485)) (f) = x11 := rzCut_at ((congrFun k1 _).symm.trans e5) (by omega) (by omega)
  have qe4 : (rzCut (S0 485)) (f) = x12 := rzCut_at ((congrFun k1 _).symm.trans e4) (by omega) (by omega)
  have qe2 : (rzCut (S0 485)) (f) = x13 := rzCut_at ((congrFun k1 _).symm.trans (((bx_up_ne (by omega))).symm.trans e2)) (by omega) (by omega)
  have z0 : x11 = x12 := qe5.symm.trans qe4
  have z1 : x11 = x13 := qe5.symm.trans qe2
  refine ⟨trivial, trivial, ⟨(funext fun _ => (bx_up_ne (by omega)).trans ((bx_up_ne (by omega)).trans ((bx_up_ne (by omega))))).trans k1, ((bx_up_ne (by omega)).trans ((bx_up_ne (by omega)).trans ((bx_up_ne (by omega))))).trans k2, by rw [show (bx_up (bx_up (bx_up S 480 11 3) 480 12 x13) 480 10 (g + 1)) 480 9 = S 480 9 from (bx_up_ne (by omega)).trans ((bx_up_ne (by omega)).trans ((bx_up_ne (by omega))))]; exact k3, ((bx_up_ne (by omega)).trans ((bx_up_ne (by omega)).trans ((bx_up_ne (by omega))))).trans k4, rzKa_c (((bx_up_ne (by omega)).trans ((bx_up_ne (by omega)).trans ((bx_up_ne (by omega))))).trans h9) (bx_up_at) ((bx_up_ne (by omega)).trans ((bx_up_ne (by omega)).trans (bx_up_at))) ((bx_up_ne (by omega)).trans (bx_up_at)) ?_⟩, by unfold rxmNXX_3 rxmNXX_4; rw [show (bx_up (bx_up (bx_up S 480 11 3) 480 12 x13) 480 10 (g + 1)) 480 10 = _ from bx_up_at]; omega⟩
  exact Or.inr (Or.inl ⟨rfl, by omega, rzL_f (by omega), rzG_f (by omega), by omega, qe2.symm⟩)
theorem rxgNXX_3_4 {X : (Nat → Int → Int) → Prop} {S0 : Nat → Int → Int} {ws : List Int} (hP : rxPNXX S0 ws) : bx_obC rxL X S0 rxCNXX.2.2.1 (rxINXX S0 ws) (rxmNXX S0 ws) 3 rxzNXX_3 rxoNXX_3_4 := by
  intro S S_p r r_p hinv hX hin hsm_ hseg
  obtain ⟨I0, I1, h0_, hr_, b_, f_, d_⟩ := bx_cl (evs := [(1, (0, 480), (0, 10), .inr (0, (10, 1))), (1, (0, 480), (0, 12), .inr (1, (13, 0))), (0, (0, 485), (9, 0), .inr (0, (13, 0))), (1, (0, 480), (0, 11), .inr (0, (0, 3))), (0, (0, 485), (9, 0), .inr (0, (12, 0))), (0, (0, 485), (9, 0), .inr (0, (11, 0)))]) (fvs := [(0, (9, 0), (8, 0), (0, 0))]) hseg (by decide +kernel) (by decide +kernel)
  have hinv : rxINXX_3 S0 ws S (r 8) (r 9) (r 10) := hinv
  rw [← hr_ 8 (by decide), ← hr_ 9 (by decide), ← hr_ 10 (by decide)] at hinv
  obtain ⟨⟨l8, u8⟩, ⟨l9, u9⟩, ⟨l10, u10⟩, ⟨l11, u11⟩, ⟨l12, u12⟩, ⟨l13, u13⟩, -⟩ := b_
  obtain ⟨f0, -⟩ := f_
  obtain ⟨T0, ⟨T1, ⟨e2, ⟨T3, ⟨e4, ⟨e5, w_⟩⟩, w3⟩⟩, w1⟩, w0⟩ := d_
  subst w0
  subst w1
  subst w3
  subst w_
  have g := rxcNXX_3_4 hP hin I0 hinv l8 u8 l9 u9 l10 u10 l11 u11 l12 u12 l13 u13 f0 e5 e4 e2
  refine ⟨bx_narP_ok (l := []) g.1, bx_nfP_ok h0_ (fvs := []) (by decide +kernel) g.2.1, ?_, ?_⟩
  · show rxINXX_4 S0 ws (bx_up (bx_up (bx_up T3 480 (11) (3)) 480 (12) (r_p 13)) 480 (10) (r_p 10 + 1))
    exact g.2.2.1
  · show rxmNXX_4 S0 ws (bx_up (bx_up (bx_up T3 480 (11) (3)) 480 (12) (r_p 13)) 480 (10) (r_p 10 + 1)) < rxmNXX_3 S0 ws T3 (r 8) (r 9) (r 10)
    rw [← hr_ 8 (by decide), ← hr_ 9 (by decide), ← hr_ 10 (by decide)]
    exact g.2.2.2
theorem rxcNXX_3_5 {S0 : Nat → Int → Int} {ws : List Int} {S : Nat → Int → Int} {t f g x11 x12 : Int} (hP : rxPNXX S0 ws) (hin : bx_same rxL (bx_mdl rxCNXX.2.2.1) S0 S) (I0 : bx_Inv rxL S) (hinv : rxINXX_3 S0 ws S t f g) (l8 : 1 ≤ t) (u8 : t ≤ 400) (l9 : 0 ≤ f) (u9 : f ≤ 399) (l10 : 0 ≤ g) (u10 : g ≤ 399) (l11 : 123 ≤ x11) (u11 : x11 ≤ 255) (l12 : 48 ≤ x12) (u12 : x12 ≤ 57) (f0 : f < t) (e2 : S 485 f = x11) (e1 : S 485 f = x12) : (True) ∧ (True) ∧ rxINXX_4 S0 ws (bx_up S 480 11 2) ∧ rxmNXX_4 S0 ws (bx_up S 480 11 2) < rxmNXX_3 S0 ws S t f g := by
  obtain ⟨⟨k1, k2, k3, k4⟩, h9, h8, h10, hg, h12⟩ := hinv
  have qe2 : (rzCut (S0 485)) (f) = x11 := rzCut_at ((congrFun k1 _).symm.trans e2) (by omega) (by omega)
  have qe1 : (rzCut (S0 485)) (f) = x12 := rzCut_at ((congrFun k1 _).symm.trans e1) (by omega) (by omega)
  have z0 : x11 = x12 := qe2.symm.trans qe1
  refine ⟨trivial, trivial, ⟨(funext fun _ => (bx_up_ne (by omega))).trans k1, ((bx_up_ne (by omega))).trans k2, by rw [show (bx_up S 480 11 2) 480 9 = S 480 9 from (bx_up_ne (by omega))]; exact k3, ((bx_up_ne (by omega))).trans k4, rzKa_c (((bx_up_ne (by omega))).trans h9) (((bx_up_ne (by omega))).trans (h10.trans hg)) (bx_up_at) (((bx_up_ne (by omega))).trans h12) ?_⟩, by unfold rxmNXX_3 rxmNXX_4; rw [show (bx_up S 480 11 2) 480 10 = _ from (bx_up_ne (by omega))]; omega⟩
  exact Or.inr (Or.inr (Or.inr (rzK2_0 (by omega) (rzL_f (by omega)) (rzG_t (by omega) (by omega)))))
theorem rxgNXX_3_5 {X : (Nat → Int → Int) → Prop} {S0 : Nat → Int → Int} {ws : List Int} (hP : rxPNXX S0 ws) : bx_obC rxL X S0 rxCNXX.2.2.1 (rxINXX S0 ws) (rxmNXX S0 ws) 3 rxzNXX_3 rxoNXX_3_5 := by
  intro S S_p r r_p hinv hX hin hsm_ hseg
  obtain ⟨I0, I1, h0_, hr_, b_, f_, d_⟩ := bx_cl (evs := [(1, (0, 480), (0, 11), .inr (0, (0, 2))), (0, (0, 485), (9, 0), .inr (0, (12, 0))), (0, (0, 485), (9, 0), .inr (0, (11, 0)))]) (fvs := [(0, (9, 0), (8, 0), (0, 0))]) hseg (by decide +kernel) (by decide +kernel)
  have hinv : rxINXX_3 S0 ws S (r 8) (r 9) (r 10) := hinv
  rw [← hr_ 8 (by decide), ← hr_ 9 (by decide), ← hr_ 10 (by decide)] at hinv
  obtain ⟨⟨l8, u8⟩, ⟨l9, u9⟩, ⟨l10, u10⟩, ⟨l11, u11⟩, ⟨l12, u12⟩, -⟩ := b_
  obtain ⟨f0, -⟩ := f_
  obtain ⟨T0, ⟨e1, ⟨e2, w_⟩⟩, w0⟩ := d_
  subst w0
  subst w_
  have g := rxcNXX_3_5 hP hin I0 hinv l8 u8 l9 u9 l10 u10 l11 u11 l12 u12 f0 e2 e1
  refine ⟨bx_narP_ok (l := []) g.1, bx_nfP_ok h0_ (fvs := []) (by decide +kernel) g.2.1, ?_, ?_⟩
  · show rxINXX_4 S0 ws (bx_up T0 480 (11) (2))
    exact g.2.2.1
  · show rxmNXX_4 S0 ws (bx_up T0 480 (11) (2)) < rxmNXX_3 S0 ws T0 (r 8) (r 9) (r 10)
    rw [← hr_ 8 (by decide), ← hr_ 9 (by decide), ← hr_ 10 (by decide)]
    exact g.2.2.2
theorem rxcNXX_3_6 {S0 : Nat → Int → Int} {ws : List Int} {S : Nat → Int → Int} {t f g x11 : Int} (hP : rxPNXX S0 ws) (hin : bx_same rxL (bx_mdl rxCNXX.2.2.1) S0 S) (I0 : bx_Inv rxL S) (hinv : rxINXX_3 S0 ws S t f g) (l8 : 1 ≤ t) (u8 : t ≤ 400) (l9 : 0 ≤ f) (u9 : f ≤ 399) (l10 : 0 ≤ g) (u10 : g ≤ 399) (l11 : 97 ≤ x11) (u11 : x11 ≤ 122) (f0 : f < t) (e1 : S 485 f = x11) : (True) ∧ (True) ∧ rxINXX_4 S0 ws (bx_up S 480 11 1) ∧ rxmNXX_4 S0 ws (bx_up S 480 11 1) < rxmNXX_3 S0 ws S t f g := by
  obtain ⟨⟨k1, k2, k3, k4⟩, h9, h8, h10, hg, h12⟩ := hinv
  have qe1 : (rzCut (S0 485)) (f) = x11 := rzCut_at ((congrFun k1 _).symm.trans e1) (by omega) (by omega)
  refine ⟨trivial, trivial, ⟨(funext fun _ => (bx_up_ne (by omega))).trans k1, ((bx_up_ne (by omega))).trans k2, by rw [show (bx_up S 480 11 1) 480 9 = S 480 9 from (bx_up_ne (by omega))]; exact k3, ((bx_up_ne (by omega))).trans k4, rzKa_c (((bx_up_ne (by omega))).trans h9) (((bx_up_ne (by omega))).trans (h10.trans hg)) (bx_up_at) (((bx_up_ne (by omega))).trans h12) ?_⟩, by unfold rxmNXX_3 rxmNXX_4; rw [show (bx_up S 480 11 1) 480 10 = _ from (bx_up_ne (by omega))]; omega⟩
  exact Or.inr (Or.inr (Or.inl (rzK1_0 (by omega) (rzL_t (by omega) (by omega)))))
theorem rxgNXX_3_6 {X : (Nat → Int → Int) → Prop} {S0 : Nat → Int → Int} {ws : List Int} (hP : rxPNXX S0 ws) : bx_obC rxL X S0 rxCNXX.2.2.1 (rxINXX S0 ws) (rxmNXX S0 ws) 3 rxzNXX_3 rxoNXX_3_6 := by
  intro S S_p r r_p hinv hX hin hsm_ hseg
  obtain ⟨I0, I1, h0_, hr_, b_, f_, d_⟩ := bx_cl (evs := [(1, (0, 480), (0, 11), .inr (0, (0, 1))), (0, (0, 485), (9, 0), .inr (0, (11, 0)))]) (fvs := [(0, (9, 0), (8, 0), (0, 0))]) hseg (by decide +kernel) (by decide +kernel)
  have hinv : rxINXX_3 S0 ws S (r 8) (r 9) (r 10) := hinv
  rw [← hr_ 8 (by decide), ← hr_ 9 (by decide), ← hr_ 10 (by decide)] at hinv
  obtain ⟨⟨l8, u8⟩, ⟨l9, u9⟩, ⟨l10, u10⟩, ⟨l11, u11⟩, -⟩ := b_
  obtain ⟨f0, -⟩ := f_
  obtain ⟨T0, ⟨e1, w_⟩, w0⟩ := d_
  subst w0
  subst w_
  have g := rxcNXX_3_6 hP hin I0 hinv l8 u8 l9 u9 l10 u10 l11 u11 f0 e1
  refine ⟨bx_narP_ok (l := []) g.1, bx_nfP_ok h0_ (fvs := []) (by decide +kernel) g.2.1, ?_, ?_⟩
  · show rxINXX_4 S0 ws (bx_up T0 480 (11) (1))
    exact g.2.2.1
  · show rxmNXX_4 S0 ws (bx_up T0 480 (11) (1)) < rxmNXX_3 S0 ws T0 (r 8) (r 9) (r 10)
    rw [← hr_ 8 (by decide), ← hr_ 9 (by decide), ← hr_ 10 (by decide)]
    exact g.2.2.2
theorem rxcNXX_4_0 {S0 : Nat → Int → Int} {ws : List Int} {S : Nat → Int → Int} {x8 x9 x10 x11 : Int} (hP : rxPNXX S0 ws) (hin : bx_same rxL (bx_mdl rxCNXX.2.2.1) S0 S) (I0 : bx_Inv rxL S) (hinv : rxINXX_4 S0 ws S) (l8 : 1 ≤ x8) (u8 : x8 ≤ 1) (l9 : 0 ≤ x9) (u9 : x9 ≤ 399) (l10 : 1 ≤ x10) (u10 : x10 ≤ 400) (l11 : 0 ≤ x11) (u11 : x11 ≤ 96) (f0 : x9 < x10) (e3 : S 480 11 = x8) (e2 : S 480 10 = x9) (e1 : S 480 8 = x10) (e0 : S 485 x9 = x11) : (True) ∧ (True) ∧ rxINXX_9 S0 ws S ∧ rxmNXX_9 S0 ws S < rxmNXX_4 S0 ws S := by
  obtain ⟨k1, k2, k3, k4, hk⟩ := hinv
  have b8 : 0 ≤ S 480 8 ∧ S 480 8 ≤ 400 := I0 480 8 (by decide) (by decide)
  have b9 : 0 ≤ S 480 9 ∧ S 480 9 ≤ 400 := I0 480 9 (by decide) (by decide)
  have qe0 : (rzCut (S0 485)) (x9) = x11 := rzCut_at ((congrFun k1 _).symm.trans e0) (by omega) (by omega)
  have hk : rzK1 (rzCut (S0 485)) (S0 480 8) (S 480 9) (S 480 10) (S 480 11) (S 480 12) := by
    rcases hk with h | h | h | h
    · exfalso
      have := h.1
      omega
    · exfalso
      have := h.1
      omega
    · exact h
    · exfalso
      have := h.1
      omega
  refine ⟨trivial, trivial, ⟨k1, k2, k3, k4, Or.inr (Or.inr (Or.inl (rzK1_e hk fun g => ?_)))⟩, by unfold rxmNXX_4 rxmNXX_9; omega⟩
  rw [e2] at g
  have g2 := rzL_b g.2
  omega
theorem rxgNXX_4_0 {X : (Nat → Int → Int) → Prop} {S0 : Nat → Int → Int} {ws : List Int} (hP : rxPNXX S0 ws) : bx_obC rxL X S0 rxCNXX.2.2.1 (rxINXX S0 ws) (rxmNXX S0 ws) 4 rxzNXX_4 rxoNXX_4_0 := by
  intro S S_p r r_p hinv hX hin hsm_ hseg
  obtain ⟨I0, I1, h0_, hr_, b_, f_, d_⟩ := bx_cl (evs := [(0, (0, 485), (9, 0), .inr (0, (11, 0))), (0, (0, 480), (0, 8), .inr (0, (10, 0))), (0, (0, 480), (0, 10), .inr (0, (9, 0))), (0, (0, 480), (0, 11), .inr (0, (8, 0)))]) (fvs := [(0, (9, 0), (10, 0), (0, 0))]) hseg (by decide +kernel) (by decide +kernel)
  have hinv : rxINXX_4 S0 ws S := hinv
  obtain ⟨⟨l8, u8⟩, ⟨l9, u9⟩, ⟨l10, u10⟩, ⟨l11, u11⟩, -⟩ := b_
  obtain ⟨f0, -⟩ := f_
  obtain ⟨e0, ⟨e1, ⟨e2, ⟨e3, w_⟩⟩⟩⟩ := d_
  subst w_
  have g := rxcNXX_4_0 hP hin I0 hinv l8 u8 l9 u9 l10 u10 l11 u11 f0 e3 e2 e1 e0
  refine ⟨bx_narP_ok (l := []) g.1, bx_nfP_ok h0_ (fvs := []) (by decide +kernel) g.2.1, ?_, ?_⟩
  · show rxINXX_9 S0 ws S_p
    exact g.2.2.1
  · show rxmNXX_9 S0 ws S_p < rxmNXX_4 S0 ws S_p
    exact g.2.2.2
theorem rxcNXX_4_1 {S0 : Nat → Int → Int} {ws : List Int} {S : Nat → Int → Int} {x8 x9 x10 x11 : Int} (hP : rxPNXX S0 ws) (hin : bx_same rxL (bx_mdl rxCNXX.2.2.1) S0 S) (I0 : bx_Inv rxL S) (hinv : rxINXX_4 S0 ws S) (l8 : 1 ≤ x8) (u8 : x8 ≤ 1) (l9 : 0 ≤ x9) (u9 : x9 ≤ 399) (l10 : 1 ≤ x10) (u10 : x10 ≤ 400) (l11 : 123 ≤ x11) (u11 : x11 ≤ 255) (f0 : x9 < x10) (e3 : S 480 11 = x8) (e2 : S 480 10 = x9) (e1 : S 480 8 = x10) (e0 : S 485 x9 = x11) : (True) ∧ (True) ∧ rxINXX_9 S0 ws S ∧ rxmNXX_9 S0 ws S < rxmNXX_4 S0 ws S := by
  obtain ⟨k1, k2, k3, k4, hk⟩ := hinv
  have b8 : 0 ≤ S 480 8 ∧ S 480 8 ≤ 400 := I0 480 8 (by decide) (by decide)
  have b9 : 0 ≤ S 480 9 ∧ S 480 9 ≤ 400 := I0 480 9 (by decide) (by decide)
  have qe0 : (rzCut (S0 485)) (x9) = x11 := rzCut_at ((congrFun k1 _).symm.trans e0) (by omega) (by omega)
  have hk : rzK1 (rzCut (S0 485)) (S0 480 8) (S 480 9) (S 480 10) (S 480 11) (S 480 12) := by
    rcases hk with h | h | h | h
    · exfalso
      have := h.1
      omega
    · exfalso
      have := h.1
      omega
    · exact h
    · exfalso
      have := h.1
      omega
  refine ⟨trivial, trivial, ⟨k1, k2, k3, k4, Or.inr (Or.inr (Or.inl (rzK1_e hk fun g => ?_)))⟩, by unfold rxmNXX_4 rxmNXX_9; omega⟩
  rw [e2] at g
  have g2 := rzL_b g.2
  omega
theorem rxgNXX_4_1 {X : (Nat → Int → Int) → Prop} {S0 : Nat → Int → Int} {ws : List Int} (hP : rxPNXX S0 ws) : bx_obC rxL X S0 rxCNXX.2.2.1 (rxINXX S0 ws) (rxmNXX S0 ws) 4 rxzNXX_4 rxoNXX_4_1 := by
  intro S S_p r r_p hinv hX hin hsm_ hseg
  obtain ⟨I0, I1, h0_, hr_, b_, f_, d_⟩ := bx_cl (evs := [(0, (0, 485), (9, 0), .inr (0, (11, 0))), (0, (0, 480), (0, 8), .inr (0, (10, 0))), (0, (0, 480), (0, 10), .inr (0, (9, 0))), (0, (0, 480), (0, 11), .inr (0, (8, 0)))]) (fvs := [(0, (9, 0), (10, 0), (0, 0))]) hseg (by decide +kernel) (by decide +kernel)
  have hinv : rxINXX_4 S0 ws S := hinv
  obtain ⟨⟨l8, u8⟩, ⟨l9, u9⟩, ⟨l10, u10⟩, ⟨l11, u11⟩, -⟩ := b_
  obtain ⟨f0, -⟩ := f_
  obtain ⟨e0, ⟨e1, ⟨e2, ⟨e3, w_⟩⟩⟩⟩ := d_
  subst w_
  have g := rxcNXX_4_1 hP hin I0 hinv l8 u8 l9 u9 l10 u10 l11 u11 f0 e3 e2 e1 e0
  refine ⟨bx_narP_ok (l := []) g.1, bx_nfP_ok h0_ (fvs := []) (by decide +kernel) g.2.1, ?_, ?_⟩
  · show rxINXX_9 S0 ws S_p
    exact g.2.2.1
  · show rxmNXX_9 S0 ws S_p < rxmNXX_4 S0 ws S_p
    exact g.2.2.2
theorem rxcNXX_4_2 {S0 : Nat → Int → Int} {ws : List Int} {S : Nat → Int → Int} {x8 x9 x10 x11 x12 x13 x14 : Int} (hP : rxPNXX S0 ws) (hin : bx_same rxL (bx_mdl rxCNXX.2.2.1) S0 S) (I0 : bx_Inv rxL S) (hinv : rxINXX_4 S0 ws S) (l8 : 1 ≤ x8) (u8 : x8 ≤ 1) (l9 : 0 ≤ x9) (u9 : x9 ≤ 399) (l10 : 1 ≤ x10) (u10 : x10 ≤ 400) (l11 : 97 ≤ x11) (u11 : x11 ≤ 122) (l12 : 0 ≤ x12) (u12 : x12 ≤ 400) (l13 : (-400) ≤ x13) (u13 : x13 ≤ 9) (l14 : (-9223372036854775808) ≤ x14) (u14 : x14 ≤ 9223372036854775807) (f0 : x9 = x13 + x12) (f1 : x9 < x10) (e5 : S 480 11 = x8) (e4 : S 480 10 = x9) (e3 : S 480 8 = x10) (e2 : S 485 x9 = x11) (e1 : S 480 9 = x12) (e0 : S 480 12 = x14) : ((0 ≤ x14 ∧ x14 ≤ 35184372088832) ∧ True) ∧ (True) ∧ rxINXX_5 S0 ws S x14 x9 ∧ rxmNXX_5 S0 ws S x14 x9 < rxmNXX_4 S0 ws S := by
  obtain ⟨k1, k2, k3, k4, hk⟩ := hinv
  have b8 : 0 ≤ S 480 8 ∧ S 480 8 ≤ 400 := I0 480 8 (by decide) (by decide)
  have b9 : 0 ≤ S 480 9 ∧ S 480 9 ≤ 400 := I0 480 9 (by decide) (by decide)
  have qe2 : (rzCut (S0 485)) (x9) = x11 := rzCut_at ((congrFun k1 _).symm.trans e2) (by omega) (by omega)
  have hk : rzK1 (rzCut (S0 485)) (S0 480 8) (S 480 9) (S 480 10) (S 480 11) (S 480 12) := by
    rcases hk with h | h | h | h
    · exfalso
      have := h.1
      omega
    · exfalso
      have := h.1
      omega
    · exact h
    · exfalso
      have := h.1
      omega
  have hr := rzK1_r hk (by omega)
  rw [e0] at hk hr
  exact ⟨⟨⟨by omega, by omega⟩, trivial⟩, trivial, ⟨k1, k2, k3, k4, hk, e4, by omega, rzL_t (by omega) (by omega), by omega⟩, by unfold rxmNXX_4 rxmNXX_5; omega⟩
theorem rxgNXX_4_2 {X : (Nat → Int → Int) → Prop} {S0 : Nat → Int → Int} {ws : List Int} (hP : rxPNXX S0 ws) : bx_obC rxL X S0 rxCNXX.2.2.1 (rxINXX S0 ws) (rxmNXX S0 ws) 4 rxzNXX_4 rxoNXX_4_2 := by
  intro S S_p r r_p hinv hX hin hsm_ hseg
  obtain ⟨I0, I1, h0_, hr_, b_, f_, d_⟩ := bx_cl (evs := [(0, (0, 480), (0, 12), .inr (1, (14, 0))), (0, (0, 480), (0, 9), .inr (0, (12, 0))), (0, (0, 485), (9, 0), .inr (0, (11, 0))), (0, (0, 480), (0, 8), .inr (0, (10, 0))), (0, (0, 480), (0, 10), .inr (0, (9, 0))), (0, (0, 480), (0, 11), .inr (0, (8, 0)))]) (fvs := [(5, (9, 0), (13, 0), (12, 0)), (0, (9, 0), (10, 0), (0, 0))]) hseg (by decide +kernel) (by decide +kernel)
  have hinv : rxINXX_4 S0 ws S := hinv
  obtain ⟨⟨l8, u8⟩, ⟨l9, u9⟩, ⟨l10, u10⟩, ⟨l11, u11⟩, ⟨l12, u12⟩, ⟨l13, u13⟩, ⟨l14, u14⟩, -⟩ := b_
  obtain ⟨f0, f1, -⟩ := f_
  obtain ⟨e0, ⟨e1, ⟨e2, ⟨e3, ⟨e4, ⟨e5, w_⟩⟩⟩⟩⟩⟩ := d_
  subst w_
  have g := rxcNXX_4_2 hP hin I0 hinv l8 u8 l9 u9 l10 u10 l11 u11 l12 u12 l13 u13 l14 u14 f0 f1 e5 e4 e3 e2 e1 e0
  refine ⟨bx_narP_ok (l := [(14, 0, 35184372088832)]) g.1, bx_nfP_ok h0_ (fvs := []) (by decide +kernel) g.2.1, ?_, ?_⟩
  · show rxINXX_5 S0 ws S_p (bx_val [(0, 0), (0, 0), (0, 0), (0, 0), (0, 0), (0, 0), (0, 0), (0, 0), (14, 0), (9, 0)] r_p 8) (bx_val [(0, 0), (0, 0), (0, 0), (0, 0), (0, 0), (0, 0), (0, 0), (0, 0), (14, 0), (9, 0)] r_p 9)
    rw [bx_val_x (n := 8) (e := (14, 0)) h0_ rfl, bx_val_x (n := 9) (e := (9, 0)) h0_ rfl]
    exact g.2.2.1
  · show rxmNXX_5 S0 ws S_p (bx_val [(0, 0), (0, 0), (0, 0), (0, 0), (0, 0), (0, 0), (0, 0), (0, 0), (14, 0), (9, 0)] r_p 8) (bx_val [(0, 0), (0, 0), (0, 0), (0, 0), (0, 0), (0, 0), (0, 0), (0, 0), (14, 0), (9, 0)] r_p 9) < rxmNXX_4 S0 ws S_p
    rw [bx_val_x (n := 8) (e := (14, 0)) h0_ rfl, bx_val_x (n := 9) (e := (9, 0)) h0_ rfl]
    exact g.2.2.2
theorem rxcNXX_4_3 {S0 : Nat → Int → Int} {ws : List Int} {S : Nat → Int → Int} {x8 x9 x10 x11 x12 x13 : Int} (hP : rxPNXX S0 ws) (hin : bx_same rxL (bx_mdl rxCNXX.2.2.1) S0 S) (I0 : bx_Inv rxL S) (hinv : rxINXX_4 S0 ws S) (l8 : 1 ≤ x8) (u8 : x8 ≤ 1) (l9 : 0 ≤ x9) (u9 : x9 ≤ 399) (l10 : 1 ≤ x10) (u10 : x10 ≤ 400) (l11 : 97 ≤ x11) (u11 : x11 ≤ 122) (l12 : 0 ≤ x12) (u12 : x12 ≤ 400) (l13 : 10 ≤ x13) (u13 : x13 ≤ 399) (f0 : x9 = x13 + x12) (f1 : x9 < x10) (e6 : S 480 11 = x8) (e5 : S 480 10 = x9) (e4 : S 480 8 = x10) (e3 : S 485 x9 = x11) (e2 : S 480 9 = x12) : (True) ∧ (True) ∧ rxINXX_4 S0 ws (bx_up (bx_up S 480 12 ((-1))) 480 10 (x9 + 1)) ∧ rxmNXX_4 S0 ws (bx_up (bx_up S 480 12 ((-1))) 480 10 (x9 + 1)) < rxmNXX_4 S0 ws S := by
  obtain ⟨k1, k2, k3, k4, hk⟩ := hinv
  have b8 : 0 ≤ S 480 8 ∧ S 480 8 ≤ 400 := I0 480 8 (by decide) (by decide)
  have b9 : 0 ≤ S 480 9 ∧ S 480 9 ≤ 400 := I0 480 9 (by decide) (by decide)
  have qe3 : (rzCut (S0 485)) (x9) = x11 := rzCut_at ((congrFun k1 _).symm.trans e3) (by omega) (by omega)
  have hk : rzK1 (rzCut (S0 485)) (S0 480 8) (S 480 9) (S 480 10) (S 480 11) (S 480 12) := by
    rcases hk with h | h | h | h
    · exfalso
      have := h.1
      omega
    · exfalso
      have := h.1
      omega
    · exact h
    · exfalso
      have := h.1
      omega
  rw [e5] at hk
  have hs := rzK1_m hk (by omega) (rzL_t (by omega) (by omega)) (by omega)
  exact ⟨trivial, trivial, ⟨(funext fun _ => (bx_up_ne (by omega)).trans ((bx_up_ne (by omega)))).trans k1, ((bx_up_ne (by omega)).trans ((bx_up_ne (by omega)))).trans k2, by rw [show (bx_up (bx_up S 480 12 (-1)) 480 10 (x9 + 1)) 480 9 = S 480 9 from (bx_up_ne (by omega)).trans ((bx_up_ne (by omega)))]; exact k3, ((bx_up_ne (by omega)).trans ((bx_up_ne (by omega)))).trans k4, rzKa_c ((bx_up_ne (by omega)).trans ((bx_up_ne (by omega)))) (bx_up_at) ((bx_up_ne (by omega)).trans ((bx_up_ne (by omega)))) ((bx_up_ne (by omega)).trans (bx_up_at)) (Or.inr (Or.inr (Or.inl hs)))⟩, by unfold rxmNXX_4; rw [show (bx_up (bx_up S 480 12 (-1)) 480 10 (x9 + 1)) 480 10 = _ from bx_up_at]; omega⟩
theorem rxgNXX_4_3 {X : (Nat → Int → Int) → Prop} {S0 : Nat → Int → Int} {ws : List Int} (hP : rxPNXX S0 ws) : bx_obC rxL X S0 rxCNXX.2.2.1 (rxINXX S0 ws) (rxmNXX S0 ws) 4 rxzNXX_4 rxoNXX_4_3 := by
  intro S S_p r r_p hinv hX hin hsm_ hseg
  obtain ⟨I0, I1, h0_, hr_, b_, f_, d_⟩ := bx_cl (evs := [(1, (0, 480), (0, 10), .inr (0, (9, 1))), (1, (0, 480), (0, 12), .inr (1, (0, (-1)))), (0, (0, 480), (0, 9), .inr (0, (12, 0))), (0, (0, 485), (9, 0), .inr (0, (11, 0))), (0, (0, 480), (0, 8), .inr (0, (10, 0))), (0, (0, 480), (0, 10), .inr (0, (9, 0))), (0, (0, 480), (0, 11), .inr (0, (8, 0)))]) (fvs := [(5, (9, 0), (13, 0), (12, 0)), (0, (9, 0), (10, 0), (0, 0))]) hseg (by decide +kernel) (by decide +kernel)
  have hinv : rxINXX_4 S0 ws S := hinv
  obtain ⟨⟨l8, u8⟩, ⟨l9, u9⟩, ⟨l10, u10⟩, ⟨l11, u11⟩, ⟨l12, u12⟩, ⟨l13, u13⟩, -⟩ := b_
  obtain ⟨f0, f1, -⟩ := f_
  obtain ⟨T0, ⟨T1, ⟨e2, ⟨e3, ⟨e4, ⟨e5, ⟨e6, w_⟩⟩⟩⟩⟩, w1⟩, w0⟩ := d_
  subst w0
  subst w1
  subst w_
  have g := rxcNXX_4_3 hP hin I0 hinv l8 u8 l9 u9 l10 u10 l11 u11 l12 u12 l13 u13 f0 f1 e6 e5 e4 e3 e2
  refine ⟨bx_narP_ok (l := []) g.1, bx_nfP_ok h0_ (fvs := []) (by decide +kernel) g.2.1, ?_, ?_⟩
  · show rxINXX_4 S0 ws (bx_up (bx_up T1 480 (12) ((-1))) 480 (10) (r_p 9 + 1))
    exact g.2.2.1
  · show rxmNXX_4 S0 ws (bx_up (bx_up T1 480 (12) ((-1))) 480 (10) (r_p 9 + 1)) < rxmNXX_4 S0 ws T1
    exact g.2.2.2
theorem rxcNXX_4_4 {S0 : Nat → Int → Int} {ws : List Int} {S : Nat → Int → Int} {x8 x9 x10 : Int} (hP : rxPNXX S0 ws) (hin : bx_same rxL (bx_mdl rxCNXX.2.2.1) S0 S) (I0 : bx_Inv rxL S) (hinv : rxINXX_4 S0 ws S) (l8 : 1 ≤ x8) (u8 : x8 ≤ 1) (l9 : 0 ≤ x9) (u9 : x9 ≤ 400) (l10 : 0 ≤ x10) (u10 : x10 ≤ 400) (f0 : x10 ≤ x9) (e2 : S 480 11 = x8) (e1 : S 480 10 = x9) (e0 : S 480 8 = x10) : (True) ∧ (True) ∧ rxINXX_9 S0 ws S ∧ rxmNXX_9 S0 ws S < rxmNXX_4 S0 ws S := by
  obtain ⟨k1, k2, k3, k4, hk⟩ := hinv
  have b8 : 0 ≤ S 480 8 ∧ S 480 8 ≤ 400 := I0 480 8 (by decide) (by decide)
  have b9 : 0 ≤ S 480 9 ∧ S 480 9 ≤ 400 := I0 480 9 (by decide) (by decide)
  have hk : rzK1 (rzCut (S0 485)) (S0 480 8) (S 480 9) (S 480 10) (S 480 11) (S 480 12) := by
    rcases hk with h | h | h | h
    · exfalso
      have := h.1
      omega
    · exfalso
      have := h.1
      omega
    · exact h
    · exfalso
      have := h.1
      omega
  refine ⟨trivial, trivial, ⟨k1, k2, k3, k4, Or.inr (Or.inr (Or.inl (rzK1_e hk fun g => ?_)))⟩, by unfold rxmNXX_4 rxmNXX_9; omega⟩
  have := g.1
  omega
theorem rxgNXX_4_4 {X : (Nat → Int → Int) → Prop} {S0 : Nat → Int → Int} {ws : List Int} (hP : rxPNXX S0 ws) : bx_obC rxL X S0 rxCNXX.2.2.1 (rxINXX S0 ws) (rxmNXX S0 ws) 4 rxzNXX_4 rxoNXX_4_4 := by
  intro S S_p r r_p hinv hX hin hsm_ hseg
  obtain ⟨I0, I1, h0_, hr_, b_, f_, d_⟩ := bx_cl (evs := [(0, (0, 480), (0, 8), .inr (0, (10, 0))), (0, (0, 480), (0, 10), .inr (0, (9, 0))), (0, (0, 480), (0, 11), .inr (0, (8, 0)))]) (fvs := [(1, (10, 0), (9, 0), (0, 0))]) hseg (by decide +kernel) (by decide +kernel)
  have hinv : rxINXX_4 S0 ws S := hinv
  obtain ⟨⟨l8, u8⟩, ⟨l9, u9⟩, ⟨l10, u10⟩, -⟩ := b_
  obtain ⟨f0, -⟩ := f_
  obtain ⟨e0, ⟨e1, ⟨e2, w_⟩⟩⟩ := d_
  subst w_
  have g := rxcNXX_4_4 hP hin I0 hinv l8 u8 l9 u9 l10 u10 f0 e2 e1 e0
  refine ⟨bx_narP_ok (l := []) g.1, bx_nfP_ok h0_ (fvs := []) (by decide +kernel) g.2.1, ?_, ?_⟩
  · show rxINXX_9 S0 ws S_p
    exact g.2.2.1
  · show rxmNXX_9 S0 ws S_p < rxmNXX_4 S0 ws S_p
    exact g.2.2.2
theorem rxcNXX_4_5 {S0 : Nat → Int → Int} {ws : List Int} {S : Nat → Int → Int} {x8 : Int} (hP : rxPNXX S0 ws) (hin : bx_same rxL (bx_mdl rxCNXX.2.2.1) S0 S) (I0 : bx_Inv rxL S) (hinv : rxINXX_4 S0 ws S) (l8 : 0 ≤ x8) (u8 : x8 ≤ 3) (f0 : x8 ≠ 1) (e0 : S 480 11 = x8) : (True) ∧ (True) ∧ rxINXX_9 S0 ws S ∧ rxmNXX_9 S0 ws S < rxmNXX_4 S0 ws S := by
  obtain ⟨k1, k2, k3, k4, hk⟩ := hinv
  have b8 : 0 ≤ S 480 8 ∧ S 480 8 ≤ 400 := I0 480 8 (by decide) (by decide)
  have b9 : 0 ≤ S 480 9 ∧ S 480 9 ≤ 400 := I0 480 9 (by decide) (by decide)
  refine ⟨trivial, trivial, ⟨k1, k2, k3, k4, ?_⟩, by unfold rxmNXX_4 rxmNXX_9; omega⟩
  rcases hk with h | h | h | h
  · exact Or.inl h
  · exact Or.inr (Or.inl h)
  · exfalso
    have := h.1
    omega
  · exact Or.inr (Or.inr (Or.inr h))
theorem rxgNXX_4_5 {X : (Nat → Int → Int) → Prop} {S0 : Nat → Int → Int} {ws : List Int} (hP : rxPNXX S0 ws) : bx_obC rxL X S0 rxCNXX.2.2.1 (rxINXX S0 ws) (rxmNXX S0 ws) 4 rxzNXX_4 rxoNXX_4_5 := by
  intro S S_p r r_p hinv hX hin hsm_ hseg
  obtain ⟨I0, I1, h0_, hr_, b_, f_, d_⟩ := bx_cl (evs := [(0, (0, 480), (0, 11), .inr (0, (8, 0)))]) (fvs := [(3, (8, 0), (0, 1), (0, 0))]) hseg (by decide +kernel) (by decide +kernel)
  have hinv : rxINXX_4 S0 ws S := hinv
  obtain ⟨⟨l8, u8⟩, -⟩ := b_
  obtain ⟨f0, -⟩ := f_
  obtain ⟨e0, w_⟩ := d_
  subst w_
  have g := rxcNXX_4_5 hP hin I0 hinv l8 u8 f0 e0
  refine ⟨bx_narP_ok (l := []) g.1, bx_nfP_ok h0_ (fvs := []) (by decide +kernel) g.2.1, ?_, ?_⟩
  · show rxINXX_9 S0 ws S_p
    exact g.2.2.1
  · show rxmNXX_9 S0 ws S_p < rxmNXX_4 S0 ws S_p
    exact g.2.2.2
theorem rxcNXX_6_0 {S0 : Nat → Int → Int} {ws : List Int} {S : Nat → Int → Int} {w t y x11 : Int} (hP : rxPNXX S0 ws) (hin : bx_same rxL (bx_mdl rxCNXX.2.2.1) S0 S) (I0 : bx_Inv rxL S) (hinv : rxINXX_6 S0 ws S w t y) (l8 : 0 ≤ w) (u8 : w ≤ 35184372088832) (l9 : 0 ≤ t) (u9 : t ≤ 399) (l10 : 0 ≤ y) (u10 : y ≤ 1125899906842624) (l11 : 0 ≤ x11) (u11 : x11 ≤ 255) (e0 : S 485 t = x11) : (True) ∧ (True) ∧ rxINXX_7 S0 ws S y x11 t ∧ rxmNXX_7 S0 ws S y x11 t < rxmNXX_6 S0 ws S w t y := by
  obtain ⟨⟨k1, k2, k3, k4, hk, ht, h1, h2, h3⟩, hy⟩ := hinv
  have qe0 : (rzCut (S0 485)) (t) = x11 := rzCut_at ((congrFun k1 _).symm.trans e0) (by omega) (by omega)
  exact ⟨trivial, trivial, ⟨w, ⟨k1, k2, k3, k4, hk, ht, h1, h2, h3⟩, hy, qe0.symm⟩, by unfold rxmNXX_6 rxmNXX_7; omega⟩
theorem rxgNXX_6_0 {X : (Nat → Int → Int) → Prop} {S0 : Nat → Int → Int} {ws : List Int} (hP : rxPNXX S0 ws) : bx_obC rxL X S0 rxCNXX.2.2.1 (rxINXX S0 ws) (rxmNXX S0 ws) 6 rxzNXX_6 rxoNXX_6_0 := by
  intro S S_p r r_p hinv hX hin hsm_ hseg
  obtain ⟨I0, I1, h0_, hr_, b_, f_, d_⟩ := bx_cl (evs := [(0, (0, 485), (9, 0), .inr (0, (11, 0)))]) (fvs := []) hseg (by decide +kernel) (by decide +kernel)
  have hinv : rxINXX_6 S0 ws S (r 8) (r 9) (r 10) := hinv
  rw [← hr_ 8 (by decide), ← hr_ 9 (by decide), ← hr_ 10 (by decide)] at hinv
  obtain ⟨⟨l8, u8⟩, ⟨l9, u9⟩, ⟨l10, u10⟩, ⟨l11, u11⟩, -⟩ := b_
  obtain ⟨e0, w_⟩ := d_
  subst w_
  have g := rxcNXX_6_0 hP hin I0 hinv l8 u8 l9 u9 l10 u10 l11 u11 e0
  refine ⟨bx_narP_ok (l := []) g.1, bx_nfP_ok h0_ (fvs := []) (by decide +kernel) g.2.1, ?_, ?_⟩
  · show rxINXX_7 S0 ws S_p (bx_val [(0, 0), (0, 0), (0, 0), (0, 0), (0, 0), (0, 0), (0, 0), (0, 0), (10, 0), (11, 0), (9, 0)] r_p 8) (bx_val [(0, 0), (0, 0), (0, 0), (0, 0), (0, 0), (0, 0), (0, 0), (0, 0), (10, 0), (11, 0), (9, 0)] r_p 9) (bx_val [(0, 0), (0, 0), (0, 0), (0, 0), (0, 0), (0, 0), (0, 0), (0, 0), (10, 0), (11, 0), (9, 0)] r_p 10)
    rw [bx_val_x (n := 8) (e := (10, 0)) h0_ rfl, bx_val_x (n := 9) (e := (11, 0)) h0_ rfl, bx_val_x (n := 10) (e := (9, 0)) h0_ rfl]
    exact g.2.2.1
  · show rxmNXX_7 S0 ws S_p (bx_val [(0, 0), (0, 0), (0, 0), (0, 0), (0, 0), (0, 0), (0, 0), (0, 0), (10, 0), (11, 0), (9, 0)] r_p 8) (bx_val [(0, 0), (0, 0), (0, 0), (0, 0), (0, 0), (0, 0), (0, 0), (0, 0), (10, 0), (11, 0), (9, 0)] r_p 9) (bx_val [(0, 0), (0, 0), (0, 0), (0, 0), (0, 0), (0, 0), (0, 0), (0, 0), (10, 0), (11, 0), (9, 0)] r_p 10) < rxmNXX_6 S0 ws S_p (r 8) (r 9) (r 10)
    rw [bx_val_x (n := 8) (e := (10, 0)) h0_ rfl, bx_val_x (n := 9) (e := (11, 0)) h0_ rfl, bx_val_x (n := 10) (e := (9, 0)) h0_ rfl, ← hr_ 8 (by decide), ← hr_ 9 (by decide), ← hr_ 10 (by decide)]
    exact g.2.2.2
theorem rxcNXX_8_0 {S0 : Nat → Int → Int} {ws : List Int} {S : Nat → Int → Int} {y c t z : Int} (hP : rxPNXX S0 ws) (hin : bx_same rxL (bx_mdl rxCNXX.2.2.1) S0 S) (I0 : bx_Inv rxL S) (hinv : rxINXX_8 S0 ws S y c t z) (l8 : 0 ≤ y) (u8 : y ≤ 1125899906842624) (l9 : 0 ≤ c) (u9 : c ≤ 255) (l10 : 0 ≤ t) (u10 : t ≤ 399) (l11 : 0 ≤ z) (u11 : z ≤ 2251799813685248) : (True) ∧ (True) ∧ rxINXX_4 S0 ws (bx_up (bx_up S 480 12 (z + (-96))) 480 10 (t + 1)) ∧ rxmNXX_4 S0 ws (bx_up (bx_up S 480 12 (z + (-96))) 480 10 (t + 1)) < rxmNXX_8 S0 ws S y c t z := by
  obtain ⟨w, ⟨k1, k2, k3, k4, hk, ht, h1, h2, h3⟩, hz⟩ := hinv
  rw [ht] at hk
  have hs := rzK1_s hk h1 h2 h3
  exact ⟨trivial, trivial, ⟨(funext fun _ => (bx_up_ne (by omega)).trans ((bx_up_ne (by omega)))).trans k1, ((bx_up_ne (by omega)).trans ((bx_up_ne (by omega)))).trans k2, by rw [show (bx_up (bx_up S 480 12 (z + (-96))) 480 10 (t + 1)) 480 9 = S 480 9 from (bx_up_ne (by omega)).trans ((bx_up_ne (by omega)))]; exact k3, ((bx_up_ne (by omega)).trans ((bx_up_ne (by omega)))).trans k4, rzKa_c ((bx_up_ne (by omega)).trans ((bx_up_ne (by omega)))) (bx_up_at) ((bx_up_ne (by omega)).trans ((bx_up_ne (by omega)))) (((bx_up_ne (by omega)).trans (bx_up_at)).trans (by omega)) (Or.inr (Or.inr (Or.inl hs)))⟩, by unfold rxmNXX_8 rxmNXX_4; rw [show (bx_up (bx_up S 480 12 (z + (-96))) 480 10 (t + 1)) 480 10 = _ from bx_up_at]; omega⟩
theorem rxgNXX_8_0 {X : (Nat → Int → Int) → Prop} {S0 : Nat → Int → Int} {ws : List Int} (hP : rxPNXX S0 ws) : bx_obC rxL X S0 rxCNXX.2.2.1 (rxINXX S0 ws) (rxmNXX S0 ws) 8 rxzNXX_8 rxoNXX_8_0 := by
  intro S S_p r r_p hinv hX hin hsm_ hseg
  obtain ⟨I0, I1, h0_, hr_, b_, f_, d_⟩ := bx_cl (evs := [(1, (0, 480), (0, 10), .inr (0, (10, 1))), (1, (0, 480), (0, 12), .inr (1, (11, (-96))))]) (fvs := []) hseg (by decide +kernel) (by decide +kernel)
  have hinv : rxINXX_8 S0 ws S (r 8) (r 9) (r 10) (r 11) := hinv
  rw [← hr_ 8 (by decide), ← hr_ 9 (by decide), ← hr_ 10 (by decide), ← hr_ 11 (by decide)] at hinv
  obtain ⟨⟨l8, u8⟩, ⟨l9, u9⟩, ⟨l10, u10⟩, ⟨l11, u11⟩, -⟩ := b_
  obtain ⟨T0, ⟨T1, w_, w1⟩, w0⟩ := d_
  subst w0
  subst w1
  subst w_
  have g := rxcNXX_8_0 hP hin I0 hinv l8 u8 l9 u9 l10 u10 l11 u11
  refine ⟨bx_narP_ok (l := []) g.1, bx_nfP_ok h0_ (fvs := []) (by decide +kernel) g.2.1, ?_, ?_⟩
  · show rxINXX_4 S0 ws (bx_up (bx_up T1 480 (12) (r_p 11 + (-96))) 480 (10) (r_p 10 + 1))
    exact g.2.2.1
  · show rxmNXX_4 S0 ws (bx_up (bx_up T1 480 (12) (r_p 11 + (-96))) 480 (10) (r_p 10 + 1)) < rxmNXX_8 S0 ws T1 (r 8) (r 9) (r 10) (r 11)
    rw [← hr_ 8 (by decide), ← hr_ 9 (by decide), ← hr_ 10 (by decide), ← hr_ 11 (by decide)]
    exact g.2.2.2
theorem rxcNXX_9_0 {S0 : Nat → Int → Int} {ws : List Int} {S : Nat → Int → Int} {x8 x9 x10 x11 x12 : Int} (hP : rxPNXX S0 ws) (hin : bx_same rxL (bx_mdl rxCNXX.2.2.1) S0 S) (I0 : bx_Inv rxL S) (hinv : rxINXX_9 S0 ws S) (l8 : 2 ≤ x8) (u8 : x8 ≤ 2) (l9 : 0 ≤ x9) (u9 : x9 ≤ 399) (l10 : 1 ≤ x10) (u10 : x10 ≤ 400) (l11 : 48 ≤ x11) (u11 : x11 ≤ 57) (l12 : 1000001 ≤ x12) (u12 : x12 ≤ 9223372036854775807) (f0 : x9 < x10) (e6 : S 480 11 = x8) (e5 : S 480 10 = x9) (e4 : S 480 8 = x10) (e3 : S 485 x9 = x11) (e2 : S 480 12 = x12) : (True) ∧ (True) ∧ rxINXX_9 S0 ws (bx_up (bx_up S 480 12 x12) 480 10 (x9 + 1)) ∧ rxmNXX_9 S0 ws (bx_up (bx_up S 480 12 x12) 480 10 (x9 + 1)) < rxmNXX_9 S0 ws S := by
  obtain ⟨k1, k2, k3, k4, hk⟩ := hinv
  have b8 : 0 ≤ S 480 8 ∧ S 480 8 ≤ 400 := I0 480 8 (by decide) (by decide)
  have b9 : 0 ≤ S 480 9 ∧ S 480 9 ≤ 400 := I0 480 9 (by decide) (by decide)
  have qe3 : (rzCut (S0 485)) (x9) = x11 := rzCut_at ((congrFun k1 _).symm.trans e3) (by omega) (by omega)
  have hk : rzK2 (rzCut (S0 485)) (S0 480 8) (S 480 9) (S 480 10) (S 480 11) (S 480 12) := by
    rcases hk with h | h | h | h
    · exfalso
      have := h.1
      omega
    · exfalso
      have := h.1
      omega
    · exfalso
      have := h.1
      omega
    · exact h
  have hr := rzK2_r hk
  rw [e2] at hk hr
  rw [e5] at hk
  have hs := rzK2_m hk (by omega) (rzG_t (by omega) (by omega)) (by omega)
  exact ⟨trivial, trivial, ⟨(funext fun _ => (bx_up_ne (by omega)).trans ((bx_up_ne (by omega)))).trans k1, ((bx_up_ne (by omega)).trans ((bx_up_ne (by omega)))).trans k2, by rw [show (bx_up (bx_up S 480 12 x12) 480 10 (x9 + 1)) 480 9 = S 480 9 from (bx_up_ne (by omega)).trans ((bx_up_ne (by omega)))]; exact k3, ((bx_up_ne (by omega)).trans ((bx_up_ne (by omega)))).trans k4, rzKb_c ((bx_up_ne (by omega)).trans ((bx_up_ne (by omega)))) (bx_up_at) ((bx_up_ne (by omega)).trans ((bx_up_ne (by omega)))) ((bx_up_ne (by omega)).trans (bx_up_at)) (Or.inr (Or.inr (Or.inr hs)))⟩, by unfold rxmNXX_9; rw [show (bx_up (bx_up S 480 12 x12) 480 10 (x9 + 1)) 480 10 = _ from bx_up_at]; omega⟩
theorem rxgNXX_9_0 {X : (Nat → Int → Int) → Prop} {S0 : Nat → Int → Int} {ws : List Int} (hP : rxPNXX S0 ws) : bx_obC rxL X S0 rxCNXX.2.2.1 (rxINXX S0 ws) (rxmNXX S0 ws) 9 rxzNXX_9 rxoNXX_9_0 := by
  intro S S_p r r_p hinv hX hin hsm_ hseg
  obtain ⟨I0, I1, h0_, hr_, b_, f_, d_⟩ := bx_cl (evs := [(1, (0, 480), (0, 10), .inr (0, (9, 1))), (1, (0, 480), (0, 12), .inr (1, (12, 0))), (0, (0, 480), (0, 12), .inr (1, (12, 0))), (0, (0, 485), (9, 0), .inr (0, (11, 0))), (0, (0, 480), (0, 8), .inr (0, (10, 0))), (0, (0, 480), (0, 10), .inr (0, (9, 0))), (0, (0, 480), (0, 11), .inr (0, (8, 0)))]) (fvs := [(0, (9, 0), (10, 0), (0, 0))]) hseg (by decide +kernel) (by decide +kernel)
  have hinv : rxINXX_9 S0 ws S := hinv
  obtain ⟨⟨l8, u8⟩, ⟨l9, u9⟩, ⟨l10, u10⟩, ⟨l11, u11⟩, ⟨l12, u12⟩, -⟩ := b_
  obtain ⟨f0, -⟩ := f_
  obtain ⟨T0, ⟨T1, ⟨e2, ⟨e3, ⟨e4, ⟨e5, ⟨e6, w_⟩⟩⟩⟩⟩, w1⟩, w0⟩ := d_
  subst w0
  subst w1
  subst w_
  have g := rxcNXX_9_0 hP hin I0 hinv l8 u8 l9 u9 l10 u10 l11 u11 l12 u12 f0 e6 e5 e4 e3 e2
  refine ⟨bx_narP_ok (l := []) g.1, bx_nfP_ok h0_ (fvs := []) (by decide +kernel) g.2.1, ?_, ?_⟩
  · show rxINXX_9 S0 ws (bx_up (bx_up T1 480 (12) (r_p 12)) 480 (10) (r_p 9 + 1))
    exact g.2.2.1
  · show rxmNXX_9 S0 ws (bx_up (bx_up T1 480 (12) (r_p 12)) 480 (10) (r_p 9 + 1)) < rxmNXX_9 S0 ws T1
    exact g.2.2.2
theorem rxcNXX_9_1 {S0 : Nat → Int → Int} {ws : List Int} {S : Nat → Int → Int} {x8 x9 x10 x11 x12 : Int} (hP : rxPNXX S0 ws) (hin : bx_same rxL (bx_mdl rxCNXX.2.2.1) S0 S) (I0 : bx_Inv rxL S) (hinv : rxINXX_9 S0 ws S) (l8 : 2 ≤ x8) (u8 : x8 ≤ 2) (l9 : 0 ≤ x9) (u9 : x9 ≤ 399) (l10 : 1 ≤ x10) (u10 : x10 ≤ 400) (l11 : 48 ≤ x11) (u11 : x11 ≤ 57) (l12 : (-9223372036854775808) ≤ x12) (u12 : x12 ≤ 1000000) (f0 : x9 < x10) (e4 : S 480 11 = x8) (e3 : S 480 10 = x9) (e2 : S 480 8 = x10) (e1 : S 485 x9 = x11) (e0 : S 480 12 = x12) : ((0 ≤ x12 ∧ x12 ≤ 1000000) ∧ True) ∧ (True) ∧ rxINXX_10 S0 ws S x12 x9 ∧ rxmNXX_10 S0 ws S x12 x9 < rxmNXX_9 S0 ws S := by
  obtain ⟨k1, k2, k3, k4, hk⟩ := hinv
  have b8 : 0 ≤ S 480 8 ∧ S 480 8 ≤ 400 := I0 480 8 (by decide) (by decide)
  have b9 : 0 ≤ S 480 9 ∧ S 480 9 ≤ 400 := I0 480 9 (by decide) (by decide)
  have qe1 : (rzCut (S0 485)) (x9) = x11 := rzCut_at ((congrFun k1 _).symm.trans e1) (by omega) (by omega)
  have hk : rzK2 (rzCut (S0 485)) (S0 480 8) (S 480 9) (S 480 10) (S 480 11) (S 480 12) := by
    rcases hk with h | h | h | h
    · exfalso
      have := h.1
      omega
    · exfalso
      have := h.1
      omega
    · exfalso
      have := h.1
      omega
    · exact h
  have hr := rzK2_r hk
  rw [e0] at hk hr
  exact ⟨⟨⟨by omega, by omega⟩, trivial⟩, trivial, ⟨k1, k2, k3, k4, hk, e3, by omega, rzG_t (by omega) (by omega)⟩, by unfold rxmNXX_9 rxmNXX_10; omega⟩
theorem rxgNXX_9_1 {X : (Nat → Int → Int) → Prop} {S0 : Nat → Int → Int} {ws : List Int} (hP : rxPNXX S0 ws) : bx_obC rxL X S0 rxCNXX.2.2.1 (rxINXX S0 ws) (rxmNXX S0 ws) 9 rxzNXX_9 rxoNXX_9_1 := by
  intro S S_p r r_p hinv hX hin hsm_ hseg
  obtain ⟨I0, I1, h0_, hr_, b_, f_, d_⟩ := bx_cl (evs := [(0, (0, 480), (0, 12), .inr (1, (12, 0))), (0, (0, 485), (9, 0), .inr (0, (11, 0))), (0, (0, 480), (0, 8), .inr (0, (10, 0))), (0, (0, 480), (0, 10), .inr (0, (9, 0))), (0, (0, 480), (0, 11), .inr (0, (8, 0)))]) (fvs := [(0, (9, 0), (10, 0), (0, 0))]) hseg (by decide +kernel) (by decide +kernel)
  have hinv : rxINXX_9 S0 ws S := hinv
  obtain ⟨⟨l8, u8⟩, ⟨l9, u9⟩, ⟨l10, u10⟩, ⟨l11, u11⟩, ⟨l12, u12⟩, -⟩ := b_
  obtain ⟨f0, -⟩ := f_
  obtain ⟨e0, ⟨e1, ⟨e2, ⟨e3, ⟨e4, w_⟩⟩⟩⟩⟩ := d_
  subst w_
  have g := rxcNXX_9_1 hP hin I0 hinv l8 u8 l9 u9 l10 u10 l11 u11 l12 u12 f0 e4 e3 e2 e1 e0
  refine ⟨bx_narP_ok (l := [(12, 0, 1000000)]) g.1, bx_nfP_ok h0_ (fvs := []) (by decide +kernel) g.2.1, ?_, ?_⟩
  · show rxINXX_10 S0 ws S_p (bx_val [(0, 0), (0, 0), (0, 0), (0, 0), (0, 0), (0, 0), (0, 0), (0, 0), (12, 0), (9, 0)] r_p 8) (bx_val [(0, 0), (0, 0), (0, 0), (0, 0), (0, 0), (0, 0), (0, 0), (0, 0), (12, 0), (9, 0)] r_p 9)
    rw [bx_val_x (n := 8) (e := (12, 0)) h0_ rfl, bx_val_x (n := 9) (e := (9, 0)) h0_ rfl]
    exact g.2.2.1
  · show rxmNXX_10 S0 ws S_p (bx_val [(0, 0), (0, 0), (0, 0), (0, 0), (0, 0), (0, 0), (0, 0), (0, 0), (12, 0), (9, 0)] r_p 8) (bx_val [(0, 0), (0, 0), (0, 0), (0, 0), (0, 0), (0, 0), (0, 0), (0, 0), (12, 0), (9, 0)] r_p 9) < rxmNXX_9 S0 ws S_p
    rw [bx_val_x (n := 8) (e := (12, 0)) h0_ rfl, bx_val_x (n := 9) (e := (9, 0)) h0_ rfl]
    exact g.2.2.2
theorem rxdNXX_9_0 {S0 : Nat → Int → Int} {ws : List Int} {S : Nat → Int → Int} {x8 x9 x10 x11 : Int} (hP : rxPNXX S0 ws) (hin : bx_same rxL (bx_mdl rxCNXX.2.2.1) S0 S) (hin2 : bx_same rxL (bx_mdl rxCNXX.2.2.1) S S) (I0 : bx_Inv rxL S) (I1 : bx_Inv rxL S) (hinv : rxINXX_9 S0 ws S) (l8 : 2 ≤ x8) (u8 : x8 ≤ 2) (l9 : 0 ≤ x9) (u9 : x9 ≤ 399) (l10 : 1 ≤ x10) (u10 : x10 ≤ 400) (l11 : 0 ≤ x11) (u11 : x11 ≤ 47) (f0 : x9 < x10) (e3 : S 480 11 = x8) (e2 : S 480 10 = x9) (e1 : S 480 8 = x10) (e0 : S 485 x9 = x11) : (True) ∧ rxPSNXX S0 ws S none := by
  obtain ⟨k1, k2, k3, k4, hk⟩ := hinv
  have b8 : 0 ≤ S 480 8 ∧ S 480 8 ≤ 400 := I0 480 8 (by decide) (by decide)
  have b9 : 0 ≤ S 480 9 ∧ S 480 9 ≤ 400 := I0 480 9 (by decide) (by decide)
  have qe0 : (rzCut (S0 485)) (x9) = x11 := rzCut_at ((congrFun k1 _).symm.trans e0) (by omega) (by omega)
  have hp : S0 480 10 ≤ S0 480 8 := hP
  have bF := (rzF_b (T := (rzCut (S0 485))) (n := (S0 480 8)) (k := S0 480 10)).2 hp
  have hD : rzDq S := rzDq_of k1 k2 b9.1 (by omega) b8.2 hk fun ga g => by
    rw [e2] at g
    have g2 := rzG_b g.2
    omega
  exact ⟨trivial, rfl, ⟨rfl, rzDq_tk hD, k3⟩, hD, k4⟩
theorem rxfNXX_9_0 {X : (Nat → Int → Int) → Prop} {S0 : Nat → Int → Int} {ws : List Int} (hP : rxPNXX S0 ws) : bx_obE rxL X S0 rxCNXX.2.2.1 (rxINXX S0 ws) (rxPSNXX S0 ws) 9 rxzNXX_9 rxeNXX_9_0 := by
  intro S S_p r r_p hinv hX hin hsm_ hseg
  obtain ⟨I0, I1, h0_, hr_, b_, f_, d_⟩ := bx_cl (evs := [(0, (0, 485), (9, 0), .inr (0, (11, 0))), (0, (0, 480), (0, 8), .inr (0, (10, 0))), (0, (0, 480), (0, 10), .inr (0, (9, 0))), (0, (0, 480), (0, 11), .inr (0, (8, 0)))]) (fvs := [(0, (9, 0), (10, 0), (0, 0))]) hseg (by decide +kernel) (by decide +kernel)
  have hinv : rxINXX_9 S0 ws S := hinv
  obtain ⟨⟨l8, u8⟩, ⟨l9, u9⟩, ⟨l10, u10⟩, ⟨l11, u11⟩, -⟩ := b_
  obtain ⟨f0, -⟩ := f_
  obtain ⟨e0, ⟨e1, ⟨e2, ⟨e3, w_⟩⟩⟩⟩ := d_
  subst w_
  have g := rxdNXX_9_0 hP hin hsm_ I0 I1 hinv l8 u8 l9 u9 l10 u10 l11 u11 f0 e3 e2 e1 e0
  refine ⟨bx_narP_ok (l := []) g.1, ?_⟩
  exact g.2
theorem rxdNXX_9_1 {S0 : Nat → Int → Int} {ws : List Int} {S : Nat → Int → Int} {x8 x9 x10 x11 : Int} (hP : rxPNXX S0 ws) (hin : bx_same rxL (bx_mdl rxCNXX.2.2.1) S0 S) (hin2 : bx_same rxL (bx_mdl rxCNXX.2.2.1) S S) (I0 : bx_Inv rxL S) (I1 : bx_Inv rxL S) (hinv : rxINXX_9 S0 ws S) (l8 : 2 ≤ x8) (u8 : x8 ≤ 2) (l9 : 0 ≤ x9) (u9 : x9 ≤ 399) (l10 : 1 ≤ x10) (u10 : x10 ≤ 400) (l11 : 58 ≤ x11) (u11 : x11 ≤ 255) (f0 : x9 < x10) (e3 : S 480 11 = x8) (e2 : S 480 10 = x9) (e1 : S 480 8 = x10) (e0 : S 485 x9 = x11) : (True) ∧ rxPSNXX S0 ws S none := by
  obtain ⟨k1, k2, k3, k4, hk⟩ := hinv
  have b8 : 0 ≤ S 480 8 ∧ S 480 8 ≤ 400 := I0 480 8 (by decide) (by decide)
  have b9 : 0 ≤ S 480 9 ∧ S 480 9 ≤ 400 := I0 480 9 (by decide) (by decide)
  have qe0 : (rzCut (S0 485)) (x9) = x11 := rzCut_at ((congrFun k1 _).symm.trans e0) (by omega) (by omega)
  have hp : S0 480 10 ≤ S0 480 8 := hP
  have bF := (rzF_b (T := (rzCut (S0 485))) (n := (S0 480 8)) (k := S0 480 10)).2 hp
  have hD : rzDq S := rzDq_of k1 k2 b9.1 (by omega) b8.2 hk fun ga g => by
    rw [e2] at g
    have g2 := rzG_b g.2
    omega
  exact ⟨trivial, rfl, ⟨rfl, rzDq_tk hD, k3⟩, hD, k4⟩
theorem rxfNXX_9_1 {X : (Nat → Int → Int) → Prop} {S0 : Nat → Int → Int} {ws : List Int} (hP : rxPNXX S0 ws) : bx_obE rxL X S0 rxCNXX.2.2.1 (rxINXX S0 ws) (rxPSNXX S0 ws) 9 rxzNXX_9 rxeNXX_9_1 := by
  intro S S_p r r_p hinv hX hin hsm_ hseg
  obtain ⟨I0, I1, h0_, hr_, b_, f_, d_⟩ := bx_cl (evs := [(0, (0, 485), (9, 0), .inr (0, (11, 0))), (0, (0, 480), (0, 8), .inr (0, (10, 0))), (0, (0, 480), (0, 10), .inr (0, (9, 0))), (0, (0, 480), (0, 11), .inr (0, (8, 0)))]) (fvs := [(0, (9, 0), (10, 0), (0, 0))]) hseg (by decide +kernel) (by decide +kernel)
  have hinv : rxINXX_9 S0 ws S := hinv
  obtain ⟨⟨l8, u8⟩, ⟨l9, u9⟩, ⟨l10, u10⟩, ⟨l11, u11⟩, -⟩ := b_
  obtain ⟨f0, -⟩ := f_
  obtain ⟨e0, ⟨e1, ⟨e2, ⟨e3, w_⟩⟩⟩⟩ := d_
  subst w_
  have g := rxdNXX_9_1 hP hin hsm_ I0 I1 hinv l8 u8 l9 u9 l10 u10 l11 u11 f0 e3 e2 e1 e0
  refine ⟨bx_narP_ok (l := []) g.1, ?_⟩
  exact g.2
theorem rxdNXX_9_2 {S0 : Nat → Int → Int} {ws : List Int} {S : Nat → Int → Int} {x8 x9 x10 : Int} (hP : rxPNXX S0 ws) (hin : bx_same rxL (bx_mdl rxCNXX.2.2.1) S0 S) (hin2 : bx_same rxL (bx_mdl rxCNXX.2.2.1) S S) (I0 : bx_Inv rxL S) (I1 : bx_Inv rxL S) (hinv : rxINXX_9 S0 ws S) (l8 : 2 ≤ x8) (u8 : x8 ≤ 2) (l9 : 0 ≤ x9) (u9 : x9 ≤ 400) (l10 : 0 ≤ x10) (u10 : x10 ≤ 400) (f0 : x10 ≤ x9) (e2 : S 480 11 = x8) (e1 : S 480 10 = x9) (e0 : S 480 8 = x10) : (True) ∧ rxPSNXX S0 ws S none := by
  obtain ⟨k1, k2, k3, k4, hk⟩ := hinv
  have b8 : 0 ≤ S 480 8 ∧ S 480 8 ≤ 400 := I0 480 8 (by decide) (by decide)
  have b9 : 0 ≤ S 480 9 ∧ S 480 9 ≤ 400 := I0 480 9 (by decide) (by decide)
  have hp : S0 480 10 ≤ S0 480 8 := hP
  have bF := (rzF_b (T := (rzCut (S0 485))) (n := (S0 480 8)) (k := S0 480 10)).2 hp
  have hD : rzDq S := rzDq_of k1 k2 b9.1 (by omega) b8.2 hk fun ga g => by
    have := g.1
    omega
  exact ⟨trivial, rfl, ⟨rfl, rzDq_tk hD, k3⟩, hD, k4⟩
theorem rxfNXX_9_2 {X : (Nat → Int → Int) → Prop} {S0 : Nat → Int → Int} {ws : List Int} (hP : rxPNXX S0 ws) : bx_obE rxL X S0 rxCNXX.2.2.1 (rxINXX S0 ws) (rxPSNXX S0 ws) 9 rxzNXX_9 rxeNXX_9_2 := by
  intro S S_p r r_p hinv hX hin hsm_ hseg
  obtain ⟨I0, I1, h0_, hr_, b_, f_, d_⟩ := bx_cl (evs := [(0, (0, 480), (0, 8), .inr (0, (10, 0))), (0, (0, 480), (0, 10), .inr (0, (9, 0))), (0, (0, 480), (0, 11), .inr (0, (8, 0)))]) (fvs := [(1, (10, 0), (9, 0), (0, 0))]) hseg (by decide +kernel) (by decide +kernel)
  have hinv : rxINXX_9 S0 ws S := hinv
  obtain ⟨⟨l8, u8⟩, ⟨l9, u9⟩, ⟨l10, u10⟩, -⟩ := b_
  obtain ⟨f0, -⟩ := f_
  obtain ⟨e0, ⟨e1, ⟨e2, w_⟩⟩⟩ := d_
  subst w_
  have g := rxdNXX_9_2 hP hin hsm_ I0 I1 hinv l8 u8 l9 u9 l10 u10 f0 e2 e1 e0
  refine ⟨bx_narP_ok (l := []) g.1, ?_⟩
  exact g.2
theorem rxdNXX_9_3 {S0 : Nat → Int → Int} {ws : List Int} {S : Nat → Int → Int} {x8 : Int} (hP : rxPNXX S0 ws) (hin : bx_same rxL (bx_mdl rxCNXX.2.2.1) S0 S) (hin2 : bx_same rxL (bx_mdl rxCNXX.2.2.1) S S) (I0 : bx_Inv rxL S) (I1 : bx_Inv rxL S) (hinv : rxINXX_9 S0 ws S) (l8 : 0 ≤ x8) (u8 : x8 ≤ 3) (f0 : x8 ≠ 2) (e0 : S 480 11 = x8) : (True) ∧ rxPSNXX S0 ws S none := by
  obtain ⟨k1, k2, k3, k4, hk⟩ := hinv
  have b8 : 0 ≤ S 480 8 ∧ S 480 8 ≤ 400 := I0 480 8 (by decide) (by decide)
  have b9 : 0 ≤ S 480 9 ∧ S 480 9 ≤ 400 := I0 480 9 (by decide) (by decide)
  have hp : S0 480 10 ≤ S0 480 8 := hP
  have bF := (rzF_b (T := (rzCut (S0 485))) (n := (S0 480 8)) (k := S0 480 10)).2 hp
  have hD : rzDq S := rzDq_of k1 k2 b9.1 (by omega) b8.2 hk fun ga g => by
    omega
  exact ⟨trivial, rfl, ⟨rfl, rzDq_tk hD, k3⟩, hD, k4⟩
theorem rxfNXX_9_3 {X : (Nat → Int → Int) → Prop} {S0 : Nat → Int → Int} {ws : List Int} (hP : rxPNXX S0 ws) : bx_obE rxL X S0 rxCNXX.2.2.1 (rxINXX S0 ws) (rxPSNXX S0 ws) 9 rxzNXX_9 rxeNXX_9_3 := by
  intro S S_p r r_p hinv hX hin hsm_ hseg
  obtain ⟨I0, I1, h0_, hr_, b_, f_, d_⟩ := bx_cl (evs := [(0, (0, 480), (0, 11), .inr (0, (8, 0)))]) (fvs := [(3, (8, 0), (0, 2), (0, 0))]) hseg (by decide +kernel) (by decide +kernel)
  have hinv : rxINXX_9 S0 ws S := hinv
  obtain ⟨⟨l8, u8⟩, -⟩ := b_
  obtain ⟨f0, -⟩ := f_
  obtain ⟨e0, w_⟩ := d_
  subst w_
  have g := rxdNXX_9_3 hP hin hsm_ I0 I1 hinv l8 u8 f0 e0
  refine ⟨bx_narP_ok (l := []) g.1, ?_⟩
  exact g.2
theorem rxcNXX_11_0 {S0 : Nat → Int → Int} {ws : List Int} {S : Nat → Int → Int} {w t y x11 : Int} (hP : rxPNXX S0 ws) (hin : bx_same rxL (bx_mdl rxCNXX.2.2.1) S0 S) (I0 : bx_Inv rxL S) (hinv : rxINXX_11 S0 ws S w t y) (l8 : 0 ≤ w) (u8 : w ≤ 1000000) (l9 : 0 ≤ t) (u9 : t ≤ 399) (l10 : 0 ≤ y) (u10 : y ≤ 10000000) (l11 : 0 ≤ x11) (u11 : x11 ≤ 255) (e0 : S 485 t = x11) : (True) ∧ (True) ∧ rxINXX_12 S0 ws S y x11 t ∧ rxmNXX_12 S0 ws S y x11 t < rxmNXX_11 S0 ws S w t y := by
  obtain ⟨⟨k1, k2, k3, k4, hk, ht, h1, h2⟩, hy, hw⟩ := hinv
  have qe0 : (rzCut (S0 485)) (t) = x11 := rzCut_at ((congrFun k1 _).symm.trans e0) (by omega) (by omega)
  exact ⟨trivial, trivial, ⟨w, ⟨k1, k2, k3, k4, hk, ht, h1, h2⟩, hy, hw, qe0.symm⟩, by unfold rxmNXX_11 rxmNXX_12; omega⟩
theorem rxgNXX_11_0 {X : (Nat → Int → Int) → Prop} {S0 : Nat → Int → Int} {ws : List Int} (hP : rxPNXX S0 ws) : bx_obC rxL X S0 rxCNXX.2.2.1 (rxINXX S0 ws) (rxmNXX S0 ws) 11 rxzNXX_11 rxoNXX_11_0 := by
  intro S S_p r r_p hinv hX hin hsm_ hseg
  obtain ⟨I0, I1, h0_, hr_, b_, f_, d_⟩ := bx_cl (evs := [(0, (0, 485), (9, 0), .inr (0, (11, 0)))]) (fvs := []) hseg (by decide +kernel) (by decide +kernel)
  have hinv : rxINXX_11 S0 ws S (r 8) (r 9) (r 10) := hinv
  rw [← hr_ 8 (by decide), ← hr_ 9 (by decide), ← hr_ 10 (by decide)] at hinv
  obtain ⟨⟨l8, u8⟩, ⟨l9, u9⟩, ⟨l10, u10⟩, ⟨l11, u11⟩, -⟩ := b_
  obtain ⟨e0, w_⟩ := d_
  subst w_
  have g := rxcNXX_11_0 hP hin I0 hinv l8 u8 l9 u9 l10 u10 l11 u11 e0
  refine ⟨bx_narP_ok (l := []) g.1, bx_nfP_ok h0_ (fvs := []) (by decide +kernel) g.2.1, ?_, ?_⟩
  · show rxINXX_12 S0 ws S_p (bx_val [(0, 0), (0, 0), (0, 0), (0, 0), (0, 0), (0, 0), (0, 0), (0, 0), (10, 0), (11, 0), (9, 0)] r_p 8) (bx_val [(0, 0), (0, 0), (0, 0), (0, 0), (0, 0), (0, 0), (0, 0), (0, 0), (10, 0), (11, 0), (9, 0)] r_p 9) (bx_val [(0, 0), (0, 0), (0, 0), (0, 0), (0, 0), (0, 0), (0, 0), (0, 0), (10, 0), (11, 0), (9, 0)] r_p 10)
    rw [bx_val_x (n := 8) (e := (10, 0)) h0_ rfl, bx_val_x (n := 9) (e := (11, 0)) h0_ rfl, bx_val_x (n := 10) (e := (9, 0)) h0_ rfl]
    exact g.2.2.1
  · show rxmNXX_12 S0 ws S_p (bx_val [(0, 0), (0, 0), (0, 0), (0, 0), (0, 0), (0, 0), (0, 0), (0, 0), (10, 0), (11, 0), (9, 0)] r_p 8) (bx_val [(0, 0), (0, 0), (0, 0), (0, 0), (0, 0), (0, 0), (0, 0), (0, 0), (10, 0), (11, 0), (9, 0)] r_p 9) (bx_val [(0, 0), (0, 0), (0, 0), (0, 0), (0, 0), (0, 0), (0, 0), (0, 0), (10, 0), (11, 0), (9, 0)] r_p 10) < rxmNXX_11 S0 ws S_p (r 8) (r 9) (r 10)
    rw [bx_val_x (n := 8) (e := (10, 0)) h0_ rfl, bx_val_x (n := 9) (e := (11, 0)) h0_ rfl, bx_val_x (n := 10) (e := (9, 0)) h0_ rfl, ← hr_ 8 (by decide), ← hr_ 9 (by decide), ← hr_ 10 (by decide)]
    exact g.2.2.2
theorem rxcNXX_13_0 {S0 : Nat → Int → Int} {ws : List Int} {S : Nat → Int → Int} {y c t z : Int} (hP : rxPNXX S0 ws) (hin : bx_same rxL (bx_mdl rxCNXX.2.2.1) S0 S) (I0 : bx_Inv rxL S) (hinv : rxINXX_13 S0 ws S y c t z) (l8 : 0 ≤ y) (u8 : y ≤ 10000000) (l9 : 0 ≤ c) (u9 : c ≤ 255) (l10 : 0 ≤ t) (u10 : t ≤ 399) (l11 : 0 ≤ z) (u11 : z ≤ 10000255) : (True) ∧ (True) ∧ rxINXX_9 S0 ws (bx_up (bx_up S 480 12 (z + (-48))) 480 10 (t + 1)) ∧ rxmNXX_9 S0 ws (bx_up (bx_up S 480 12 (z + (-48))) 480 10 (t + 1)) < rxmNXX_13 S0 ws S y c t z := by
  obtain ⟨w, ⟨k1, k2, k3, k4, hk, ht, h1, h2⟩, hz, hw⟩ := hinv
  rw [ht] at hk
  have hs := rzK2_s hk h1 h2 hw
  exact ⟨trivial, trivial, ⟨(funext fun _ => (bx_up_ne (by omega)).trans ((bx_up_ne (by omega)))).trans k1, ((bx_up_ne (by omega)).trans ((bx_up_ne (by omega)))).trans k2, by rw [show (bx_up (bx_up S 480 12 (z + (-48))) 480 10 (t + 1)) 480 9 = S 480 9 from (bx_up_ne (by omega)).trans ((bx_up_ne (by omega)))]; exact k3, ((bx_up_ne (by omega)).trans ((bx_up_ne (by omega)))).trans k4, rzKb_c ((bx_up_ne (by omega)).trans ((bx_up_ne (by omega)))) (bx_up_at) ((bx_up_ne (by omega)).trans ((bx_up_ne (by omega)))) (((bx_up_ne (by omega)).trans (bx_up_at)).trans (by omega)) (Or.inr (Or.inr (Or.inr hs)))⟩, by unfold rxmNXX_13 rxmNXX_9; rw [show (bx_up (bx_up S 480 12 (z + (-48))) 480 10 (t + 1)) 480 10 = _ from bx_up_at]; omega⟩
theorem rxgNXX_13_0 {X : (Nat → Int → Int) → Prop} {S0 : Nat → Int → Int} {ws : List Int} (hP : rxPNXX S0 ws) : bx_obC rxL X S0 rxCNXX.2.2.1 (rxINXX S0 ws) (rxmNXX S0 ws) 13 rxzNXX_13 rxoNXX_13_0 := by
  intro S S_p r r_p hinv hX hin hsm_ hseg
  obtain ⟨I0, I1, h0_, hr_, b_, f_, d_⟩ := bx_cl (evs := [(1, (0, 480), (0, 10), .inr (0, (10, 1))), (1, (0, 480), (0, 12), .inr (1, (11, (-48))))]) (fvs := []) hseg (by decide +kernel) (by decide +kernel)
  have hinv : rxINXX_13 S0 ws S (r 8) (r 9) (r 10) (r 11) := hinv
  rw [← hr_ 8 (by decide), ← hr_ 9 (by decide), ← hr_ 10 (by decide), ← hr_ 11 (by decide)] at hinv
  obtain ⟨⟨l8, u8⟩, ⟨l9, u9⟩, ⟨l10, u10⟩, ⟨l11, u11⟩, -⟩ := b_
  obtain ⟨T0, ⟨T1, w_, w1⟩, w0⟩ := d_
  subst w0
  subst w1
  subst w_
  have g := rxcNXX_13_0 hP hin I0 hinv l8 u8 l9 u9 l10 u10 l11 u11
  refine ⟨bx_narP_ok (l := []) g.1, bx_nfP_ok h0_ (fvs := []) (by decide +kernel) g.2.1, ?_, ?_⟩
  · show rxINXX_9 S0 ws (bx_up (bx_up T1 480 (12) (r_p 11 + (-48))) 480 (10) (r_p 10 + 1))
    exact g.2.2.1
  · show rxmNXX_9 S0 ws (bx_up (bx_up T1 480 (12) (r_p 11 + (-48))) 480 (10) (r_p 10 + 1)) < rxmNXX_13 S0 ws T1 (r 8) (r 9) (r 10) (r 11)
    rw [← hr_ 8 (by decide), ← hr_ 9 (by decide), ← hr_ 10 (by decide), ← hr_ 11 (by decide)]
    exact g.2.2.2
theorem rxgCNXX {X : (Nat → Int → Int) → Prop} {S0 : Nat → Int → Int} {ws : List Int} (hP : rxPNXX S0 ws) : bx_allI (fun i q => rxUNXX q = true ∨ bx_allP (fun o => bx_obC rxL X S0 rxCNXX.2.2.1 (rxINXX S0 ws) (rxmNXX S0 ws) i q.1 o) q.2.1) 0 rxYNXX := ⟨Or.inr ⟨rxgNXX_0_0 hP, trivial⟩, Or.inr ⟨rxgNXX_1_0 hP, rxgNXX_1_1 hP, rxgNXX_1_2 hP, trivial⟩, Or.inr ⟨rxgNXX_2_0 hP, rxgNXX_2_1 hP, trivial⟩, Or.inr ⟨rxgNXX_3_0 hP, rxgNXX_3_1 hP, rxgNXX_3_2 hP, rxgNXX_3_3 hP, rxgNXX_3_4 hP, rxgNXX_3_5 hP, rxgNXX_3_6 hP, trivial⟩, Or.inr ⟨rxgNXX_4_0 hP, rxgNXX_4_1 hP, rxgNXX_4_2 hP, rxgNXX_4_3 hP, rxgNXX_4_4 hP, rxgNXX_4_5 hP, trivial⟩, Or.inl rfl, Or.inr ⟨rxgNXX_6_0 hP, trivial⟩, Or.inl rfl, Or.inr ⟨rxgNXX_8_0 hP, trivial⟩, Or.inr ⟨rxgNXX_9_0 hP, rxgNXX_9_1 hP, trivial⟩, Or.inl rfl, Or.inr ⟨rxgNXX_11_0 hP, trivial⟩, Or.inl rfl, Or.inr ⟨rxgNXX_13_0 hP, trivial⟩, trivial⟩
theorem rxgENXX {X : (Nat → Int → Int) → Prop} {S0 : Nat → Int → Int} {ws : List Int} (hP : rxPNXX S0 ws) : bx_allI (fun i q => rxUNXX q = true ∨ bx_allP (fun E => bx_obE rxL X S0 rxCNXX.2.2.1 (rxINXX S0 ws) (rxPSNXX S0 ws) i q.1 E) q.2.2) 0 rxYNXX := ⟨Or.inr trivial, Or.inr trivial, Or.inr trivial, Or.inr trivial, Or.inr trivial, Or.inl rfl, Or.inr trivial, Or.inl rfl, Or.inr trivial, Or.inr ⟨rxfNXX_9_0 hP, rxfNXX_9_1 hP, rxfNXX_9_2 hP, rxfNXX_9_3 hP, trivial⟩, Or.inl rfl, Or.inr trivial, Or.inl rfl, Or.inr trivial, trivial⟩
theorem rxuNXX {PX : State → Prop} {Dg : va_G} {A : Nat → Prop} {ad xa : Nat → Nat} {l : Launch} {X : (Nat → Int → Int) → Prop} (hPX : rx_PXOK rxNW A PX) (hX : ∀ S S1 : Nat → Int → Int, X S → bx_same rxL (bx_mdl rxCNXX.2.2.1) S S1 → X S1) {S0 : Nat → Int → Int} {ws : List Int} (hP : rxPNXX S0 ws) : ∀ (i : Nat) (q : bx_HE), rxYNXX[i]? = some q → rxUNXX q = true → ∀ {p : Program} {e : Env} {R : Room} {s : State} {m : MethodId} {args : Array Value} {below : List Frame} {meth : Method} {c : Code} {Q : State → Prop} {H0 : Heap}, rx_Fr rxG rxNW rxAO PX p s m args meth c rxM264 → (∀ q, H0.size ≤ q → A q) → H0 = s.heap → rxM264.2.2.2.2.2.2.1 ≤ R.cells → rxM264.2.2.2.2.2.2.2 ≤ R.slots → rxCNXX.2.2.2.1 ≤ R.frames → rxCNXX.2.2.2.1 * 40 ≤ R.locals → bx_Step p l e R s m args below meth c Q Dg rxL X vwCl A xa H0 ad rxM264 rxYNXX (rxINXX S0 ws) (rxmNXX S0 ws) S0 rxCNXX.2.2.1 i q := by
  intro i q hq hus p e R s m args below meth c Q H0 hF hA hH0 hmc hms hd hdl
  match i, hq with
  | 0, hq =>
    cases hq
    exact absurd (show false = true from hus) Bool.false_ne_true
  | 1, hq =>
    cases hq
    exact absurd (show false = true from hus) Bool.false_ne_true
  | 2, hq =>
    cases hq
    exact absurd (show false = true from hus) Bool.false_ne_true
  | 3, hq =>
    cases hq
    exact absurd (show false = true from hus) Bool.false_ne_true
  | 4, hq =>
    cases hq
    exact absurd (show false = true from hus) Bool.false_ne_true
  | 5, hq =>
    cases hq
    exact rx_stepBL (i_p := 6) (o := 20) (a := (8, 0)) (b := (0, 32)) (lo := 0) (hi := 1125899906842624) (t := [.inr (3, (0, 480))]) hF (Or.inl ⟨rfl, rfl⟩) (by decide +kernel) rfl rfl rfl rfl (rxsNXX_5 hP)
  | 6, hq =>
    cases hq
    exact absurd (show false = true from hus) Bool.false_ne_true
  | 7, hq =>
    cases hq
    exact rx_stepBA (i_p := 8) (o := 25) (a := (8, 0)) (b := (9, 0)) (lo := 0) (hi := 2251799813685248) (t := [.inr (3, (0, 480))]) hF (⟨rfl, rfl⟩) (by decide +kernel) rfl rfl rfl rfl (rxsNXX_7 hP)
  | 8, hq =>
    cases hq
    exact absurd (show false = true from hus) Bool.false_ne_true
  | 9, hq =>
    cases hq
    exact absurd (show false = true from hus) Bool.false_ne_true
  | 10, hq =>
    cases hq
    exact rx_stepBL (i_p := 11) (o := 20) (a := (8, 0)) (b := (0, 10)) (lo := 0) (hi := 10000000) (t := [.inr (3, (0, 480))]) hF (Or.inl ⟨rfl, rfl⟩) (by decide +kernel) rfl rfl rfl rfl (rxsNXX_10 hP)
  | 11, hq =>
    cases hq
    exact absurd (show false = true from hus) Bool.false_ne_true
  | 12, hq =>
    cases hq
    exact rx_stepBA (i_p := 13) (o := 25) (a := (8, 0)) (b := (9, 0)) (lo := 0) (hi := 10000255) (t := [.inr (3, (0, 480))]) hF (⟨rfl, rfl⟩) (by decide +kernel) rfl rfl rfl rfl (rxsNXX_12 hP)
  | 13, hq =>
    cases hq
    exact absurd (show false = true from hus) Bool.false_ne_true
  | n + 14, hq => cases hq
theorem rxQNXX {PX : State → Prop} {Dg : va_G} {A : Nat → Prop} {ad xa : Nat → Nat} {l : Launch} {X : (Nat → Int → Int) → Prop} (hPX : rx_PXOK rxNW A PX) (hsl : ∀ s : State, PX s → ∀ o idx n : Nat, rxSl o idx = some n → ∃ tx : String, vk_R (rxNm o) idx tx (ad n) s)
    (hX : ∀ S S_p : Nat → Int → Int, X S → bx_same rxL (bx_mdl rxCNXX.2.2.1) S S_p → X S_p)
    (ih : ∀ (j2 : Nat) (ct2 : bx_Ct) (M2 : rx_Mt), ct2 ∈ rxCnE j2 → ct2.2.2.2.1 + 1 ≤ rxCNXX.2.2.2.1 → rxT.2.2.2.2.2 j2 = some M2 → bx_Con rxG rxNW rxAO PX Dg rxL X vwCl A ad l M2 ct2) : bx_ConP rxG rxNW rxAO PX Dg rxL X vwCl A ad l rxM264 rxCNXX rxPNXX rxPSNXX :=
  rxQof (xa := xa) (Cn := rxCnE) (f := 30000) (j := 264) (tab := rxYNXX) (us := rxUNXX) hPX hsl hX ih rfl rxYcNXX rxINXX rxmNXX
    (fun S0 ws r I0 I ht0 ht as he he1 hX0 hI0 hP hs ha => by
      have e := he.symm.trans (show bx_ent0 rxNP rxCNXX.1 bx_I0 [] = some ([(0, 0), (0, 0), (0, 0), (0, 0), (0, 0), (0, 0), (0, 0), (0, 0)], [], [.inr (3, (0, 480))]) from rfl)
      cases e
      subst ha
      have h0 : r 0 = 0 := hs.1
      show rxINXX_0 S0 _ S0
      refine ⟨rfl, ?_⟩
      simp only [List.map_cons, List.map_nil, bx_xv_ok h0]
      rfl)
    (fun S0 ws hP => rxuNXX (xa := xa) hPX hX hP) (fun S0 ws hP => rxgCNXX hP) (fun S0 ws hP => rxgENXX hP)

noncomputable def rzCm (P : Int → Int) (n : Int) : Prop := ∃ k : Int, 0 ≤ k ∧ k < n ∧ 25 ≤ P k ∧ P k ≤ 27 ∧ ∀ j : Int, k < j → j < n → 20 ≤ P j ∧ P j ≤ 24
noncomputable def rzSx (P : Int → Int) (lo n s : Int) : Prop := (s = 0 → ∀ j : Int, lo ≤ j → j < n → 20 ≤ P j ∧ P j ≤ 24) ∧ (s = 1 ∨ s = 2 → ¬ rzCm P n) ∧ (s = 3 → rzCm P n)
noncomputable def rzBr (P : Int → Int) (tst : Int) : Int → List Int → Prop
  | _, [] => False
  | n, [s] => (∀ j : Int, 0 ≤ j → j < n → P j < 31) ∧ (0 ≤ s ∧ s ≤ 4) ∧ (s = 0 ↔ tst = 0) ∧ rzSx P 0 n s
  | n, s :: s_p :: r => ∃ b : Int, 0 ≤ b ∧ b < n ∧ (∀ j : Int, b < j → j < n → P j < 31) ∧ (0 ≤ s ∧ s ≤ 4) ∧ ((P b = 32 ∧ s = 0 ∧ s_p ≠ 1 ∧ s_p ≠ 4) ∨ (P b = 31 ∧ s ≠ 0 ∧ s_p = 1)) ∧ rzSx P (b + 1) n s ∧ rzBr P tst b (s_p :: r)
theorem rzCm_cg {P P_p : Int → Int} {n : Int} (e : ∀ j : Int, 0 ≤ j → j < n → P_p j = P j) (h : rzCm P n) : rzCm P_p n := by
  obtain ⟨k, k0, k1, k2, k3, k4⟩ := h
  have q := e k k0 k1
  refine ⟨k, k0, k1, by omega, by omega, fun j a b => ?_⟩
  have q2 := e j (by omega) b
  have q3 := k4 j a b
  omega
theorem rzCm_n {P : Int → Int} {n : Int} (h : rzCm P (n + 1)) : (25 ≤ P n ∧ P n ≤ 27) ∨ (20 ≤ P n ∧ P n ≤ 24 ∧ rzCm P n) := by
  obtain ⟨k, k0, k1, k2, k3, k4⟩ := h
  by_cases hk : k = n
  · subst hk
    exact Or.inl ⟨k2, k3⟩
  · have q := k4 n (by omega) (by omega)
    exact Or.inr ⟨q.1, q.2, k, k0, by omega, k2, k3, fun j a b => k4 j a (by omega)⟩
theorem rzCm_c {P : Int → Int} {n : Int} (hn : 0 ≤ n) (h0 : 25 ≤ P n) (h1 : P n ≤ 27) : rzCm P (n + 1) := ⟨n, hn, by omega, h0, h1, fun j a b => by omega⟩
theorem rzCm_up {P : Int → Int} {m n : Int} (hm : m ≤ n) (g : ∀ j : Int, m ≤ j → j < n → 20 ≤ P j ∧ P j ≤ 24) (h : rzCm P m) : rzCm P n := by
  obtain ⟨k, k0, k1, k2, k3, k4⟩ := h
  refine ⟨k, k0, by omega, k2, k3, fun j a b => ?_⟩
  by_cases hj : j < m
  · exact k4 j a hj
  · exact g j (by omega) b
theorem rzCm_dn {P : Int → Int} {m n : Int} (hm : m ≤ n) (g : ∀ j : Int, m ≤ j → j < n → 20 ≤ P j ∧ P j ≤ 24) (h : rzCm P n) : rzCm P m := by
  obtain ⟨k, k0, k1, k2, k3, k4⟩ := h
  by_cases hk : k < m
  · exact ⟨k, k0, hk, k2, k3, fun j a b => k4 j a (by omega)⟩
  · have q := g k (by omega) k1
    omega
theorem rzSx_cg {P P_p : Int → Int} {lo n s : Int} (hl : 0 ≤ lo) (e : ∀ j : Int, 0 ≤ j → j < n → P_p j = P j) (h : rzSx P lo n s) : rzSx P_p lo n s :=
  ⟨fun hs j a b => by
    rw [e j (by omega) b]
    exact h.1 hs j a b, fun hs g => h.2.1 hs (rzCm_cg (fun j a b => (e j a b).symm) g), fun hs => rzCm_cg e (h.2.2 hs)⟩
theorem rzSx_4 {P : Int → Int} {lo n : Int} : rzSx P lo n 4 := ⟨fun h => by omega, fun h => by omega, fun h => by omega⟩
theorem rzBr_cg {P P_p : Int → Int} {tst : Int} : ∀ {lv : List Int} {n : Int}, (∀ j : Int, 0 ≤ j → j < n → P_p j = P j) → rzBr P tst n lv → rzBr P_p tst n lv
  | [], _, _, h => h
  | [s], n, e, h => ⟨fun j a b => by
      rw [e j a b]
      exact h.1 j a b, h.2.1, h.2.2.1, rzSx_cg (Int.le_refl 0) e h.2.2.2⟩
  | s :: s_p :: r, n, e, h => by
    obtain ⟨b, b0, b1, a1, a2, a3, a4, a5⟩ := h
    refine ⟨b, b0, b1, fun j p q => ?_, a2, ?_, rzSx_cg (by omega) e a4, rzBr_cg (fun j p q => e j p (by omega)) a5⟩
    · rw [e j (by omega) q]
      exact a1 j p q
    · rw [e b b0 b1]
      exact a3
theorem rzBr_top {P : Int → Int} {tst : Int} : ∀ {rest : List Int} {n s : Int}, 0 ≤ n → rzBr P tst n (s :: rest) → ∃ b : Int, -1 ≤ b ∧ b < n ∧ (∀ j : Int, b < j → j < n → P j < 31) ∧ (0 ≤ s ∧ s ≤ 4) ∧ rzSx P (b + 1) n s ∧ (rest = [] → b = -1 ∧ (s = 0 ↔ tst = 0)) ∧ (rest ≠ [] → 0 ≤ b ∧ ((P b = 32 ∧ s = 0) ∨ (P b = 31 ∧ s ≠ 0))) ∧
    ∀ (P_p : Int → Int) (n_p s2 : Int), (∀ j : Int, 0 ≤ j → j ≤ b → P_p j = P j) → b < n_p → (∀ j : Int, b < j → j < n_p → P_p j < 31) → 0 ≤ s2 → s2 ≤ 4 → (s2 = 0 ↔ s = 0) → rzSx P_p (b + 1) n_p s2 → rzBr P_p tst n_p (s2 :: rest)
  | [], n, s, hn, h => by
    obtain ⟨a1, a2, a3, a4⟩ := h
    have e : (-1 : Int) + 1 = 0 := by omega
    refine ⟨-1, Int.le_refl _, by omega, fun j p q => a1 j (by omega) q, a2, by rw [e]; exact a4, fun _ => ⟨rfl, a3⟩, fun g => absurd rfl g, fun P_p n_p s2 g1 g2 g3 g4 g5 g6 g7 => ⟨fun j p q => g3 j (by omega) q, ⟨g4, g5⟩, g6.trans a3, ?_⟩⟩
    rw [e] at g7
    exact g7
  | s_p :: r, n, s, hn, h => by
    obtain ⟨b, b0, b1, a1, a2, a3, a4, a5⟩ := h
    refine ⟨b, by omega, b1, a1, a2, a4, fun g => absurd g (List.cons_ne_nil _ _), fun _ => ⟨b0, a3.imp (fun g => ⟨g.1, g.2.1⟩) fun g => ⟨g.1, g.2.1⟩⟩, fun P_p n_p s2 g1 g2 g3 g4 g5 g6 g7 => ⟨b, b0, g2, g3, ⟨g4, g5⟩, ?_, g7, rzBr_cg (fun j p q => g1 j p (by omega)) a5⟩⟩
    rw [g1 b b0 (Int.le_refl b)]
    rcases a3 with ⟨p, q, r⟩ | ⟨p, q, r⟩
    · exact Or.inl ⟨p, g6.mpr q, r⟩
    · exact Or.inr ⟨p, fun g => q (g6.mp g), r⟩
section RZBR
variable {P P_p : Int → Int} {tst n m s : Int} {rest : List Int}
theorem rzBr_lf (hn : 0 ≤ n) (h : rzBr P tst n (s :: rest)) : rzBr P tst n ((if s = 1 then 2 else s) :: rest) := by
  by_cases hs : s = 1
  · rw [if_pos hs]
    obtain ⟨b, b0, b1, a1, a2, a3, a4, a5, a6⟩ := rzBr_top hn h
    exact a6 P n 2 (fun _ _ _ => rfl) b1 a1 (by omega) (by omega) (by omega) ⟨fun g => by omega, fun _ => a3.2.1 (Or.inl hs), fun g => by omega⟩
  · rw [if_neg hs]
    exact h
theorem rzBr_ro (hn : 0 ≤ n) (h : rzBr P tst n (1 :: rest)) (e : ∀ j : Int, 0 ≤ j → j < n → P_p j = P j) (hp : P_p n = 31) : rzBr P_p tst (n + 1) (1 :: 1 :: rest) :=
  ⟨n, hn, by omega, fun j p q => by omega, by omega, Or.inr ⟨hp, by omega, rfl⟩, ⟨fun g => by omega, fun _ g => by
    have := rzCm_n g
    omega, fun g => by omega⟩, rzBr_cg e h⟩
theorem rzBr_sq (hn : 0 ≤ n) (h : rzBr P tst n (s :: rest)) (h4 : s ≠ 4) (e : ∀ j : Int, 0 ≤ j → j < n → P_p j = P j) (hp : P_p n = 32) : rzBr P_p tst (n + 1) (0 :: (if s = 1 then 2 else s) :: rest) := by
  have hq : (if s = 1 then 2 else s) ≠ 1 ∧ (if s = 1 then 2 else s) ≠ 4 := by
    by_cases hs : s = 1
    · rw [if_pos hs]
      omega
    · rw [if_neg hs]
      omega
  exact ⟨n, hn, by omega, fun j p q => by omega, by omega, Or.inl ⟨hp, rfl, hq⟩, ⟨fun _ j p q => by omega, fun g => by omega, fun g => by omega⟩, rzBr_cg e (rzBr_lf hn h)⟩
theorem rzBr_not (hn : 0 ≤ n) (h : rzBr P tst n (1 :: rest)) (e : ∀ j : Int, 0 ≤ j → j < n → P_p j = P j) (hp : P_p n = 28) : rzBr P_p tst (n + 1) (1 :: rest) := by
  obtain ⟨b, b0, b1, a1, a2, a3, a4, a5, a6⟩ := rzBr_top hn h
  refine a6 P_p (n + 1) 1 (fun j p q => e j p (by omega)) (by omega) (fun j p q => ?_) (by omega) (by omega) (by omega) ⟨fun g => by omega, fun _ g => ?_, fun g => by omega⟩
  · by_cases hj : j = n
    · rw [hj]
      omega
    · rw [e j (by omega) (by omega)]
      exact a1 j p (by omega)
  · have := rzCm_n g
    omega
theorem rzBr_lo {b : Int} (hb : -1 ≤ b) (hm : 0 ≤ m) (h : 0 ≤ b → 31 ≤ P b) (g : ∀ j : Int, m ≤ j → j < n → P j < 31) (h1 : b < n) : b < m := by
  by_cases hc : b < m
  · exact hc
  · have q1 := h (by omega)
    have q2 := g b (by omega) h1
    omega
theorem rzBr_31 {b : Int} (h0 : rest = [] → b = -1 ∧ (s = 0 ↔ tst = 0)) (h1 : rest ≠ [] → 0 ≤ b ∧ ((P b = 32 ∧ s = 0) ∨ (P b = 31 ∧ s ≠ 0))) : 0 ≤ b → 31 ≤ P b := fun hb => by
  by_cases hr : rest = []
  · have := h0 hr
    omega
  · have := h1 hr
    omega
theorem rzBr_sum (hn : 0 ≤ n) (h : rzBr P tst n (s :: rest)) (h4 : s ≠ 1 ∧ s ≠ 4) (hm : 0 ≤ m) (hmn : m ≤ n) (g : ∀ j : Int, m ≤ j → j < n → 20 ≤ P j ∧ P j ≤ 24) (e : ∀ j : Int, 0 ≤ j → j < m → P_p j = P j) (hp : 20 ≤ P_p m ∧ P_p m ≤ 24) : rzBr P_p tst (m + 1) (s :: rest) := by
  obtain ⟨b, b0, b1, a1, a2, a3, a4, a5, a6⟩ := rzBr_top hn h
  have hb := rzBr_lo b0 hm (rzBr_31 a4 a5) (fun j p q => by have := g j p q; omega) b1
  refine a6 P_p (m + 1) s (fun j p q => e j p (by omega)) (by omega) (fun j p q => ?_) a2.1 a2.2 Iff.rfl ⟨fun hs j p q => ?_, fun hs c => ?_, fun hs => ?_⟩
  · by_cases hj : j = m
    · rw [hj]
      omega
    · rw [e j (by omega) (by omega)]
      exact a1 j p (by omega)
  · by_cases hj : j = m
    · rw [hj]
      exact hp
    · rw [e j (by omega) (by omega)]
      exact a3.1 hs j p (by omega)
  · rcases rzCm_n c with q | ⟨-, -, q⟩
    · omega
    · exact a3.2.1 hs (rzCm_up hmn g (rzCm_cg (fun j p r => (e j p r).symm) q))
  · have q := rzCm_cg e (rzCm_dn hmn g (a3.2.2 hs))
    obtain ⟨k, k0, k1, k2, k3, k4⟩ := q
    refine ⟨k, k0, by omega, k2, k3, fun j p q => ?_⟩
    by_cases hj : j = m
    · rw [hj]
      exact hp
    · exact k4 j p (by omega)
theorem rzBr_cmp (hn : 0 ≤ n) (h : rzBr P tst n (2 :: rest)) (hm : 0 ≤ m) (hmn : m ≤ n) (g : ∀ j : Int, m ≤ j → j < n → 20 ≤ P j ∧ P j ≤ 24) (e : ∀ j : Int, 0 ≤ j → j < m → P_p j = P j) (hp : 25 ≤ P_p m ∧ P_p m ≤ 27) : rzBr P_p tst (m + 1) (3 :: rest) := by
  obtain ⟨b, b0, b1, a1, a2, a3, a4, a5, a6⟩ := rzBr_top hn h
  have hb := rzBr_lo b0 hm (rzBr_31 a4 a5) (fun j p q => by have := g j p q; omega) b1
  refine a6 P_p (m + 1) 3 (fun j p q => e j p (by omega)) (by omega) (fun j p q => ?_) (by omega) (by omega) (by omega) ⟨fun hs => by omega, fun hs => by omega, fun _ => rzCm_c hm hp.1 hp.2⟩
  by_cases hj : j = m
  · rw [hj]
    omega
  · rw [e j (by omega) (by omega)]
    exact a1 j p (by omega)
theorem rzBr_log (hn : 0 ≤ n) (h : rzBr P tst n (s :: rest)) (hs : s = 3 ∨ s = 4) (hm : 0 ≤ m) (hmn : m ≤ n) (g : ∀ j : Int, m ≤ j → j < n → P j < 31) (e : ∀ j : Int, 0 ≤ j → j < m → P_p j = P j) (hp : P_p m = 29 ∨ P_p m = 30) : rzBr P_p tst (m + 1) (1 :: rest) := by
  obtain ⟨b, b0, b1, a1, a2, a3, a4, a5, a6⟩ := rzBr_top hn h
  have hb := rzBr_lo b0 hm (rzBr_31 a4 a5) g b1
  refine a6 P_p (m + 1) 1 (fun j p q => e j p (by omega)) (by omega) (fun j p q => ?_) (by omega) (by omega) (by omega) ⟨fun g => by omega, fun _ c => ?_, fun g => by omega⟩
  · by_cases hj : j = m
    · rw [hj]
      omega
    · rw [e j (by omega) (by omega)]
      exact a1 j p (by omega)
  · have := rzCm_n c
    omega
theorem rzBr_at {s_p : Int} {r : List Int} (h : rzBr P tst n (s :: s_p :: r)) (hm : 1 ≤ m) (hmn : m ≤ n) (g : ∀ j : Int, m ≤ j → j < n → P j < 31) (ht : 31 ≤ P (m - 1)) : ((P (m - 1) = 32 ∧ s = 0 ∧ s_p ≠ 1 ∧ s_p ≠ 4) ∨ (P (m - 1) = 31 ∧ s ≠ 0 ∧ s_p = 1)) ∧ rzBr P tst (m - 1) (s_p :: r) := by
  obtain ⟨b, b0, b1, a1, a2, a3, a4, a5⟩ := h
  have e : b = m - 1 := by
    rcases Int.lt_trichotomy b (m - 1) with q | q | q
    · have := a1 (m - 1) q (by omega)
      omega
    · exact q
    · have := g b (by omega) b1
      omega
  subst e
  exact ⟨a3, a5⟩
theorem rzBr_s1 {s_p : Int} {r : List Int} (hn : 0 ≤ n) (h : rzBr P tst n (s_p :: r)) : 0 ≤ s_p ∧ s_p ≤ 4 := by
  obtain ⟨b, b0, b1, a1, a2, a3⟩ := rzBr_top hn h
  exact a2
theorem rzBr_cr (h : rzBr P tst n (s :: rest)) (hr : rest ≠ []) (hs : s ≠ 0) (hm : 1 ≤ m) (hmn : m ≤ n) (g : ∀ j : Int, m ≤ j → j < n → P j < 31) (ht : 31 ≤ P (m - 1)) : rzBr P tst (m - 1) (4 :: rest.tail) := by
  match rest, hr, h with
  | [], hr, _ => exact absurd rfl hr
  | s_p :: r, _, h =>
    obtain ⟨c, q⟩ := rzBr_at h hm hmn g ht
    have e : s_p = 1 := by omega
    subst e
    obtain ⟨b, b0, b1, a1, a2, a3, a4, a5, a6⟩ := rzBr_top (by omega) q
    exact a6 P (m - 1) 4 (fun _ _ _ => rfl) b1 a1 (by omega) (by omega) (by omega) rzSx_4
theorem rzBr_in {its : Int} (hn : 0 ≤ n) (h : rzBr P tst n (s :: rest)) (hi : (its = -1 ∧ ∀ j : Int, 0 ≤ j → j < n → P j < 31) ∨ (31 ≤ its ∧ ∃ b : Int, 0 ≤ b ∧ b < n ∧ P b = its ∧ ∀ j : Int, b < j → j < n → P j < 31)) : (rest = [] ∧ its = -1 ∧ (s = 0 ↔ tst = 0)) ∨ (rest ≠ [] ∧ its = 32 ∧ s = 0) ∨ (rest ≠ [] ∧ its = 31 ∧ s ≠ 0) := by
  obtain ⟨b, b0, b1, a1, a2, a3, a4, a5, a6⟩ := rzBr_top hn h
  by_cases hr : rest = []
  · have q := a4 hr
    rcases hi with ⟨i1, i2⟩ | ⟨i1, c, c0, c1, c2, c3⟩
    · exact Or.inl ⟨hr, i1, q.2⟩
    · have := a1 c (by omega) c1
      omega
  · have q := a5 hr
    rcases hi with ⟨i1, i2⟩ | ⟨i1, c, c0, c1, c2, c3⟩
    · have := i2 b q.1 b1
      omega
    · have e : c = b := by
        rcases Int.lt_trichotomy c b with z | z | z
        · have := c3 b z b1
          omega
        · exact z
        · have := a1 c z c1
          omega
      subst e
      rcases q.2 with z | z
      · exact Or.inr (Or.inl ⟨hr, by omega, z.2⟩)
      · exact Or.inr (Or.inr ⟨hr, by omega, z.2⟩)
theorem rzBr_cm (hn : 0 ≤ n) (h : rzBr P tst n (s :: rest)) (hs : s = 2 ∨ s = 3) : rzCm P n ↔ s = 3 := by
  obtain ⟨b, b0, b1, a1, a2, a3, a4, a5, a6⟩ := rzBr_top hn h
  constructor
  · intro c
    rcases hs with q | q
    · exact absurd c (a3.2.1 (Or.inr q))
    · exact q
  · exact a3.2.2
end RZBR
noncomputable def rzWr (S : Nat → Int → Int) : List (List Int) := if S 480 15 = 1 then rzPn else rzLn_
noncomputable def rzCk (S : Nat → Int → Int) : Prop := (S 491 0 = 542723566 ∧ S 491 1 = 441892441 ∧ S 491 2 = 81486 ∧ S 491 3 = 136228 ∧ S 491 4 = 525908 ∧ S 491 5 = 21643763890 ∧ S 491 6 = 824370 ∧ S 491 7 = 441828) ∧ (S 492 0 = 20579973 ∧ S 492 1 = 3749 ∧ S 492 2 = 769604 ∧ S 492 3 = 464660 ∧ S 492 4 = 525908 ∧ S 492 5 = 441828)
noncomputable def rzKr (S0 S : Nat → Int → Int) : Prop := rzCut (S 485) = rzCut (S0 485) ∧ S 480 8 = S0 480 8 ∧ S 480 15 = S0 480 15 ∧ S 480 13 = S0 480 13 ∧ (rzCk S0 → rzCk S)
theorem rzKr_rf {S : Nat → Int → Int} : rzKr S S := ⟨rfl, rfl, rfl, rfl, fun h => h⟩
theorem rzKr.tr {S0 S S_p : Nat → Int → Int} (h : rzKr S0 S) (g : rzKr S S_p) : rzKr S0 S_p := ⟨g.1.trans h.1, g.2.1.trans h.2.1, g.2.2.1.trans h.2.2.1, g.2.2.2.1.trans h.2.2.2.1, fun c => g.2.2.2.2 (h.2.2.2.2 c)⟩
theorem rzKr.w {S0 S : Nat → Int → Int} (h : rzKr S0 S) : rzWr S = rzWr S0 := by
  unfold rzWr
  rw [h.2.2.1]
theorem rzMs {ms : List (Nat × Nat)} {l : List (Nat × Nat)} (h : l.all (fun q => !(bx_mdl ms q.1 q.2)) = true) {a b : Nat} (hm : (a, b) ∈ l) : bx_mdl ms a b = false := by
  have := List.all_eq_true.mp h (a, b) hm
  rw [Bool.not_eq_true'] at this
  exact this
theorem rzKr_of {ms : List (Nat × Nat)} {S S_p : Nat → Int → Int} (h : bx_same rxL (bx_mdl ms) S S_p) (hm : [(1066, 0), (12, 8), (12, 15), (12, 13), (1072, 0), (1073, 0)].all (fun q => !(bx_mdl ms q.1 q.2)) = true) : rzKr S S_p := by
  have w := fun i hi => rz_fd h (p := 491) (n := 8) (c := 1072) (k := 0) (rzMs hm (by decide)) (by decide) (by decide +kernel) i hi
  have v := fun i hi => rz_fd h (p := 492) (n := 6) (c := 1073) (k := 0) (rzMs hm (by decide)) (by decide) (by decide +kernel) i hi
  refine ⟨rzCut_cg (rz_fd h (p := 485) (n := 400) (c := 1066) (k := 0) (rzMs hm (by decide)) (by decide) (by decide +kernel)), h 480 8 (by decide) (by decide) (rzMs hm (by decide)), h 480 15 (by decide) (by decide) (rzMs hm (by decide)), h 480 13 (by decide) (by decide) (rzMs hm (by decide)), fun c => ?_⟩
  unfold rzCk
  rw [w 0 (by omega) (by omega), w 1 (by omega) (by omega), w 2 (by omega) (by omega), w 3 (by omega) (by omega), w 4 (by omega) (by omega), w 5 (by omega) (by omega), w 6 (by omega) (by omega), w 7 (by omega) (by omega), v 0 (by omega) (by omega), v 1 (by omega) (by omega), v 2 (by omega) (by omega), v 3 (by omega) (by omega), v 4 (by omega) (by omega), v 5 (by omega) (by omega)]
  exact c
noncomputable def rzTs (S S_p : Nat → Int → Int) : Prop := S_p 480 9 = S 480 9 ∧ S_p 480 10 = S 480 10 ∧ S_p 480 11 = S 480 11 ∧ S_p 480 12 = S 480 12
theorem rzTs_of {ms : List (Nat × Nat)} {S S_p : Nat → Int → Int} (h : bx_same rxL (bx_mdl ms) S S_p) (hm : [(12, 9), (12, 10), (12, 11), (12, 12)].all (fun q => !(bx_mdl ms q.1 q.2)) = true) : rzTs S S_p :=
  ⟨h 480 9 (by decide) (by decide) (rzMs hm (by decide)), h 480 10 (by decide) (by decide) (rzMs hm (by decide)), h 480 11 (by decide) (by decide) (rzMs hm (by decide)), h 480 12 (by decide) (by decide) (rzMs hm (by decide))⟩
theorem rzDq_c {S S_p : Nat → Int → Int} (h : rzDq S) (k : rzKr S S_p) (t : rzTs S S_p) : rzDq S_p := by
  unfold rzDq
  rw [k.1, k.2.1, t.1, t.2.1, t.2.2.1, t.2.2.2]
  exact h
noncomputable def rzNw (S0 S : Nat → Int → Int) : Prop := rzKr S0 S ∧ rzDq S ∧ S 480 9 = rzN (rzCut (S0 485)) (S0 480 8) (S0 480 9)
theorem rzNw_c {S0 S S_p : Nat → Int → Int} (h : rzNw S0 S) (k : rzKr S S_p) (t : rzTs S S_p) : rzNw S0 S_p := ⟨h.1.tr k, rzDq_c h.2.1 k t, t.1.trans h.2.2⟩
theorem rzNw_b {S0 S S_p : Nat → Int → Int} (k : rzKr S0 S) (t : rzTs S0 S) (h : rzNw S S_p) : rzNw S0 S_p := ⟨k.tr h.1, h.2.1, by
  rw [h.2.2, k.1, k.2.1, t.1]⟩
theorem rzNw_nx {S S_p : Nat → Int → Int} (hD : rzDq S) (k : rzKr S S_p) (d : rzDq S_p) (e : S_p 480 9 = rzF (rzCut (S 485)) (S 480 8) (S 480 10)) : rzNw S S_p := ⟨k, d, by
  rw [e, hD.2.2.2.1]
  rfl⟩
noncomputable def rzPl (S0 S : Nat → Int → Int) (dn dp dl : Int) : Prop := S 480 24 = S0 480 24 + dn ∧ S 480 25 = S0 480 25 + dp ∧ S 480 21 = S0 480 21 + dl ∧ ∀ j : Int, 0 ≤ j → j < S0 480 24 → S 489 j = S0 489 j
theorem rzPl_rf {S : Nat → Int → Int} : rzPl S S 0 0 0 := ⟨by omega, by omega, by omega, fun _ _ _ => rfl⟩
theorem rzPl_of {ms : List (Nat × Nat)} {S S_p : Nat → Int → Int} (h : bx_same rxL (bx_mdl ms) S S_p) (b : S 480 24 ≤ 400) (hm : [(12, 24), (12, 25), (12, 21), (1070, 0)].all (fun q => !(bx_mdl ms q.1 q.2)) = true) : rzPl S S_p 0 0 0 := by
  have e1 : S_p 480 24 = S 480 24 := h 480 24 (by decide) (by decide) (rzMs hm (by decide))
  have e2 : S_p 480 25 = S 480 25 := h 480 25 (by decide) (by decide) (rzMs hm (by decide))
  have e3 : S_p 480 21 = S 480 21 := h 480 21 (by decide) (by decide) (rzMs hm (by decide))
  exact ⟨by omega, by omega, by omega, fun j a c => rz_fd h (p := 489) (n := 400) (c := 1070) (k := 0) (rzMs hm (by decide)) (by decide) (by decide +kernel) j a (by omega)⟩
theorem rzPl.tr {S0 S S_p : Nat → Int → Int} {a b c a_p b_p c_p : Int} (h : rzPl S0 S a b c) (g : rzPl S S_p a_p b_p c_p) (ha : 0 ≤ a) : rzPl S0 S_p (a + a_p) (b + b_p) (c + c_p) := by
  obtain ⟨h1, h2, h3, h4⟩ := h
  obtain ⟨g1, g2, g3, g4⟩ := g
  exact ⟨by omega, by omega, by omega, fun j p q => (g4 j p (by omega)).trans (h4 j p q)⟩
noncomputable def rzSr (S : Nat → Int → Int) (tst : Int) (lv : List Int) : Prop := rzBr (S 489) tst (S 480 24) lv ∧ (lv.length : Int) = S 480 25 + 1 ∧ 0 ≤ S 480 24
theorem rzSr_pl {S S_p : Nat → Int → Int} {tst dl : Int} {lv : List Int} (h : rzSr S tst lv) (p : rzPl S S_p 0 0 dl) : rzSr S_p tst lv := by
  obtain ⟨h1, h2, h3⟩ := h
  obtain ⟨p1, p2, p3, p4⟩ := p
  refine ⟨?_, by omega, by omega⟩
  rw [show S_p 480 24 = S 480 24 by omega]
  exact rzBr_cg p4 h1
theorem rzDq_is {S : Nat → Int → Int} {w : List Int} {v : Int} (h : rzDq S) (hw : rzOkW w = true) (hv : rzHw w = v) : (S 480 11 = 1 ∧ S 480 12 = v) ↔ rzIs (rzCut (S 485)) (S 480 8) w (S 480 9) = true := by
  obtain ⟨h0, h1, h2, h3, h4⟩ := h
  rw [rzIs_iff hw, hv]
  constructor
  · rintro ⟨a, b⟩
    rcases h4 with g | g | g | g
    · omega
    · rw [h3] at g
      exact ⟨g.2.1, g.2.2.1, g.2.2.2.symm.trans b⟩
    · omega
    · omega
  · rintro ⟨a, b, c⟩
    rcases h4 with g | g | g | g
    · omega
    · rw [h3] at g
      exact ⟨g.1, g.2.2.2.trans c⟩
    · rw [b] at g
      exact absurd g.2.2.1 (by decide)
    · rw [b] at g
      exact absurd g.2.2.1 (by decide)
theorem rzDq_no {S : Nat → Int → Int} {w : List Int} {v : Int} (h : rzDq S) (hw : rzOkW w = true) (hv : rzHw w = v) (g : ¬ (S 480 11 = 1 ∧ S 480 12 = v)) : rzIs (rzCut (S 485)) (S 480 8) w (S 480 9) = false := by
  cases hb : rzIs (rzCut (S 485)) (S 480 8) w (S 480 9) with
  | false => rfl
  | true => exact absurd ((rzDq_is h hw hv).mpr hb) g
theorem rzDq_sg {S : Nat → Int → Int} {c : Int} (h : rzDq S) (hl : rzL c = false) (hg : rzG c = false) : (S 480 11 = 3 ∧ S 480 12 = c) ↔ rzSg (rzCut (S 485)) (S 480 8) c (S 480 9) = true := by
  obtain ⟨h0, h1, h2, h3, h4⟩ := h
  constructor
  · rintro ⟨a, b⟩
    rcases h4 with g | g | g | g
    · omega
    · omega
    · omega
    · exact decide_eq_true ⟨g.2.1, g.2.2.2.2.symm.trans b⟩
  · intro q
    obtain ⟨a, b⟩ := (show S 480 9 < S 480 8 ∧ rzCut (S 485) (S 480 9) = c from of_decide_eq_true q)
    rw [b] at h4
    rcases h4 with g | g | g | g
    · omega
    · rw [hl] at g
      exact absurd g.2.2.1 (by decide)
    · rw [hg] at g
      exact absurd g.2.2.2.1 (by decide)
    · exact ⟨g.1, g.2.2.2.2⟩
theorem rzDq_ns {S : Nat → Int → Int} {c : Int} (h : rzDq S) (hl : rzL c = false) (hg : rzG c = false) (g : ¬ (S 480 11 = 3 ∧ S 480 12 = c)) : rzSg (rzCut (S 485)) (S 480 8) c (S 480 9) = false := by
  cases hb : rzSg (rzCut (S 485)) (S 480 8) c (S 480 9) with
  | false => rfl
  | true => exact absurd ((rzDq_sg h hl hg).mpr hb) g
theorem rzDq_dg {S : Nat → Int → Int} (h : rzDq S) : S 480 11 = 2 ↔ rzDg (rzCut (S 485)) (S 480 8) (S 480 9) = true := by
  obtain ⟨h0, h1, h2, h3, h4⟩ := h
  constructor
  · intro a
    rcases h4 with g | g | g | g
    · omega
    · omega
    · exact decide_eq_true ⟨g.2.1, g.2.2.2.1⟩
    · omega
  · intro q
    obtain ⟨a, b⟩ := (show S 480 9 < S 480 8 ∧ rzG (rzCut (S 485) (S 480 9)) = true from of_decide_eq_true q)
    have b2 := rzG_b b
    rcases h4 with g | g | g | g
    · omega
    · have := rzL_b g.2.2.1
      omega
    · exact g.1
    · rw [b] at g
      exact absurd g.2.2.2.1 (by decide)
theorem rzDq_nm {S : Nat → Int → Int} (h : rzDq S) (h2 : S 480 11 = 2) : 0 ≤ S 480 12 ∧ (S 480 12 ≤ 1000 → rzNo (rzCut (S 485)) (S 480 8) (S 480 9) = S 480 12) ∧ (1000 < S 480 12 → rzNo (rzCut (S 485)) (S 480 8) (S 480 9) = 1001) := by
  have hd := (rzDq_dg h).mp h2
  obtain ⟨g0, g1, g2, g3, g4⟩ := h
  rcases g4 with g | g | g | g
  · omega
  · omega
  · obtain ⟨a1, a2, a3, a4, a5⟩ := g
    have e : rzNo (rzCut (S 485)) (S 480 8) (S 480 9) = rzNm (rzCut (S 485)) (S 480 9) (S 480 10 - S 480 9).toNat := by
      unfold rzNo
      rw [if_pos hd, ← g3]
    have q := rzNm_dv (T := rzCut (S 485)) (f := S 480 9) (S 480 10 - S 480 9).toNat fun i hi => rzG_b (rzT_gs a2 a3 a4 (by omega) (by omega))
    rw [e, a5]
    exact q
  · omega
theorem rzCk_c {S S_p : Nat → Int → Int} (h : rzCk S) (e1 : S_p 491 = S 491) (e2 : S_p 492 = S 492) : rzCk S_p := by
  unfold rzCk
  rw [e1, e2]
  exact h
theorem rzPl_pu {S : Nat → Int → Int} {o a : Int} : rzPl S (bx_up (bx_up (bx_up S 489 (S 480 24) o) 490 (S 480 24) a) 480 24 (S 480 24 + 1)) 1 0 0 ∧ bx_up (bx_up (bx_up S 489 (S 480 24) o) 490 (S 480 24) a) 480 24 (S 480 24 + 1) 489 (S 480 24) = o ∧ bx_up (bx_up (bx_up S 489 (S 480 24) o) 490 (S 480 24) a) 480 24 (S 480 24 + 1) 480 14 = S 480 14 := by
  refine ⟨⟨bx_up_at, ?_, ?_, fun j a b => ?_⟩, ?_, ?_⟩
  · rw [bx_up_ne (by omega), bx_up_ne (by omega), bx_up_ne (by omega)]
    omega
  · rw [bx_up_ne (by omega), bx_up_ne (by omega), bx_up_ne (by omega)]
    omega
  · rw [bx_up_ne (by omega), bx_up_ne (by omega), bx_up_ne (by omega)]
  · rw [bx_up_ne (by omega), bx_up_ne (by omega), bx_up_at]
  · rw [bx_up_ne (by omega), bx_up_ne (by omega), bx_up_ne (by omega)]
noncomputable def rzLf (S0 : Nat → Int → Int) (ws : List Int) : Prop := ∃ is op arg : Int, ws = [480, is, op, arg] ∧ is = 1 ∧ S0 480 21 < 50
theorem rzLf_iff {S0 : Nat → Int → Int} {ws : List Int} {is op arg : Int} (hw : ws = [480, is, op, arg]) : rzLf S0 ws ↔ (is = 1 ∧ S0 480 21 < 50) := by
  constructor
  · rintro ⟨is_p, op_p, arg_p, h1, h2, h3⟩
    have e : is = is_p := Option.some.inj (congrArg (fun l : List Int => l[1]?) (hw.symm.trans h1))
    exact ⟨by omega, h3⟩
  · exact fun h => ⟨is, op, arg, hw, h⟩
noncomputable def rzTc (t s : Int) : Prop := (t = 0 ∧ s = 1) ∨ (t = 1 ∧ (s = 0 ∨ s = 2 ∨ s = 3)) ∨ (t = 3 ∧ (s = 0 ∨ s = 2 ∨ s = 3)) ∨ (t = 2 ∧ s = 4)
noncomputable def rzTn (S0 S : Nat → Int → Int) (tst : Int) (lv : List Int) (pr : Bool) (w : Option Int) : Prop :=
  (S 480 14 = 0 → rzKr S0 S ∧ rzDq S ∧ ∃ (t s_p : Int) (rest_p : List Int), w = some t ∧ rzSr S tst (s_p :: rest_p) ∧ rzStep (rzCut (S0 485)) (S0 480 8) (rzWr S0) (S0 480 9) lv pr (S0 480 21) = (0, S 480 9, s_p :: rest_p, decide (2 ≤ t), S 480 21) ∧ rzTc t s_p) ∧
  (S 480 14 ≠ 0 → (∃ (f_p : Int) (lv_p : List Int) (pr_p : Bool) (lf_p : Int), rzStep (rzCut (S0 485)) (S0 480 8) (rzWr S0) (S0 480 9) lv pr (S0 480 21) = (2, f_p, lv_p, pr_p, lf_p)) ∧ S 480 13 = S0 480 9)
theorem rzTn_y {S0 S : Nat → Int → Int} {tst t s_p : Int} {lv rest_p : List Int} {pr : Bool} {w : Option Int} (h0 : S 480 14 = 0) (hw : w = some t) (k : rzNw S0 S) (r : rzSr S tst (s_p :: rest_p)) (c : rzTc t s_p) (e : rzStep (rzCut (S0 485)) (S0 480 8) (rzWr S0) (S0 480 9) lv pr (S0 480 21) = (0, rzN (rzCut (S0 485)) (S0 480 8) (S0 480 9), s_p :: rest_p, decide (2 ≤ t), S 480 21)) : rzTn S0 S tst lv pr w :=
  ⟨fun _ => ⟨k.1, k.2.1, t, s_p, rest_p, hw, r, by rw [k.2.2]; exact e, c⟩, fun g => absurd h0 g⟩
theorem rzTn_n {S0 S : Nat → Int → Int} {tst f_p lf_p : Int} {lv lv_p : List Int} {pr pr_p : Bool} {w : Option Int} (h0 : S 480 14 ≠ 0) (h13 : S 480 13 = S0 480 9) (e : rzStep (rzCut (S0 485)) (S0 480 8) (rzWr S0) (S0 480 9) lv pr (S0 480 21) = (2, f_p, lv_p, pr_p, lf_p)) : rzTn S0 S tst lv pr w :=
  ⟨fun g => absurd g h0, fun _ => ⟨⟨f_p, lv_p, pr_p, lf_p, e⟩, h13⟩⟩
theorem rzOkl {l : List (List Int)} (h : l.all rzOkW = true) {w : List Int} (hw : w ∈ l) : rzOkW w = true := List.all_eq_true.mp h w hw
theorem rzWr_ok {S : Nat → Int → Int} {w : List Int} (hw : w ∈ rzWr S) : rzOkW w = true := by
  unfold rzWr at hw
  by_cases h : S 480 15 = 1
  · rw [if_pos h] at hw
    exact rzOkl (by decide) hw
  · rw [if_neg h] at hw
    exact rzOkl (by decide) hw
theorem rzSg_np {S : Nat → Int → Int} {T : Int → Int} {n c f : Int} (hl : rzL c = false) (hg : rzG c = false) (h : rzSg T n c f = true) : ¬ (rzDg T n f = true ∨ 0 ≤ rzIxn T n f (rzWr S) 0) := by
  obtain ⟨a, b⟩ := (show f < n ∧ T f = c from of_decide_eq_true h)
  intro g
  rcases g with g | g
  · have g2 := (of_decide_eq_true g : f < n ∧ rzG (T f) = true).2
    rw [b, hg] at g2
    cases g2
  · have e : rzIxn T n f (rzWr S) 0 = -1 := rzIxn_none fun w hw => by
      cases hb : rzIs T n w f with
      | false => rfl
      | true =>
        have q := ((rzIs_iff (rzWr_ok hw)).mp hb).2.1
        rw [b, hl] at q
        cases q
    omega
theorem rzIs_np {S : Nat → Int → Int} {T : Int → Int} {n f : Int} {w : List Int} (h0 : 0 < w.length) (hw : rzOkW w = true) (hn : rzFi w rzPn 0 = -1 ∧ rzFi w rzLn_ 0 = -1) (h : rzIs T n w f = true) : ¬ (rzDg T n f = true ∨ 0 ≤ rzIxn T n f (rzWr S) 0) := by
  intro g
  rcases g with g | g
  · have g2 := rzG_b (of_decide_eq_true g : f < n ∧ rzG (T f) = true).2
    have q := rzL_b ((rzIs_iff hw).mp h).2.1
    omega
  · rw [rzIxn_u h] at g
    unfold rzWr at g
    by_cases c : S 480 15 = 1
    · rw [if_pos c, hn.1] at g
      omega
    · rw [if_neg c, hn.2] at g
      omega
noncomputable def rxCMUW : bx_Ct := ([(3, (1, 480, 0)), (0, (0, 0, 1))], none, [(12, 9), (12, 10), (12, 11), (12, 12), (12, 13), (12, 14)], 2, [])
noncomputable def rxIMUW_0 (S0 : Nat → Int → Int) (ws : List Int) (S : Nat → Int → Int) (is : Int) : Prop := rxIMU_0 S0 ws S is ∧ True
noncomputable def rxmMUW_0 (S0 : Nat → Int → Int) (ws : List Int) (S : Nat → Int → Int) (is : Int) : Nat := rxmMU_0 S0 ws S is
noncomputable def rxzMUW_0 : rx_Z := ([(0, 0), (0, 0), (0, 0), (0, 0), (0, 0), (0, 0), (0, 0), (0, 0), (0, 1)], [], [], 0, 0, 0, [(0, .inr (3, (0, 480))), (1, .inr (0, (8, 0)))], [])
noncomputable def rxIMUW_1 (S0 : Nat → Int → Int) (ws : List Int) (S : Nat → Int → Int) (is : Int) : Prop := rxIMU_1 S0 ws S is ∧ True
noncomputable def rxmMUW_1 (S0 : Nat → Int → Int) (ws : List Int) (S : Nat → Int → Int) (is : Int) : Nat := rxmMU_1 S0 ws S is
noncomputable def rxzMUW_1 : rx_Z := ([(0, 0), (0, 0), (0, 0), (0, 0), (0, 0), (0, 0), (0, 0), (0, 0), (1, 1)], [], [], 0, 0, 32, [(0, .inr (3, (0, 480))), (1, .inr (0, (8, 0)))], [.inr (3, (0, 480))])
noncomputable def rxIMUW_2 (S0 : Nat → Int → Int) (ws : List Int) (S : Nat → Int → Int) (is : Int) : Prop := rxIMU_2 S0 ws S is ∧ (rzDq S0 → rzNw S0 S)
noncomputable def rxmMUW_2 (S0 : Nat → Int → Int) (ws : List Int) (S : Nat → Int → Int) (is : Int) : Nat := rxmMU_2 S0 ws S is
noncomputable def rxzMUW_2 : rx_Z := ([(0, 0), (0, 0), (0, 0), (0, 0), (0, 0), (0, 0), (0, 0), (0, 0), (1, 1)], [], [], 0, 0, 35, [(0, .inr (3, (0, 480))), (1, .inr (0, (8, 0)))], [])
noncomputable def rxoMUW_0_0 : bx_HO := (([(0, 0), (0, 0), (0, 0), (0, 0), (0, 0), (0, 0), (0, 0), (0, 0), (1, 1), (0, 0)], [(3, (8, 0), (0, 0))], [(((0, 0), 1851192626986356800234234225391877833944518517379736727590010880000000), .inr (0, (9, 0))), (((0, 480), 14), .inr (0, (9, 0)))], 0, 0, 32, [(0, .inr (3, (0, 480))), (1, .inr (0, (8, 0)))], [.inr (3, (0, 480))]), [], [], [(0, 0), (0, 0), (0, 0), (0, 0), (0, 0), (0, 0), (0, 0), (0, 0), (8, 0)], 1)
noncomputable def rxeMUW_0_0 : rx_End × List (Nat × Int × Int) := (([(0, 0), (0, 0), (0, 0), (0, 0), (0, 0), (0, 0), (0, 0), (0, 0), (0, 0), (0, 0), (0, 400)], [], [(((0, 0), 1851192626986356800033527518605102225670697052925901474036187139000000), .inr (0, (10, 0))), (((0, 480), 13), .inr (0, (10, 0))), (((0, 0), 1851192626986356799230700691457999792575411195110560459820892160000000), .inr (0, (10, 0))), (((0, 480), 9), .inr (0, (10, 0))), (((0, 0), 1851192626986356800234234225391877833944518517379736727590010883000000), .inr (0, (0, 1))), (((0, 480), 14), .inr (0, (0, 1))), (((0, 0), 1851192626986356800234234225391877833944518517379736727590010880000000), .inr (0, (9, 0)))], none), [])
noncomputable def rxeMUW_0_1 : rx_End × List (Nat × Int × Int) := (([(0, 0), (0, 0), (0, 0), (0, 0), (0, 0), (0, 0), (0, 0), (0, 0), (0, 1), (1, 1)], [(3, (9, 0), (0, 0))], [(((0, 0), 1851192626986356800234234225391877833944518517379736727590010880000000), .inr (0, (9, 0))), (((0, 480), 14), .inr (0, (9, 0)))], none), [])
noncomputable def rxeMUW_2_0 : rx_End × List (Nat × Int × Int) := (([(0, 0), (0, 0), (0, 0), (0, 0), (0, 0), (0, 0), (0, 0), (0, 0), (1, 1)], [], [], none), [])
noncomputable def rxYMUW : List bx_HE := [(rxzMUW_0, [rxoMUW_0_0], [rxeMUW_0_0, rxeMUW_0_1]), (rxzMUW_1, [], []), (rxzMUW_2, [], [rxeMUW_2_0])]
noncomputable def rxUMUW (q : bx_HE) : Bool := Nat.beq (rx_zpc q.1) 32
noncomputable def rxYBMUW : bx_B := (rxV, rxNP, rxDmf, bx_mdH rxCMUW.2.2.1)
set_option maxRecDepth 100000 in
theorem rxYcMUW : bx_chkH rxYBMUW rxM265 rxCMUW rxYMUW (rxUMUW, fun cut z => rx_ex2 (rxCT rxYBMUW rxCnE) cut 30000 rxCMUW.2.2.2.1 265 z) = true := by decide +kernel
noncomputable def rxIMUW (S0 : Nat → Int → Int) (ws : List Int) (i : Nat) : bx_SP := fun S r => match i with | 0 => rxIMUW_0 S0 ws S (r 8) | 1 => rxIMUW_1 S0 ws S (r 8) | 2 => rxIMUW_2 S0 ws S (r 8) | _ => False
noncomputable def rxmMUW (S0 : Nat → Int → Int) (ws : List Int) (i : Nat) (S : Nat → Int → Int) (r : Nat → Int) : Nat := match i with | 0 => rxmMUW_0 S0 ws S (r 8) | 1 => rxmMUW_1 S0 ws S (r 8) | 2 => rxmMUW_2 S0 ws S (r 8) | _ => 0
noncomputable def rxPMUW (S0 : Nat → Int → Int) (ws : List Int) : Prop := rxPMU S0 ws
noncomputable def rxPSMUW (S0 : Nat → Int → Int) (ws : List Int) (S : Nat → Int → Int) (w : Option Int) : Prop := w = none ∧ rxPSMU S0 ws S w ∧ ((S0 480 14 = 0 → rzDq S0 → (S 480 14 = 0 → rzNw S0 S) ∧ (S 480 14 ≠ 0 → S 480 13 = S0 480 9)) ∧ (S0 480 14 ≠ 0 → S 480 14 ≠ 0 ∧ S 480 13 = S0 480 13))
theorem rxkMUW_1 {S0 : Nat → Int → Int} {ws : List Int} {S : Nat → Int → Int} {is : Int} (hP : rxPMUW S0 ws) (hin : bx_same rxL (bx_mdl rxCMUW.2.2.1) S0 S) (I0 : bx_Inv rxL S) (hinv : rxIMUW_1 S0 ws S is) (l8 : 1 ≤ is) (u8 : is ≤ 1) : rxPNXX S [480] ∧ ∀ (S_p : Nat → Int → Int), rxPSNXX S [480] S_p none → bx_Inv rxL S_p → bx_same rxL (bx_mdl rxCNXX.2.2.1) S S_p → rxIMUW_2 S0 ws S_p is ∧ rxmMUW_2 S0 ws S_p is < rxmMUW_1 S0 ws S is := by
  obtain ⟨hI, hx⟩ := hinv
  have g_ := rxkMU_1 hP hin I0 hI l8 u8
  exact ⟨g_.1, fun S_p hq I1 hsm => ⟨⟨(g_.2 S_p hq.2.1 I1 hsm).1, (fun hD => by
    have e := hI.1
    subst e
    exact rzNw_nx hD (rzKr_of hsm (by decide +kernel)) hq.2.2.1 hq.2.2.2)⟩, (g_.2 S_p hq.2.1 I1 hsm).2⟩⟩
theorem rxsMUW_1 {X : (Nat → Int → Int) → Prop} {S0 : Nat → Int → Int} {ws : List Int} (hP : rxPMUW S0 ws) : rx_obK X S0 rxCMUW.2.2.1 rxCNXX.2.2.1 (rxIMUW S0 ws) (rxmMUW S0 ws) 1 2 rxzMUW_1 rxzMUW_2 [.inr (3, (0, 480))] none rxPNXX rxPSNXX := by
  intro S r hinv hXS I0 hin hs_ hf_
  have b_ := bx_bds_sat hs_
  have f_ := bx_fcl_ok hs_.1 hf_
  obtain ⟨⟨l8, u8⟩, -⟩ := b_
  have g := rxkMUW_1 hP hin I0 hinv l8 u8
  have ea : List.map (bx_num r) [.inr (3, (0, 480))] = [480] := by
    simp only [List.map_cons, List.map_nil, bx_xv_ok hs_.1]
    rfl
  rw [ea]
  refine ⟨g.1, fun S_p w r_p hPS hX_p I1 hsm hr hw hs_p => ?_⟩
  have hw : w = none := hPS.1
  subst hw
  have g2 := g.2 S_p hPS I1 hsm
  show rxIMUW_2 S0 ws S_p (r_p 8) ∧ rxmMUW_2 S0 ws S_p (r_p 8) < _
  rw [hr 8 (by decide)]
  exact g2
theorem rxcMUW_0_0 {S0 : Nat → Int → Int} {ws : List Int} {S : Nat → Int → Int} {is x9 : Int} (hP : rxPMUW S0 ws) (hin : bx_same rxL (bx_mdl rxCMUW.2.2.1) S0 S) (I0 : bx_Inv rxL S) (hinv : rxIMUW_0 S0 ws S is) (l8 : 1 ≤ is) (u8 : is ≤ 1) (l9 : 0 ≤ x9) (u9 : x9 ≤ 0) (f0 : is ≠ 0) (e0 : S 480 14 = x9) : (True) ∧ (True) ∧ rxIMUW_1 S0 ws S is ∧ rxmMUW_1 S0 ws S is < rxmMUW_0 S0 ws S is := by
  obtain ⟨hI, hx⟩ := hinv
  obtain ⟨a_, b_, c_, d_⟩ := rxcMU_0_0 hP hin I0 hI l8 u8 l9 u9 f0 e0
  exact ⟨a_, b_, ⟨c_, trivial⟩, d_⟩
theorem rxgMUW_0_0 {X : (Nat → Int → Int) → Prop} {S0 : Nat → Int → Int} {ws : List Int} (hP : rxPMUW S0 ws) : bx_obC rxL X S0 rxCMUW.2.2.1 (rxIMUW S0 ws) (rxmMUW S0 ws) 0 rxzMUW_0 rxoMUW_0_0 := by
  intro S S_p r r_p hinv hX hin hsm_ hseg
  obtain ⟨I0, I1, h0_, hr_, b_, f_, d_⟩ := bx_cl (evs := [(0, (0, 480), (0, 14), .inr (0, (9, 0)))]) (fvs := [(3, (8, 0), (0, 0), (0, 0))]) hseg (by decide +kernel) (by decide +kernel)
  have hinv : rxIMUW_0 S0 ws S (r 8) := hinv
  rw [← hr_ 8 (by decide)] at hinv
  obtain ⟨⟨l8, u8⟩, ⟨l9, u9⟩, -⟩ := b_
  obtain ⟨f0, -⟩ := f_
  obtain ⟨e0, w_⟩ := d_
  subst w_
  have g := rxcMUW_0_0 hP hin I0 hinv l8 u8 l9 u9 f0 e0
  refine ⟨bx_narP_ok (l := []) g.1, bx_nfP_ok h0_ (fvs := []) (by decide +kernel) g.2.1, ?_, ?_⟩
  · show rxIMUW_1 S0 ws S_p (bx_val [(0, 0), (0, 0), (0, 0), (0, 0), (0, 0), (0, 0), (0, 0), (0, 0), (8, 0)] r_p 8)
    rw [bx_val_x (n := 8) (e := (8, 0)) h0_ rfl]
    exact g.2.2.1
  · show rxmMUW_1 S0 ws S_p (bx_val [(0, 0), (0, 0), (0, 0), (0, 0), (0, 0), (0, 0), (0, 0), (0, 0), (8, 0)] r_p 8) < rxmMUW_0 S0 ws S_p (r 8)
    rw [bx_val_x (n := 8) (e := (8, 0)) h0_ rfl, ← hr_ 8 (by decide)]
    exact g.2.2.2
theorem rxdMUW_0_0 {S0 : Nat → Int → Int} {ws : List Int} {S : Nat → Int → Int} {is x9 x10 : Int} (hP : rxPMUW S0 ws) (hin : bx_same rxL (bx_mdl rxCMUW.2.2.1) S0 S) (hin2 : bx_same rxL (bx_mdl rxCMUW.2.2.1) S (bx_up (bx_up S 480 14 1) 480 13 x10)) (I0 : bx_Inv rxL S) (I1 : bx_Inv rxL (bx_up (bx_up S 480 14 1) 480 13 x10)) (hinv : rxIMUW_0 S0 ws S is) (l8 : 0 ≤ is) (u8 : is ≤ 0) (l9 : 0 ≤ x9) (u9 : x9 ≤ 0) (l10 : 0 ≤ x10) (u10 : x10 ≤ 400) (e3 : S 480 14 = x9) (e1 : (bx_up S 480 14 1) 480 9 = x10) : (True) ∧ rxPSMUW S0 ws (bx_up (bx_up S 480 14 1) 480 13 x10) none := by
  obtain ⟨hI, hx⟩ := hinv
  obtain ⟨a_, c_⟩ := rxdMU_0_0 hP hin hin2 I0 I1 hI l8 u8 l9 u9 l10 u10 e3 e1
  exact ⟨a_, rfl, c_, ⟨(fun h0 hD => ⟨fun g => absurd g (by rw [show (bx_up (bx_up S 480 14 1) 480 13 x10) 480 14 = 1 from (bx_up_ne (by omega)).trans (bx_up_at)]; decide), fun _ => bx_up_at.trans ((e1.symm.trans (bx_up_ne (by omega))).trans (congrArg (fun z : Nat → Int → Int => z 480 9) hI.1))⟩), fun z => by
    have e := hI.1
    subst e
    omega⟩⟩
theorem rxfMUW_0_0 {X : (Nat → Int → Int) → Prop} {S0 : Nat → Int → Int} {ws : List Int} (hP : rxPMUW S0 ws) : bx_obE rxL X S0 rxCMUW.2.2.1 (rxIMUW S0 ws) (rxPSMUW S0 ws) 0 rxzMUW_0 rxeMUW_0_0 := by
  intro S S_p r r_p hinv hX hin hsm_ hseg
  obtain ⟨I0, I1, h0_, hr_, b_, f_, d_⟩ := bx_cl (evs := [(1, (0, 480), (0, 13), .inr (0, (10, 0))), (0, (0, 480), (0, 9), .inr (0, (10, 0))), (1, (0, 480), (0, 14), .inr (0, (0, 1))), (0, (0, 480), (0, 14), .inr (0, (9, 0)))]) (fvs := []) hseg (by decide +kernel) (by decide +kernel)
  have hinv : rxIMUW_0 S0 ws S (r 8) := hinv
  rw [← hr_ 8 (by decide)] at hinv
  obtain ⟨⟨l8, u8⟩, ⟨l9, u9⟩, ⟨l10, u10⟩, -⟩ := b_
  obtain ⟨T0, ⟨e1, ⟨T2, ⟨e3, w_⟩, w2⟩⟩, w0⟩ := d_
  subst w0
  subst w2
  subst w_
  have g := rxdMUW_0_0 hP hin hsm_ I0 I1 hinv l8 u8 l9 u9 l10 u10 e3 e1
  refine ⟨bx_narP_ok (l := []) g.1, ?_⟩
  exact g.2
theorem rxdMUW_0_1 {S0 : Nat → Int → Int} {ws : List Int} {S : Nat → Int → Int} {is x9 : Int} (hP : rxPMUW S0 ws) (hin : bx_same rxL (bx_mdl rxCMUW.2.2.1) S0 S) (hin2 : bx_same rxL (bx_mdl rxCMUW.2.2.1) S S) (I0 : bx_Inv rxL S) (I1 : bx_Inv rxL S) (hinv : rxIMUW_0 S0 ws S is) (l8 : 0 ≤ is) (u8 : is ≤ 1) (l9 : 1 ≤ x9) (u9 : x9 ≤ 1) (f0 : x9 ≠ 0) (e0 : S 480 14 = x9) : (True) ∧ rxPSMUW S0 ws S none := by
  obtain ⟨hI, hx⟩ := hinv
  obtain ⟨a_, c_⟩ := rxdMU_0_1 hP hin hin2 I0 I1 hI l8 u8 l9 u9 f0 e0
  exact ⟨a_, rfl, c_, ⟨(fun h0 hD => by
    have e := hI.1
    subst e
    omega), fun z => by
    have e := hI.1
    subst e
    exact ⟨z, rfl⟩⟩⟩
theorem rxfMUW_0_1 {X : (Nat → Int → Int) → Prop} {S0 : Nat → Int → Int} {ws : List Int} (hP : rxPMUW S0 ws) : bx_obE rxL X S0 rxCMUW.2.2.1 (rxIMUW S0 ws) (rxPSMUW S0 ws) 0 rxzMUW_0 rxeMUW_0_1 := by
  intro S S_p r r_p hinv hX hin hsm_ hseg
  obtain ⟨I0, I1, h0_, hr_, b_, f_, d_⟩ := bx_cl (evs := [(0, (0, 480), (0, 14), .inr (0, (9, 0)))]) (fvs := [(3, (9, 0), (0, 0), (0, 0))]) hseg (by decide +kernel) (by decide +kernel)
  have hinv : rxIMUW_0 S0 ws S (r 8) := hinv
  rw [← hr_ 8 (by decide)] at hinv
  obtain ⟨⟨l8, u8⟩, ⟨l9, u9⟩, -⟩ := b_
  obtain ⟨f0, -⟩ := f_
  obtain ⟨e0, w_⟩ := d_
  subst w_
  have g := rxdMUW_0_1 hP hin hsm_ I0 I1 hinv l8 u8 l9 u9 f0 e0
  refine ⟨bx_narP_ok (l := []) g.1, ?_⟩
  exact g.2
theorem rxdMUW_2_0 {S0 : Nat → Int → Int} {ws : List Int} {S : Nat → Int → Int} {is : Int} (hP : rxPMUW S0 ws) (hin : bx_same rxL (bx_mdl rxCMUW.2.2.1) S0 S) (hin2 : bx_same rxL (bx_mdl rxCMUW.2.2.1) S S) (I0 : bx_Inv rxL S) (I1 : bx_Inv rxL S) (hinv : rxIMUW_2 S0 ws S is) (l8 : 1 ≤ is) (u8 : is ≤ 1) : (True) ∧ rxPSMUW S0 ws S none := by
  obtain ⟨hI, hx⟩ := hinv
  obtain ⟨a_, c_⟩ := rxdMU_2_0 hP hin hin2 I0 I1 hI l8 u8
  exact ⟨a_, rfl, c_, ⟨(fun h0 hD => ⟨fun _ => hx hD, fun g => absurd hI.2.1 g⟩), fun z => absurd hI.1 z⟩⟩
theorem rxfMUW_2_0 {X : (Nat → Int → Int) → Prop} {S0 : Nat → Int → Int} {ws : List Int} (hP : rxPMUW S0 ws) : bx_obE rxL X S0 rxCMUW.2.2.1 (rxIMUW S0 ws) (rxPSMUW S0 ws) 2 rxzMUW_2 rxeMUW_2_0 := by
  intro S S_p r r_p hinv hX hin hsm_ hseg
  obtain ⟨I0, I1, h0_, hr_, b_, f_, d_⟩ := bx_cl (evs := []) (fvs := []) hseg (by decide +kernel) (by decide +kernel)
  have hinv : rxIMUW_2 S0 ws S (r 8) := hinv
  rw [← hr_ 8 (by decide)] at hinv
  obtain ⟨⟨l8, u8⟩, -⟩ := b_
  have w_ := d_
  subst w_
  have g := rxdMUW_2_0 hP hin hsm_ I0 I1 hinv l8 u8
  refine ⟨bx_narP_ok (l := []) g.1, ?_⟩
  exact g.2
theorem rxgCMUW {X : (Nat → Int → Int) → Prop} {S0 : Nat → Int → Int} {ws : List Int} (hP : rxPMUW S0 ws) : bx_allI (fun i q => rxUMUW q = true ∨ bx_allP (fun o => bx_obC rxL X S0 rxCMUW.2.2.1 (rxIMUW S0 ws) (rxmMUW S0 ws) i q.1 o) q.2.1) 0 rxYMUW := ⟨Or.inr ⟨rxgMUW_0_0 hP, trivial⟩, Or.inl rfl, Or.inr trivial, trivial⟩
theorem rxgEMUW {X : (Nat → Int → Int) → Prop} {S0 : Nat → Int → Int} {ws : List Int} (hP : rxPMUW S0 ws) : bx_allI (fun i q => rxUMUW q = true ∨ bx_allP (fun E => bx_obE rxL X S0 rxCMUW.2.2.1 (rxIMUW S0 ws) (rxPSMUW S0 ws) i q.1 E) q.2.2) 0 rxYMUW := ⟨Or.inr ⟨rxfMUW_0_0 hP, rxfMUW_0_1 hP, trivial⟩, Or.inl rfl, Or.inr ⟨rxfMUW_2_0 hP, trivial⟩, trivial⟩
theorem rxuMUW {PX : State → Prop} {Dg : va_G} {A : Nat → Prop} {ad xa : Nat → Nat} {l : Launch} {X : (Nat → Int → Int) → Prop} (hPX : rx_PXOK rxNW A PX) (hX : ∀ S S1 : Nat → Int → Int, X S → bx_same rxL (bx_mdl rxCMUW.2.2.1) S S1 → X S1) (hQNXX : bx_ConP rxG rxNW rxAO PX Dg rxL X vwCl A ad l rxM264 rxCNXX rxPNXX rxPSNXX) {S0 : Nat → Int → Int} {ws : List Int} (hP : rxPMUW S0 ws) : ∀ (i : Nat) (q : bx_HE), rxYMUW[i]? = some q → rxUMUW q = true → ∀ {p : Program} {e : Env} {R : Room} {s : State} {m : MethodId} {args : Array Value} {below : List Frame} {meth : Method} {c : Code} {Q : State → Prop} {H0 : Heap}, rx_Fr rxG rxNW rxAO PX p s m args meth c rxM265 → (∀ q, H0.size ≤ q → A q) → H0 = s.heap → rxM265.2.2.2.2.2.2.1 ≤ R.cells → rxM265.2.2.2.2.2.2.2 ≤ R.slots → rxCMUW.2.2.2.1 ≤ R.frames → rxCMUW.2.2.2.1 * 40 ≤ R.locals → bx_Step p l e R s m args below meth c Q Dg rxL X vwCl A xa H0 ad rxM265 rxYMUW (rxIMUW S0 ws) (rxmMUW S0 ws) S0 rxCMUW.2.2.1 i q := by
  intro i q hq hus p e R s m args below meth c Q H0 hF hA hH0 hmc hms hd hdl
  match i, hq with
  | 0, hq =>
    cases hq
    exact absurd (show false = true from hus) Bool.false_ne_true
  | 1, hq =>
    cases hq
    exact rx_stepC (ins := .invokevirtual 253) (len := 3) (i_p := 2) (M_p := rxM264) (d := rxCMUW.2.2.2.1) (as := [.inr (3, (0, 480))]) (t := []) (ct := rxCNXX) hPX hF rfl hA hH0 hmc hms hd hdl (by decide +kernel) rfl rfl (by decide +kernel) (by decide +kernel) hQNXX (by decide +kernel) rfl (Or.inl ⟨rfl, rfl, rfl⟩) (rxsMUW_1 hP)
  | 2, hq =>
    cases hq
    exact absurd (show false = true from hus) Bool.false_ne_true
  | n + 3, hq => cases hq
theorem rxQMUW {PX : State → Prop} {Dg : va_G} {A : Nat → Prop} {ad xa : Nat → Nat} {l : Launch} {X : (Nat → Int → Int) → Prop} (hPX : rx_PXOK rxNW A PX) (hsl : ∀ s : State, PX s → ∀ o idx n : Nat, rxSl o idx = some n → ∃ tx : String, vk_R (rxNm o) idx tx (ad n) s)
    (hX : ∀ S S_p : Nat → Int → Int, X S → bx_same rxL (bx_mdl rxCMUW.2.2.1) S S_p → X S_p)
    (ih : ∀ (j2 : Nat) (ct2 : bx_Ct) (M2 : rx_Mt), ct2 ∈ rxCnE j2 → ct2.2.2.2.1 + 1 ≤ rxCMUW.2.2.2.1 → rxT.2.2.2.2.2 j2 = some M2 → bx_Con rxG rxNW rxAO PX Dg rxL X vwCl A ad l M2 ct2) (hQNXX : bx_ConP rxG rxNW rxAO PX Dg rxL X vwCl A ad l rxM264 rxCNXX rxPNXX rxPSNXX) : bx_ConP rxG rxNW rxAO PX Dg rxL X vwCl A ad l rxM265 rxCMUW rxPMUW rxPSMUW :=
  rxQof (xa := xa) (Cn := rxCnE) (f := 30000) (j := 265) (tab := rxYMUW) (us := rxUMUW) hPX hsl hX ih rfl rxYcMUW rxIMUW rxmMUW
    (fun S0 ws r I0 I ht0 ht as he he1 hX0 hI0 hP hs ha => by
      have e := he.symm.trans (show bx_ent0 rxNP rxCMUW.1 bx_I0 [] = some ([(0, 0), (0, 0), (0, 0), (0, 0), (0, 0), (0, 0), (0, 0), (0, 0), (0, 1)], [], [.inr (3, (0, 480)), .inr (0, (8, 0))]) from rfl)
      cases e
      subst ha
      have h0 : r 0 = 0 := hs.1
      show rxIMUW_0 S0 _ S0 (r 8)
      refine ⟨⟨rfl, ?_⟩, trivial⟩
      simp only [List.map_cons, List.map_nil, bx_xv_ok h0]
      rfl)
    (fun S0 ws hP => rxuMUW (xa := xa) hPX hX hQNXX hP) (fun S0 ws hP => rxgCMUW hP) (fun S0 ws hP => rxgEMUW hP)
noncomputable def rxCOBW : bx_Ct := ([(3, (1, 480, 0)), (0, (0, 31, 32))], none, [(12, 9), (12, 10), (12, 11), (12, 12), (12, 13), (12, 14), (12, 24), (12, 25), (1070, 0), (1071, 0)], 3, [])
noncomputable def rxIOBW_0 (S0 : Nat → Int → Int) (ws : List Int) (S : Nat → Int → Int) (op : Int) : Prop := rxIOB_0 S0 ws S op ∧ True
noncomputable def rxmOBW_0 (S0 : Nat → Int → Int) (ws : List Int) (S : Nat → Int → Int) (op : Int) : Nat := rxmOB_0 S0 ws S op
noncomputable def rxzOBW_0 : rx_Z := ([(0, 0), (0, 0), (0, 0), (0, 0), (0, 0), (0, 0), (0, 0), (0, 0), (31, 32)], [], [], 0, 0, 0, [(0, .inr (3, (0, 480))), (1, .inr (0, (8, 0)))], [])
noncomputable def rxIOBW_1 (S0 : Nat → Int → Int) (ws : List Int) (S : Nat → Int → Int) (op is : Int) : Prop := rxIOB_1 S0 ws S op is ∧ (is = 0 → ¬ S0 480 25 < 8)
noncomputable def rxmOBW_1 (S0 : Nat → Int → Int) (ws : List Int) (S : Nat → Int → Int) (op is : Int) : Nat := rxmOB_1 S0 ws S op is
noncomputable def rxzOBW_1 : rx_Z := ([(0, 0), (0, 0), (0, 0), (0, 0), (0, 0), (0, 0), (0, 0), (0, 0), (31, 32), (0, 1)], [], [], 0, 0, 15, [(0, .inr (3, (0, 480))), (1, .inr (0, (8, 0)))], [.inr (0, (9, 0)), .inr (3, (0, 480))])
noncomputable def rxIOBW_2 (S0 : Nat → Int → Int) (ws : List Int) (S : Nat → Int → Int) (op is : Int) : Prop := rxIOB_2 S0 ws S op is ∧ (rzDq S0 → (S 480 14 = 0 → rzNw S0 S ∧ rzPl S0 S 0 0 0) ∧ (S 480 14 ≠ 0 → ¬ S0 480 25 < 8 ∧ S 480 13 = S0 480 9))
noncomputable def rxmOBW_2 (S0 : Nat → Int → Int) (ws : List Int) (S : Nat → Int → Int) (op is : Int) : Nat := rxmOB_2 S0 ws S op is
noncomputable def rxzOBW_2 : rx_Z := ([(0, 0), (0, 0), (0, 0), (0, 0), (0, 0), (0, 0), (0, 0), (0, 0), (31, 32), (0, 1)], [], [], 0, 0, 18, [(0, .inr (3, (0, 480))), (1, .inr (0, (8, 0)))], [])
noncomputable def rxIOBW_3 (S0 : Nat → Int → Int) (ws : List Int) (S : Nat → Int → Int) (op q : Int) : Prop := rxIOB_3 S0 ws S op q ∧ (rzDq S0 → S0 480 25 < 8 ∧ rzNw S0 S ∧ rzPl S0 S 0 0 0)
noncomputable def rxmOBW_3 (S0 : Nat → Int → Int) (ws : List Int) (S : Nat → Int → Int) (op q : Int) : Nat := rxmOB_3 S0 ws S op q
noncomputable def rxzOBW_3 : rx_Z := ([(0, 0), (0, 0), (0, 0), (0, 0), (0, 0), (0, 0), (0, 0), (0, 0), (31, 32), (0, 7)], [], [], 0, 0, 30, [(0, .inr (3, (0, 480))), (1, .inr (0, (8, 0)))], [.inr (0, (9, 0)), .inr (3, (0, 480))])
noncomputable def rxIOBW_4 (S0 : Nat → Int → Int) (ws : List Int) (S : Nat → Int → Int) (op op2 : Int) : Prop := rxIOB_4 S0 ws S op op2 ∧ (rzDq S0 → S0 480 25 < 8 ∧ rzNw S0 S ∧ rzPl S0 S 0 1 0)
noncomputable def rxmOBW_4 (S0 : Nat → Int → Int) (ws : List Int) (S : Nat → Int → Int) (op op2 : Int) : Nat := rxmOB_4 S0 ws S op op2
noncomputable def rxzOBW_4 : rx_Z := ([(0, 0), (0, 0), (0, 0), (0, 0), (0, 0), (0, 0), (0, 0), (0, 0), (31, 32), (31, 32)], [], [], 0, 0, 38, [(0, .inr (3, (0, 480))), (1, .inr (0, (8, 0)))], [.inr (0, (0, 0)), .inr (0, (9, 0)), .inr (3, (0, 480))])
noncomputable def rxIOBW_5 (S0 : Nat → Int → Int) (ws : List Int) (S : Nat → Int → Int) (op op2 : Int) : Prop := rxIOB_5 S0 ws S op op2 ∧ (S 480 14 = 0 ∧ (rzDq S0 → S0 480 25 < 8 ∧ rzNw S0 S ∧ rzPl S0 S 1 1 0 ∧ S 489 (S0 480 24) = op))
noncomputable def rxmOBW_5 (S0 : Nat → Int → Int) (ws : List Int) (S : Nat → Int → Int) (op op2 : Int) : Nat := rxmOB_5 S0 ws S op op2
noncomputable def rxzOBW_5 : rx_Z := ([(0, 0), (0, 0), (0, 0), (0, 0), (0, 0), (0, 0), (0, 0), (0, 0), (31, 32), (31, 32)], [], [], 0, 0, 41, [(0, .inr (3, (0, 480))), (1, .inr (0, (8, 0)))], [])
noncomputable def rxoOBW_0_0 : bx_HO := (([(0, 0), (0, 0), (0, 0), (0, 0), (0, 0), (0, 0), (0, 0), (0, 0), (31, 32), (0, 7)], [], [(((0, 0), 1851192626986356802442008000046409524956554626371924516682072064000000), .inr (0, (9, 0))), (((0, 480), 25), .inr (0, (9, 0)))], 0, 0, 15, [(0, .inr (3, (0, 480))), (1, .inr (0, (8, 0)))], [.inr (0, (0, 1)), .inr (3, (0, 480))]), [], [], [(0, 0), (0, 0), (0, 0), (0, 0), (0, 0), (0, 0), (0, 0), (0, 0), (8, 0), (0, 1)], 1)
noncomputable def rxoOBW_0_1 : bx_HO := (([(0, 0), (0, 0), (0, 0), (0, 0), (0, 0), (0, 0), (0, 0), (0, 0), (31, 32), (8, 8)], [], [(((0, 0), 1851192626986356802442008000046409524956554626371924516682072064000000), .inr (0, (9, 0))), (((0, 480), 25), .inr (0, (9, 0)))], 0, 0, 15, [(0, .inr (3, (0, 480))), (1, .inr (0, (8, 0)))], [.inr (0, (0, 0)), .inr (3, (0, 480))]), [], [], [(0, 0), (0, 0), (0, 0), (0, 0), (0, 0), (0, 0), (0, 0), (0, 0), (8, 0), (0, 0)], 1)
noncomputable def rxoOBW_2_0 : bx_HO := (([(0, 0), (0, 0), (0, 0), (0, 0), (0, 0), (0, 0), (0, 0), (0, 0), (31, 32), (0, 1), (0, 0), (0, 8)], [], [(((0, 0), 1851192626986356802442008000046409524956554626371924516682072064000000), .inr (0, (11, 0))), (((0, 480), 25), .inr (0, (11, 0))), (((0, 0), 1851192626986356800234234225391877833944518517379736727590010880000000), .inr (0, (10, 0))), (((0, 480), 14), .inr (0, (10, 0)))], 0, 0, 30, [(0, .inr (3, (0, 480))), (1, .inr (0, (8, 0)))], [.inr (0, (11, 0)), .inr (3, (0, 480))]), [(11, 0, 7)], [], [(0, 0), (0, 0), (0, 0), (0, 0), (0, 0), (0, 0), (0, 0), (0, 0), (8, 0), (11, 0)], 3)
noncomputable def rxeOBW_2_0 : rx_End × List (Nat × Int × Int) := (([(0, 0), (0, 0), (0, 0), (0, 0), (0, 0), (0, 0), (0, 0), (0, 0), (31, 32), (0, 1), (1, 1)], [(3, (10, 0), (0, 0))], [(((0, 0), 1851192626986356800234234225391877833944518517379736727590010880000000), .inr (0, (10, 0))), (((0, 480), 14), .inr (0, (10, 0)))], none), [])
noncomputable def rxoOBW_3_0 : bx_HO := (([(0, 0), (0, 0), (0, 0), (0, 0), (0, 0), (0, 0), (0, 0), (0, 0), (31, 32), (0, 7)], [], [(((0, 0), 1851192626986356802442008000046409524956554626371924516682072067000000), .inr (0, (9, 1))), (((0, 480), 25), .inr (0, (9, 1)))], 0, 0, 38, [(0, .inr (3, (0, 480))), (1, .inr (0, (8, 0)))], [.inr (0, (0, 0)), .inr (0, (8, 0)), .inr (3, (0, 480))]), [], [], [(0, 0), (0, 0), (0, 0), (0, 0), (0, 0), (0, 0), (0, 0), (0, 0), (8, 0), (8, 0)], 4)
noncomputable def rxeOBW_5_0 : rx_End × List (Nat × Int × Int) := (([(0, 0), (0, 0), (0, 0), (0, 0), (0, 0), (0, 0), (0, 0), (0, 0), (31, 32), (31, 32)], [], [], none), [])
noncomputable def rxYOBW : List bx_HE := [(rxzOBW_0, [rxoOBW_0_0, rxoOBW_0_1], []), (rxzOBW_1, [], []), (rxzOBW_2, [rxoOBW_2_0], [rxeOBW_2_0]), (rxzOBW_3, [rxoOBW_3_0], []), (rxzOBW_4, [], []), (rxzOBW_5, [], [rxeOBW_5_0])]
noncomputable def rxUOBW (q : bx_HE) : Bool := Nat.beq (rx_zpc q.1) 15 || Nat.beq (rx_zpc q.1) 38
noncomputable def rxYBOBW : bx_B := (rxV, rxNP, rxDmf, bx_mdH rxCOBW.2.2.1)
set_option maxRecDepth 100000 in
theorem rxYcOBW : bx_chkH rxYBOBW rxM270 rxCOBW rxYOBW (rxUOBW, fun cut z => rx_ex2 (rxCT rxYBOBW rxCnE) cut 30000 rxCOBW.2.2.2.1 270 z) = true := by decide +kernel
noncomputable def rxIOBW (S0 : Nat → Int → Int) (ws : List Int) (i : Nat) : bx_SP := fun S r => match i with | 0 => rxIOBW_0 S0 ws S (r 8) | 1 => rxIOBW_1 S0 ws S (r 8) (r 9) | 2 => rxIOBW_2 S0 ws S (r 8) (r 9) | 3 => rxIOBW_3 S0 ws S (r 8) (r 9) | 4 => rxIOBW_4 S0 ws S (r 8) (r 9) | 5 => rxIOBW_5 S0 ws S (r 8) (r 9) | _ => False
noncomputable def rxmOBW (S0 : Nat → Int → Int) (ws : List Int) (i : Nat) (S : Nat → Int → Int) (r : Nat → Int) : Nat := match i with | 0 => rxmOBW_0 S0 ws S (r 8) | 1 => rxmOBW_1 S0 ws S (r 8) (r 9) | 2 => rxmOBW_2 S0 ws S (r 8) (r 9) | 3 => rxmOBW_3 S0 ws S (r 8) (r 9) | 4 => rxmOBW_4 S0 ws S (r 8) (r 9) | 5 => rxmOBW_5 S0 ws S (r 8) (r 9) | _ => 0
noncomputable def rxPOBW (S0 : Nat → Int → Int) (ws : List Int) : Prop := rxPOB S0 ws
noncomputable def rxPSOBW (S0 : Nat → Int → Int) (ws : List Int) (S : Nat → Int → Int) (w : Option Int) : Prop := w = none ∧ rxPSOB S0 ws S w ∧ (rzDq S0 → (S 480 14 = 0 → S0 480 25 < 8 ∧ rzNw S0 S ∧ rzPl S0 S 1 1 0 ∧ ∃ op : Int, ws = [480, op] ∧ S 489 (S0 480 24) = op) ∧ (S 480 14 ≠ 0 → ¬ S0 480 25 < 8 ∧ S 480 13 = S0 480 9))
theorem rxkOBW_1 {S0 : Nat → Int → Int} {ws : List Int} {S : Nat → Int → Int} {op is : Int} (hP : rxPOBW S0 ws) (hin : bx_same rxL (bx_mdl rxCOBW.2.2.1) S0 S) (I0 : bx_Inv rxL S) (hinv : rxIOBW_1 S0 ws S op is) (l8 : 31 ≤ op) (u8 : op ≤ 32) (l9 : 0 ≤ is) (u9 : is ≤ 1) : rxPMUW S [480, is] ∧ ∀ (S_p : Nat → Int → Int), rxPSMUW S [480, is] S_p none → bx_Inv rxL S_p → bx_same rxL (bx_mdl rxCMUW.2.2.1) S S_p → rxIOBW_2 S0 ws S_p op is ∧ rxmOBW_2 S0 ws S_p op is < rxmOBW_1 S0 ws S op is := by
  obtain ⟨hI, hx⟩ := hinv
  have g_ := rxkOB_1 hP hin I0 hI l8 u8 l9 u9
  exact ⟨g_.1, fun S_p hq I1 hsm => ⟨⟨(g_.2 S_p hq.2.1 I1 hsm).1, (fun hD => by
    have e := hI.1
    subst e
    have g := hq.2.2.1 hP.2.1 hD
    obtain ⟨-, -, is2, hw2, hc⟩ := hq.2.1
    have he : is = is2 := Option.some.inj (congrArg (fun l : List Int => l[1]?) hw2)
    have p14 := hP.2.1
    exact ⟨fun z => ⟨g.1 z, rzPl_of hsm (rxBox24 I0).2 (by decide +kernel)⟩, fun z => ⟨hx (by omega), g.2 z⟩⟩)⟩, (g_.2 S_p hq.2.1 I1 hsm).2⟩⟩
theorem rxsOBW_1 {X : (Nat → Int → Int) → Prop} {S0 : Nat → Int → Int} {ws : List Int} (hP : rxPOBW S0 ws) : rx_obK X S0 rxCOBW.2.2.1 rxCMUW.2.2.1 (rxIOBW S0 ws) (rxmOBW S0 ws) 1 2 rxzOBW_1 rxzOBW_2 [.inr (3, (0, 480)), .inr (0, (9, 0))] none rxPMUW rxPSMUW := by
  intro S r hinv hXS I0 hin hs_ hf_
  have b_ := bx_bds_sat hs_
  have f_ := bx_fcl_ok hs_.1 hf_
  obtain ⟨⟨l8, u8⟩, ⟨l9, u9⟩, -⟩ := b_
  have g := rxkOBW_1 hP hin I0 hinv l8 u8 l9 u9
  have ea : List.map (bx_num r) [.inr (3, (0, 480)), .inr (0, (9, 0))] = [480, (r 9)] := by
    simp only [List.map_cons, List.map_nil, bx_xv_ok hs_.1]
    rfl
  rw [ea]
  refine ⟨g.1, fun S_p w r_p hPS hX_p I1 hsm hr hw hs_p => ?_⟩
  have hw : w = none := hPS.1
  subst hw
  have g2 := g.2 S_p hPS I1 hsm
  show rxIOBW_2 S0 ws S_p (r_p 8) (r_p 9) ∧ rxmOBW_2 S0 ws S_p (r_p 8) (r_p 9) < _
  rw [hr 8 (by decide), hr 9 (by decide)]
  exact g2
theorem rxkOBW_4 {S0 : Nat → Int → Int} {ws : List Int} {S : Nat → Int → Int} {op op2 : Int} (hP : rxPOBW S0 ws) (hin : bx_same rxL (bx_mdl rxCOBW.2.2.1) S0 S) (I0 : bx_Inv rxL S) (hinv : rxIOBW_4 S0 ws S op op2) (l8 : 31 ≤ op) (u8 : op ≤ 32) (l9 : 31 ≤ op2) (u9 : op2 ≤ 32) : rxPPU S [480, op2, 0] ∧ ∀ (S_p : Nat → Int → Int), rxPSPU S [480, op2, 0] S_p none → bx_Inv rxL S_p → bx_same rxL (bx_mdl rxCPU.2.2.1) S S_p → rxIOBW_5 S0 ws S_p op op2 ∧ rxmOBW_5 S0 ws S_p op op2 < rxmOBW_4 S0 ws S op op2 := by
  obtain ⟨hI, hx⟩ := hinv
  have g_ := rxkOB_4 hP hin I0 hI l8 u8 l9 u9
  exact ⟨g_.1, fun S_p hq I1 hsm => ⟨⟨(g_.2 S_p hq I1 hsm).1, (by
    obtain ⟨ho, hw, S1, e1, -, -, z14, -⟩ := hI
    obtain ⟨-, o2, a2, hw3, e3⟩ := hq
    have he : op2 = o2 := Option.some.inj (congrArg (fun l : List Int => l[1]?) hw3)
    have r := rzPl_pu (S := S) (o := o2) (a := a2)
    rw [← e3] at r
    refine ⟨r.2.2.trans (by rw [e1]; exact (bx_up_ne (by omega)).trans z14), fun hD => ?_⟩
    have g := hx hD
    have p := g.2.2.tr r.1 (by omega)
    refine ⟨g.1, rzNw_c g.2.1 (rzKr_of hsm (by decide +kernel)) (rzTs_of hsm (by decide +kernel)), p, ?_⟩
    have q := g.2.2.1
    rw [show S0 480 24 = S 480 24 by omega, r.2.1]
    omega)⟩, (g_.2 S_p hq I1 hsm).2⟩⟩
theorem rxsOBW_4 {X : (Nat → Int → Int) → Prop} {S0 : Nat → Int → Int} {ws : List Int} (hP : rxPOBW S0 ws) : rx_obK X S0 rxCOBW.2.2.1 rxCPU.2.2.1 (rxIOBW S0 ws) (rxmOBW S0 ws) 4 5 rxzOBW_4 rxzOBW_5 [.inr (3, (0, 480)), .inr (0, (9, 0)), .inr (0, (0, 0))] none rxPPU rxPSPU := by
  intro S r hinv hXS I0 hin hs_ hf_
  have b_ := bx_bds_sat hs_
  have f_ := bx_fcl_ok hs_.1 hf_
  obtain ⟨⟨l8, u8⟩, ⟨l9, u9⟩, -⟩ := b_
  have g := rxkOBW_4 hP hin I0 hinv l8 u8 l9 u9
  have ea : List.map (bx_num r) [.inr (3, (0, 480)), .inr (0, (9, 0)), .inr (0, (0, 0))] = [480, (r 9), 0] := by
    simp only [List.map_cons, List.map_nil, bx_xv_ok hs_.1]
    rfl
  rw [ea]
  refine ⟨g.1, fun S_p w r_p hPS hX_p I1 hsm hr hw hs_p => ?_⟩
  have hw : w = none := hPS.1
  subst hw
  have g2 := g.2 S_p hPS I1 hsm
  show rxIOBW_5 S0 ws S_p (r_p 8) (r_p 9) ∧ rxmOBW_5 S0 ws S_p (r_p 8) (r_p 9) < _
  rw [hr 8 (by decide), hr 9 (by decide)]
  exact g2
theorem rxcOBW_0_0 {S0 : Nat → Int → Int} {ws : List Int} {S : Nat → Int → Int} {op x9 : Int} (hP : rxPOBW S0 ws) (hin : bx_same rxL (bx_mdl rxCOBW.2.2.1) S0 S) (I0 : bx_Inv rxL S) (hinv : rxIOBW_0 S0 ws S op) (l8 : 31 ≤ op) (u8 : op ≤ 32) (l9 : 0 ≤ x9) (u9 : x9 ≤ 7) (e0 : S 480 25 = x9) : (True) ∧ (True) ∧ rxIOBW_1 S0 ws S op 1 ∧ rxmOBW_1 S0 ws S op 1 < rxmOBW_0 S0 ws S op := by
  obtain ⟨hI, hx⟩ := hinv
  obtain ⟨a_, b_, c_, d_⟩ := rxcOB_0_0 hP hin I0 hI l8 u8 l9 u9 e0
  exact ⟨a_, b_, ⟨c_, (fun h => by
    have e := hI.1
    subst e
    omega)⟩, d_⟩
theorem rxgOBW_0_0 {X : (Nat → Int → Int) → Prop} {S0 : Nat → Int → Int} {ws : List Int} (hP : rxPOBW S0 ws) : bx_obC rxL X S0 rxCOBW.2.2.1 (rxIOBW S0 ws) (rxmOBW S0 ws) 0 rxzOBW_0 rxoOBW_0_0 := by
  intro S S_p r r_p hinv hX hin hsm_ hseg
  obtain ⟨I0, I1, h0_, hr_, b_, f_, d_⟩ := bx_cl (evs := [(0, (0, 480), (0, 25), .inr (0, (9, 0)))]) (fvs := []) hseg (by decide +kernel) (by decide +kernel)
  have hinv : rxIOBW_0 S0 ws S (r 8) := hinv
  rw [← hr_ 8 (by decide)] at hinv
  obtain ⟨⟨l8, u8⟩, ⟨l9, u9⟩, -⟩ := b_
  obtain ⟨e0, w_⟩ := d_
  subst w_
  have g := rxcOBW_0_0 hP hin I0 hinv l8 u8 l9 u9 e0
  refine ⟨bx_narP_ok (l := []) g.1, bx_nfP_ok h0_ (fvs := []) (by decide +kernel) g.2.1, ?_, ?_⟩
  · show rxIOBW_1 S0 ws S_p (bx_val [(0, 0), (0, 0), (0, 0), (0, 0), (0, 0), (0, 0), (0, 0), (0, 0), (8, 0), (0, 1)] r_p 8) (bx_val [(0, 0), (0, 0), (0, 0), (0, 0), (0, 0), (0, 0), (0, 0), (0, 0), (8, 0), (0, 1)] r_p 9)
    rw [bx_val_x (n := 8) (e := (8, 0)) h0_ rfl, bx_val_x (n := 9) (e := (0, 1)) h0_ rfl]
    exact g.2.2.1
  · show rxmOBW_1 S0 ws S_p (bx_val [(0, 0), (0, 0), (0, 0), (0, 0), (0, 0), (0, 0), (0, 0), (0, 0), (8, 0), (0, 1)] r_p 8) (bx_val [(0, 0), (0, 0), (0, 0), (0, 0), (0, 0), (0, 0), (0, 0), (0, 0), (8, 0), (0, 1)] r_p 9) < rxmOBW_0 S0 ws S_p (r 8)
    rw [bx_val_x (n := 8) (e := (8, 0)) h0_ rfl, bx_val_x (n := 9) (e := (0, 1)) h0_ rfl, ← hr_ 8 (by decide)]
    exact g.2.2.2
theorem rxcOBW_0_1 {S0 : Nat → Int → Int} {ws : List Int} {S : Nat → Int → Int} {op x9 : Int} (hP : rxPOBW S0 ws) (hin : bx_same rxL (bx_mdl rxCOBW.2.2.1) S0 S) (I0 : bx_Inv rxL S) (hinv : rxIOBW_0 S0 ws S op) (l8 : 31 ≤ op) (u8 : op ≤ 32) (l9 : 8 ≤ x9) (u9 : x9 ≤ 8) (e0 : S 480 25 = x9) : (True) ∧ (True) ∧ rxIOBW_1 S0 ws S op 0 ∧ rxmOBW_1 S0 ws S op 0 < rxmOBW_0 S0 ws S op := by
  obtain ⟨hI, hx⟩ := hinv
  obtain ⟨a_, b_, c_, d_⟩ := rxcOB_0_1 hP hin I0 hI l8 u8 l9 u9 e0
  exact ⟨a_, b_, ⟨c_, (fun h => by
    have e := hI.1
    subst e
    omega)⟩, d_⟩
theorem rxgOBW_0_1 {X : (Nat → Int → Int) → Prop} {S0 : Nat → Int → Int} {ws : List Int} (hP : rxPOBW S0 ws) : bx_obC rxL X S0 rxCOBW.2.2.1 (rxIOBW S0 ws) (rxmOBW S0 ws) 0 rxzOBW_0 rxoOBW_0_1 := by
  intro S S_p r r_p hinv hX hin hsm_ hseg
  obtain ⟨I0, I1, h0_, hr_, b_, f_, d_⟩ := bx_cl (evs := [(0, (0, 480), (0, 25), .inr (0, (9, 0)))]) (fvs := []) hseg (by decide +kernel) (by decide +kernel)
  have hinv : rxIOBW_0 S0 ws S (r 8) := hinv
  rw [← hr_ 8 (by decide)] at hinv
  obtain ⟨⟨l8, u8⟩, ⟨l9, u9⟩, -⟩ := b_
  obtain ⟨e0, w_⟩ := d_
  subst w_
  have g := rxcOBW_0_1 hP hin I0 hinv l8 u8 l9 u9 e0
  refine ⟨bx_narP_ok (l := []) g.1, bx_nfP_ok h0_ (fvs := []) (by decide +kernel) g.2.1, ?_, ?_⟩
  · show rxIOBW_1 S0 ws S_p (bx_val [(0, 0), (0, 0), (0, 0), (0, 0), (0, 0), (0, 0), (0, 0), (0, 0), (8, 0), (0, 0)] r_p 8) (bx_val [(0, 0), (0, 0), (0, 0), (0, 0), (0, 0), (0, 0), (0, 0), (0, 0), (8, 0), (0, 0)] r_p 9)
    rw [bx_val_x (n := 8) (e := (8, 0)) h0_ rfl, bx_val_x (n := 9) (e := (0, 0)) h0_ rfl]
    exact g.2.2.1
  · show rxmOBW_1 S0 ws S_p (bx_val [(0, 0), (0, 0), (0, 0), (0, 0), (0, 0), (0, 0), (0, 0), (0, 0), (8, 0), (0, 0)] r_p 8) (bx_val [(0, 0), (0, 0), (0, 0), (0, 0), (0, 0), (0, 0), (0, 0), (0, 0), (8, 0), (0, 0)] r_p 9) < rxmOBW_0 S0 ws S_p (r 8)
    rw [bx_val_x (n := 8) (e := (8, 0)) h0_ rfl, bx_val_x (n := 9) (e := (0, 0)) h0_ rfl, ← hr_ 8 (by decide)]
    exact g.2.2.2
theorem rxcOBW_2_0 {S0 : Nat → Int → Int} {ws : List Int} {S : Nat → Int → Int} {op is x10 x11 : Int} (hP : rxPOBW S0 ws) (hin : bx_same rxL (bx_mdl rxCOBW.2.2.1) S0 S) (I0 : bx_Inv rxL S) (hinv : rxIOBW_2 S0 ws S op is) (l8 : 31 ≤ op) (u8 : op ≤ 32) (l9 : 0 ≤ is) (u9 : is ≤ 1) (l10 : 0 ≤ x10) (u10 : x10 ≤ 0) (l11 : 0 ≤ x11) (u11 : x11 ≤ 8) (e1 : S 480 14 = x10) (e0 : S 480 25 = x11) : ((0 ≤ x11 ∧ x11 ≤ 7) ∧ True) ∧ (True) ∧ rxIOBW_3 S0 ws S op x11 ∧ rxmOBW_3 S0 ws S op x11 < rxmOBW_2 S0 ws S op is := by
  obtain ⟨hI, hx⟩ := hinv
  obtain ⟨a_, b_, c_, d_⟩ := rxcOB_2_0 hP hin I0 hI l8 u8 l9 u9 l10 u10 l11 u11 e1 e0
  exact ⟨a_, b_, ⟨c_, (fun hD => by
    have z : S 480 14 = 0 := by omega
    have g := (hx hD).1 z
    have o := (hI.2.2.2.1 z).1
    have p := g.2.2.1
    exact ⟨by omega, g⟩)⟩, d_⟩
theorem rxgOBW_2_0 {X : (Nat → Int → Int) → Prop} {S0 : Nat → Int → Int} {ws : List Int} (hP : rxPOBW S0 ws) : bx_obC rxL X S0 rxCOBW.2.2.1 (rxIOBW S0 ws) (rxmOBW S0 ws) 2 rxzOBW_2 rxoOBW_2_0 := by
  intro S S_p r r_p hinv hX hin hsm_ hseg
  obtain ⟨I0, I1, h0_, hr_, b_, f_, d_⟩ := bx_cl (evs := [(0, (0, 480), (0, 25), .inr (0, (11, 0))), (0, (0, 480), (0, 14), .inr (0, (10, 0)))]) (fvs := []) hseg (by decide +kernel) (by decide +kernel)
  have hinv : rxIOBW_2 S0 ws S (r 8) (r 9) := hinv
  rw [← hr_ 8 (by decide), ← hr_ 9 (by decide)] at hinv
  obtain ⟨⟨l8, u8⟩, ⟨l9, u9⟩, ⟨l10, u10⟩, ⟨l11, u11⟩, -⟩ := b_
  obtain ⟨e0, ⟨e1, w_⟩⟩ := d_
  subst w_
  have g := rxcOBW_2_0 hP hin I0 hinv l8 u8 l9 u9 l10 u10 l11 u11 e1 e0
  refine ⟨bx_narP_ok (l := [(11, 0, 7)]) g.1, bx_nfP_ok h0_ (fvs := []) (by decide +kernel) g.2.1, ?_, ?_⟩
  · show rxIOBW_3 S0 ws S_p (bx_val [(0, 0), (0, 0), (0, 0), (0, 0), (0, 0), (0, 0), (0, 0), (0, 0), (8, 0), (11, 0)] r_p 8) (bx_val [(0, 0), (0, 0), (0, 0), (0, 0), (0, 0), (0, 0), (0, 0), (0, 0), (8, 0), (11, 0)] r_p 9)
    rw [bx_val_x (n := 8) (e := (8, 0)) h0_ rfl, bx_val_x (n := 9) (e := (11, 0)) h0_ rfl]
    exact g.2.2.1
  · show rxmOBW_3 S0 ws S_p (bx_val [(0, 0), (0, 0), (0, 0), (0, 0), (0, 0), (0, 0), (0, 0), (0, 0), (8, 0), (11, 0)] r_p 8) (bx_val [(0, 0), (0, 0), (0, 0), (0, 0), (0, 0), (0, 0), (0, 0), (0, 0), (8, 0), (11, 0)] r_p 9) < rxmOBW_2 S0 ws S_p (r 8) (r 9)
    rw [bx_val_x (n := 8) (e := (8, 0)) h0_ rfl, bx_val_x (n := 9) (e := (11, 0)) h0_ rfl, ← hr_ 8 (by decide), ← hr_ 9 (by decide)]
    exact g.2.2.2
theorem rxdOBW_2_0 {S0 : Nat → Int → Int} {ws : List Int} {S : Nat → Int → Int} {op is x10 : Int} (hP : rxPOBW S0 ws) (hin : bx_same rxL (bx_mdl rxCOBW.2.2.1) S0 S) (hin2 : bx_same rxL (bx_mdl rxCOBW.2.2.1) S S) (I0 : bx_Inv rxL S) (I1 : bx_Inv rxL S) (hinv : rxIOBW_2 S0 ws S op is) (l8 : 31 ≤ op) (u8 : op ≤ 32) (l9 : 0 ≤ is) (u9 : is ≤ 1) (l10 : 1 ≤ x10) (u10 : x10 ≤ 1) (f0 : x10 ≠ 0) (e0 : S 480 14 = x10) : (True) ∧ rxPSOBW S0 ws S none := by
  obtain ⟨hI, hx⟩ := hinv
  obtain ⟨a_, c_⟩ := rxdOB_2_0 hP hin hin2 I0 I1 hI l8 u8 l9 u9 l10 u10 f0 e0
  exact ⟨a_, rfl, c_, (fun hD => ⟨fun z => absurd z (by omega), fun z => (hx hD).2 z⟩)⟩
theorem rxfOBW_2_0 {X : (Nat → Int → Int) → Prop} {S0 : Nat → Int → Int} {ws : List Int} (hP : rxPOBW S0 ws) : bx_obE rxL X S0 rxCOBW.2.2.1 (rxIOBW S0 ws) (rxPSOBW S0 ws) 2 rxzOBW_2 rxeOBW_2_0 := by
  intro S S_p r r_p hinv hX hin hsm_ hseg
  obtain ⟨I0, I1, h0_, hr_, b_, f_, d_⟩ := bx_cl (evs := [(0, (0, 480), (0, 14), .inr (0, (10, 0)))]) (fvs := [(3, (10, 0), (0, 0), (0, 0))]) hseg (by decide +kernel) (by decide +kernel)
  have hinv : rxIOBW_2 S0 ws S (r 8) (r 9) := hinv
  rw [← hr_ 8 (by decide), ← hr_ 9 (by decide)] at hinv
  obtain ⟨⟨l8, u8⟩, ⟨l9, u9⟩, ⟨l10, u10⟩, -⟩ := b_
  obtain ⟨f0, -⟩ := f_
  obtain ⟨e0, w_⟩ := d_
  subst w_
  have g := rxdOBW_2_0 hP hin hsm_ I0 I1 hinv l8 u8 l9 u9 l10 u10 f0 e0
  refine ⟨bx_narP_ok (l := []) g.1, ?_⟩
  exact g.2
theorem rxcOBW_3_0 {S0 : Nat → Int → Int} {ws : List Int} {S : Nat → Int → Int} {op q : Int} (hP : rxPOBW S0 ws) (hin : bx_same rxL (bx_mdl rxCOBW.2.2.1) S0 S) (I0 : bx_Inv rxL S) (hinv : rxIOBW_3 S0 ws S op q) (l8 : 31 ≤ op) (u8 : op ≤ 32) (l9 : 0 ≤ q) (u9 : q ≤ 7) : (True) ∧ (True) ∧ rxIOBW_4 S0 ws (bx_up S 480 25 (q + 1)) op op ∧ rxmOBW_4 S0 ws (bx_up S 480 25 (q + 1)) op op < rxmOBW_3 S0 ws S op q := by
  obtain ⟨hI, hx⟩ := hinv
  obtain ⟨a_, b_, c_, d_⟩ := rxcOB_3_0 hP hin I0 hI l8 u8 l9 u9
  exact ⟨a_, b_, ⟨c_, (fun hD => by
    have g := hx hD
    obtain ⟨p1, p2, p3, p4⟩ := g.2.2
    have hq := hI.2.1
    exact ⟨g.1, rzNw_c g.2.1 ⟨congrArg rzCut (funext fun _ => (bx_up_ne (by omega))), (bx_up_ne (by omega)), (bx_up_ne (by omega)), (bx_up_ne (by omega)), fun c => rzCk_c c (funext fun _ => (bx_up_ne (by omega))) (funext fun _ => (bx_up_ne (by omega)))⟩ ⟨(bx_up_ne (by omega)), (bx_up_ne (by omega)), (bx_up_ne (by omega)), (bx_up_ne (by omega))⟩, ((bx_up_ne (by omega))).trans p1, (bx_up_at).trans (by omega), ((bx_up_ne (by omega))).trans p3, fun j a b => ((bx_up_ne (by omega))).trans (p4 j a b)⟩)⟩, d_⟩
theorem rxgOBW_3_0 {X : (Nat → Int → Int) → Prop} {S0 : Nat → Int → Int} {ws : List Int} (hP : rxPOBW S0 ws) : bx_obC rxL X S0 rxCOBW.2.2.1 (rxIOBW S0 ws) (rxmOBW S0 ws) 3 rxzOBW_3 rxoOBW_3_0 := by
  intro S S_p r r_p hinv hX hin hsm_ hseg
  obtain ⟨I0, I1, h0_, hr_, b_, f_, d_⟩ := bx_cl (evs := [(1, (0, 480), (0, 25), .inr (0, (9, 1)))]) (fvs := []) hseg (by decide +kernel) (by decide +kernel)
  have hinv : rxIOBW_3 S0 ws S (r 8) (r 9) := hinv
  rw [← hr_ 8 (by decide), ← hr_ 9 (by decide)] at hinv
  obtain ⟨⟨l8, u8⟩, ⟨l9, u9⟩, -⟩ := b_
  obtain ⟨T0, w_, w0⟩ := d_
  subst w0
  subst w_
  have g := rxcOBW_3_0 hP hin I0 hinv l8 u8 l9 u9
  refine ⟨bx_narP_ok (l := []) g.1, bx_nfP_ok h0_ (fvs := []) (by decide +kernel) g.2.1, ?_, ?_⟩
  · show rxIOBW_4 S0 ws (bx_up T0 480 (25) (r_p 9 + 1)) (bx_val [(0, 0), (0, 0), (0, 0), (0, 0), (0, 0), (0, 0), (0, 0), (0, 0), (8, 0), (8, 0)] r_p 8) (bx_val [(0, 0), (0, 0), (0, 0), (0, 0), (0, 0), (0, 0), (0, 0), (0, 0), (8, 0), (8, 0)] r_p 9)
    rw [bx_val_x (n := 8) (e := (8, 0)) h0_ rfl, bx_val_x (n := 9) (e := (8, 0)) h0_ rfl]
    exact g.2.2.1
  · show rxmOBW_4 S0 ws (bx_up T0 480 (25) (r_p 9 + 1)) (bx_val [(0, 0), (0, 0), (0, 0), (0, 0), (0, 0), (0, 0), (0, 0), (0, 0), (8, 0), (8, 0)] r_p 8) (bx_val [(0, 0), (0, 0), (0, 0), (0, 0), (0, 0), (0, 0), (0, 0), (0, 0), (8, 0), (8, 0)] r_p 9) < rxmOBW_3 S0 ws T0 (r 8) (r 9)
    rw [bx_val_x (n := 8) (e := (8, 0)) h0_ rfl, bx_val_x (n := 9) (e := (8, 0)) h0_ rfl, ← hr_ 8 (by decide), ← hr_ 9 (by decide)]
    exact g.2.2.2
theorem rxdOBW_5_0 {S0 : Nat → Int → Int} {ws : List Int} {S : Nat → Int → Int} {op op2 : Int} (hP : rxPOBW S0 ws) (hin : bx_same rxL (bx_mdl rxCOBW.2.2.1) S0 S) (hin2 : bx_same rxL (bx_mdl rxCOBW.2.2.1) S S) (I0 : bx_Inv rxL S) (I1 : bx_Inv rxL S) (hinv : rxIOBW_5 S0 ws S op op2) (l8 : 31 ≤ op) (u8 : op ≤ 32) (l9 : 31 ≤ op2) (u9 : op2 ≤ 32) : (True) ∧ rxPSOBW S0 ws S none := by
  obtain ⟨hI, hx⟩ := hinv
  obtain ⟨a_, c_⟩ := rxdOB_5_0 hP hin hin2 I0 I1 hI l8 u8 l9 u9
  exact ⟨a_, rfl, c_, (fun hD => ⟨fun _ => ⟨(hx.2 hD).1, (hx.2 hD).2.1, (hx.2 hD).2.2.1, op, hI.2.2.2.2.2, (hx.2 hD).2.2.2⟩, fun z => absurd hx.1 z⟩)⟩
theorem rxfOBW_5_0 {X : (Nat → Int → Int) → Prop} {S0 : Nat → Int → Int} {ws : List Int} (hP : rxPOBW S0 ws) : bx_obE rxL X S0 rxCOBW.2.2.1 (rxIOBW S0 ws) (rxPSOBW S0 ws) 5 rxzOBW_5 rxeOBW_5_0 := by
  intro S S_p r r_p hinv hX hin hsm_ hseg
  obtain ⟨I0, I1, h0_, hr_, b_, f_, d_⟩ := bx_cl (evs := []) (fvs := []) hseg (by decide +kernel) (by decide +kernel)
  have hinv : rxIOBW_5 S0 ws S (r 8) (r 9) := hinv
  rw [← hr_ 8 (by decide), ← hr_ 9 (by decide)] at hinv
  obtain ⟨⟨l8, u8⟩, ⟨l9, u9⟩, -⟩ := b_
  have w_ := d_
  subst w_
  have g := rxdOBW_5_0 hP hin hsm_ I0 I1 hinv l8 u8 l9 u9
  refine ⟨bx_narP_ok (l := []) g.1, ?_⟩
  exact g.2
theorem rxgCOBW {X : (Nat → Int → Int) → Prop} {S0 : Nat → Int → Int} {ws : List Int} (hP : rxPOBW S0 ws) : bx_allI (fun i q => rxUOBW q = true ∨ bx_allP (fun o => bx_obC rxL X S0 rxCOBW.2.2.1 (rxIOBW S0 ws) (rxmOBW S0 ws) i q.1 o) q.2.1) 0 rxYOBW := ⟨Or.inr ⟨rxgOBW_0_0 hP, rxgOBW_0_1 hP, trivial⟩, Or.inl rfl, Or.inr ⟨rxgOBW_2_0 hP, trivial⟩, Or.inr ⟨rxgOBW_3_0 hP, trivial⟩, Or.inl rfl, Or.inr trivial, trivial⟩
theorem rxgEOBW {X : (Nat → Int → Int) → Prop} {S0 : Nat → Int → Int} {ws : List Int} (hP : rxPOBW S0 ws) : bx_allI (fun i q => rxUOBW q = true ∨ bx_allP (fun E => bx_obE rxL X S0 rxCOBW.2.2.1 (rxIOBW S0 ws) (rxPSOBW S0 ws) i q.1 E) q.2.2) 0 rxYOBW := ⟨Or.inr trivial, Or.inl rfl, Or.inr ⟨rxfOBW_2_0 hP, trivial⟩, Or.inr trivial, Or.inl rfl, Or.inr ⟨rxfOBW_5_0 hP, trivial⟩, trivial⟩
theorem rxuOBW {PX : State → Prop} {Dg : va_G} {A : Nat → Prop} {ad xa : Nat → Nat} {l : Launch} {X : (Nat → Int → Int) → Prop} (hPX : rx_PXOK rxNW A PX) (hX : ∀ S S1 : Nat → Int → Int, X S → bx_same rxL (bx_mdl rxCOBW.2.2.1) S S1 → X S1) (hQMUW : bx_ConP rxG rxNW rxAO PX Dg rxL X vwCl A ad l rxM265 rxCMUW rxPMUW rxPSMUW) (hQPU : bx_ConP rxG rxNW rxAO PX Dg rxL X vwCl A ad l rxM268 rxCPU rxPPU rxPSPU) {S0 : Nat → Int → Int} {ws : List Int} (hP : rxPOBW S0 ws) : ∀ (i : Nat) (q : bx_HE), rxYOBW[i]? = some q → rxUOBW q = true → ∀ {p : Program} {e : Env} {R : Room} {s : State} {m : MethodId} {args : Array Value} {below : List Frame} {meth : Method} {c : Code} {Q : State → Prop} {H0 : Heap}, rx_Fr rxG rxNW rxAO PX p s m args meth c rxM270 → (∀ q, H0.size ≤ q → A q) → H0 = s.heap → rxM270.2.2.2.2.2.2.1 ≤ R.cells → rxM270.2.2.2.2.2.2.2 ≤ R.slots → rxCOBW.2.2.2.1 ≤ R.frames → rxCOBW.2.2.2.1 * 40 ≤ R.locals → bx_Step p l e R s m args below meth c Q Dg rxL X vwCl A xa H0 ad rxM270 rxYOBW (rxIOBW S0 ws) (rxmOBW S0 ws) S0 rxCOBW.2.2.1 i q := by
  intro i q hq hus p e R s m args below meth c Q H0 hF hA hH0 hmc hms hd hdl
  match i, hq with
  | 0, hq =>
    cases hq
    exact absurd (show false = true from hus) Bool.false_ne_true
  | 1, hq =>
    cases hq
    exact rx_stepC (ins := .invokevirtual 284) (len := 3) (i_p := 2) (M_p := rxM265) (d := rxCOBW.2.2.2.1) (as := [.inr (3, (0, 480)), .inr (0, (9, 0))]) (t := []) (ct := rxCMUW) hPX hF rfl hA hH0 hmc hms hd hdl (by decide +kernel) rfl rfl (by decide +kernel) (by decide +kernel) hQMUW (by decide +kernel) rfl (Or.inl ⟨rfl, rfl, rfl⟩) (rxsOBW_1 hP)
  | 2, hq =>
    cases hq
    exact absurd (show false = true from hus) Bool.false_ne_true
  | 3, hq =>
    cases hq
    exact absurd (show false = true from hus) Bool.false_ne_true
  | 4, hq =>
    cases hq
    exact rx_stepC (ins := .invokevirtual 314) (len := 3) (i_p := 5) (M_p := rxM268) (d := rxCOBW.2.2.2.1) (as := [.inr (3, (0, 480)), .inr (0, (9, 0)), .inr (0, (0, 0))]) (t := []) (ct := rxCPU) hPX hF rfl hA hH0 hmc hms hd hdl (by decide +kernel) rfl rfl (by decide +kernel) (by decide +kernel) hQPU (by decide +kernel) rfl (Or.inl ⟨rfl, rfl, rfl⟩) (rxsOBW_4 hP)
  | 5, hq =>
    cases hq
    exact absurd (show false = true from hus) Bool.false_ne_true
  | n + 6, hq => cases hq
theorem rxQOBW {PX : State → Prop} {Dg : va_G} {A : Nat → Prop} {ad xa : Nat → Nat} {l : Launch} {X : (Nat → Int → Int) → Prop} (hPX : rx_PXOK rxNW A PX) (hsl : ∀ s : State, PX s → ∀ o idx n : Nat, rxSl o idx = some n → ∃ tx : String, vk_R (rxNm o) idx tx (ad n) s)
    (hX : ∀ S S_p : Nat → Int → Int, X S → bx_same rxL (bx_mdl rxCOBW.2.2.1) S S_p → X S_p)
    (ih : ∀ (j2 : Nat) (ct2 : bx_Ct) (M2 : rx_Mt), ct2 ∈ rxCnE j2 → ct2.2.2.2.1 + 1 ≤ rxCOBW.2.2.2.1 → rxT.2.2.2.2.2 j2 = some M2 → bx_Con rxG rxNW rxAO PX Dg rxL X vwCl A ad l M2 ct2) (hQMUW : bx_ConP rxG rxNW rxAO PX Dg rxL X vwCl A ad l rxM265 rxCMUW rxPMUW rxPSMUW) (hQPU : bx_ConP rxG rxNW rxAO PX Dg rxL X vwCl A ad l rxM268 rxCPU rxPPU rxPSPU) : bx_ConP rxG rxNW rxAO PX Dg rxL X vwCl A ad l rxM270 rxCOBW rxPOBW rxPSOBW :=
  rxQof (xa := xa) (Cn := rxCnE) (f := 30000) (j := 270) (tab := rxYOBW) (us := rxUOBW) hPX hsl hX ih rfl rxYcOBW rxIOBW rxmOBW
    (fun S0 ws r I0 I ht0 ht as he he1 hX0 hI0 hP hs ha => by
      have e := he.symm.trans (show bx_ent0 rxNP rxCOBW.1 bx_I0 [] = some ([(0, 0), (0, 0), (0, 0), (0, 0), (0, 0), (0, 0), (0, 0), (0, 0), (31, 32)], [], [.inr (3, (0, 480)), .inr (0, (8, 0))]) from rfl)
      cases e
      subst ha
      have h0 : r 0 = 0 := hs.1
      show rxIOBW_0 S0 _ S0 (r 8)
      refine ⟨⟨rfl, ?_⟩, trivial⟩
      simp only [List.map_cons, List.map_nil, bx_xv_ok h0]
      rfl)
    (fun S0 ws hP => rxuOBW (xa := xa) hPX hX hQMUW hQPU hP) (fun S0 ws hP => rxgCOBW hP) (fun S0 ws hP => rxgEOBW hP)
noncomputable def rxCLFW : bx_Ct := ([(3, (1, 480, 0)), (0, (0, 0, 1)), (0, (0, 0, 8)), (0, (0, 0, 1000))], none, [(12, 9), (12, 10), (12, 11), (12, 12), (12, 13), (12, 14), (12, 18), (12, 21), (1068, 0), (1069, 0)], 3, [])
noncomputable def rxILFW_0 (S0 : Nat → Int → Int) (ws : List Int) (S : Nat → Int → Int) (is op arg : Int) : Prop := rxILF_0 S0 ws S is op arg ∧ True
noncomputable def rxmLFW_0 (S0 : Nat → Int → Int) (ws : List Int) (S : Nat → Int → Int) (is op arg : Int) : Nat := rxmLF_0 S0 ws S is op arg
noncomputable def rxzLFW_0 : rx_Z := ([(0, 0), (0, 0), (0, 0), (0, 0), (0, 0), (0, 0), (0, 0), (0, 0), (0, 1), (0, 8), (0, 1000)], [], [], 0, 0, 0, [(0, .inr (3, (0, 480))), (1, .inr (0, (8, 0))), (2, .inr (0, (9, 0))), (3, .inr (0, (10, 0)))], [])
noncomputable def rxILFW_1 (S0 : Nat → Int → Int) (ws : List Int) (S : Nat → Int → Int) (op arg is2 : Int) : Prop := rxILF_1 S0 ws S op arg is2 ∧ ((is2 = 1 ∧ rzLf S0 ws) ∨ (is2 = 0 ∧ ¬ rzLf S0 ws))
noncomputable def rxmLFW_1 (S0 : Nat → Int → Int) (ws : List Int) (S : Nat → Int → Int) (op arg is2 : Int) : Nat := rxmLF_1 S0 ws S op arg is2
noncomputable def rxzLFW_1 : rx_Z := ([(0, 0), (0, 0), (0, 0), (0, 0), (0, 0), (0, 0), (0, 0), (0, 0), (0, 8), (0, 1000), (0, 1)], [], [], 0, 0, 19, [(0, .inr (3, (0, 480))), (2, .inr (0, (8, 0))), (3, .inr (0, (9, 0)))], [.inr (0, (10, 0)), .inr (3, (0, 480))])
noncomputable def rxILFW_2 (S0 : Nat → Int → Int) (ws : List Int) (S : Nat → Int → Int) (op arg is2 : Int) : Prop := rxILF_2 S0 ws S op arg is2 ∧ (rzDq S0 → (S 480 14 = 0 → rzLf S0 ws ∧ rzNw S0 S ∧ rzPl S0 S 0 0 0) ∧ (S 480 14 ≠ 0 → ¬ rzLf S0 ws ∧ S 480 13 = S0 480 9))
noncomputable def rxmLFW_2 (S0 : Nat → Int → Int) (ws : List Int) (S : Nat → Int → Int) (op arg is2 : Int) : Nat := rxmLF_2 S0 ws S op arg is2
noncomputable def rxzLFW_2 : rx_Z := ([(0, 0), (0, 0), (0, 0), (0, 0), (0, 0), (0, 0), (0, 0), (0, 0), (0, 8), (0, 1000), (0, 1)], [], [], 0, 0, 22, [(0, .inr (3, (0, 480))), (2, .inr (0, (8, 0))), (3, .inr (0, (9, 0)))], [])
noncomputable def rxILFW_3 (S0 : Nat → Int → Int) (ws : List Int) (S : Nat → Int → Int) (op arg op2 arg2 : Int) : Prop := rxILF_3 S0 ws S op arg op2 arg2 ∧ (rzDq S0 → rzLf S0 ws ∧ rzNw S0 S ∧ rzPl S0 S 0 0 0)
noncomputable def rxmLFW_3 (S0 : Nat → Int → Int) (ws : List Int) (S : Nat → Int → Int) (op arg op2 arg2 : Int) : Nat := rxmLF_3 S0 ws S op arg op2 arg2
noncomputable def rxzLFW_3 : rx_Z := ([(0, 0), (0, 0), (0, 0), (0, 0), (0, 0), (0, 0), (0, 0), (0, 0), (0, 8), (0, 1000), (0, 8), (0, 1000)], [], [], 0, 0, 32, [(0, .inr (3, (0, 480))), (2, .inr (0, (8, 0))), (3, .inr (0, (9, 0)))], [.inr (0, (11, 0)), .inr (0, (10, 0)), .inr (3, (0, 480))])
noncomputable def rxILFW_4 (S0 : Nat → Int → Int) (ws : List Int) (S : Nat → Int → Int) (op arg op2 arg2 : Int) : Prop := rxILF_4 S0 ws S op arg op2 arg2 ∧ (S 480 14 = 0 ∧ (rzDq S0 → rzLf S0 ws ∧ rzNw S0 S ∧ rzPl S0 S 0 0 0))
noncomputable def rxmLFW_4 (S0 : Nat → Int → Int) (ws : List Int) (S : Nat → Int → Int) (op arg op2 arg2 : Int) : Nat := rxmLF_4 S0 ws S op arg op2 arg2
noncomputable def rxzLFW_4 : rx_Z := ([(0, 0), (0, 0), (0, 0), (0, 0), (0, 0), (0, 0), (0, 0), (0, 0), (0, 8), (0, 1000), (0, 8), (0, 1000)], [], [], 0, 0, 35, [(0, .inr (3, (0, 480))), (2, .inr (0, (8, 0))), (3, .inr (0, (9, 0)))], [])
noncomputable def rxILFW_5 (S0 : Nat → Int → Int) (ws : List Int) (S : Nat → Int → Int) (op arg q : Int) : Prop := rxILF_5 S0 ws S op arg q ∧ (q = S 480 21 ∧ S 480 14 = 0 ∧ (rzDq S0 → rzLf S0 ws ∧ rzNw S0 S ∧ rzPl S0 S 0 0 0))
noncomputable def rxmLFW_5 (S0 : Nat → Int → Int) (ws : List Int) (S : Nat → Int → Int) (op arg q : Int) : Nat := rxmLF_5 S0 ws S op arg q
noncomputable def rxzLFW_5 : rx_Z := ([(0, 0), (0, 0), (0, 0), (0, 0), (0, 0), (0, 0), (0, 0), (0, 0), (0, 8), (0, 1000), (0, 49)], [], [], 0, 0, 40, [(0, .inr (3, (0, 480))), (2, .inr (0, (8, 0))), (3, .inr (0, (9, 0)))], [.inr (0, (10, 0)), .inr (3, (0, 480))])
noncomputable def rxoLFW_0_0 : bx_HO := (([(0, 0), (0, 0), (0, 0), (0, 0), (0, 0), (0, 0), (0, 0), (0, 0), (1, 1), (0, 8), (0, 1000), (0, 49)], [(3, (8, 0), (0, 0))], [(((0, 0), 1851192626986356801639181172899307091861268768556583502466777088000000), .inr (0, (11, 0))), (((0, 480), 21), .inr (0, (11, 0)))], 0, 0, 19, [(0, .inr (3, (0, 480))), (1, .inr (0, (8, 0))), (2, .inr (0, (9, 0))), (3, .inr (0, (10, 0)))], [.inr (0, (0, 1)), .inr (3, (0, 480))]), [], [], [(0, 0), (0, 0), (0, 0), (0, 0), (0, 0), (0, 0), (0, 0), (0, 0), (9, 0), (10, 0), (0, 1)], 1)
noncomputable def rxoLFW_0_1 : bx_HO := (([(0, 0), (0, 0), (0, 0), (0, 0), (0, 0), (0, 0), (0, 0), (0, 0), (1, 1), (0, 8), (0, 1000), (50, 50)], [(3, (8, 0), (0, 0))], [(((0, 0), 1851192626986356801639181172899307091861268768556583502466777088000000), .inr (0, (11, 0))), (((0, 480), 21), .inr (0, (11, 0)))], 0, 0, 19, [(0, .inr (3, (0, 480))), (1, .inr (0, (8, 0))), (2, .inr (0, (9, 0))), (3, .inr (0, (10, 0)))], [.inr (0, (0, 0)), .inr (3, (0, 480))]), [], [], [(0, 0), (0, 0), (0, 0), (0, 0), (0, 0), (0, 0), (0, 0), (0, 0), (9, 0), (10, 0), (0, 0)], 1)
noncomputable def rxoLFW_0_2 : bx_HO := (([(0, 0), (0, 0), (0, 0), (0, 0), (0, 0), (0, 0), (0, 0), (0, 0), (0, 0), (0, 8), (0, 1000)], [], [], 0, 0, 19, [(0, .inr (3, (0, 480))), (1, .inr (0, (8, 0))), (2, .inr (0, (9, 0))), (3, .inr (0, (10, 0)))], [.inr (0, (0, 0)), .inr (3, (0, 480))]), [], [], [(0, 0), (0, 0), (0, 0), (0, 0), (0, 0), (0, 0), (0, 0), (0, 0), (9, 0), (10, 0), (0, 0)], 1)
noncomputable def rxoLFW_2_0 : bx_HO := (([(0, 0), (0, 0), (0, 0), (0, 0), (0, 0), (0, 0), (0, 0), (0, 0), (0, 8), (0, 1000), (0, 1), (0, 0)], [], [(((0, 0), 1851192626986356800234234225391877833944518517379736727590010880000000), .inr (0, (11, 0))), (((0, 480), 14), .inr (0, (11, 0)))], 0, 0, 32, [(0, .inr (3, (0, 480))), (2, .inr (0, (8, 0))), (3, .inr (0, (9, 0)))], [.inr (0, (9, 0)), .inr (0, (8, 0)), .inr (3, (0, 480))]), [], [], [(0, 0), (0, 0), (0, 0), (0, 0), (0, 0), (0, 0), (0, 0), (0, 0), (8, 0), (9, 0), (8, 0), (9, 0)], 3)
noncomputable def rxeLFW_2_0 : rx_End × List (Nat × Int × Int) := (([(0, 0), (0, 0), (0, 0), (0, 0), (0, 0), (0, 0), (0, 0), (0, 0), (0, 8), (0, 1000), (0, 1), (1, 1)], [(3, (11, 0), (0, 0))], [(((0, 0), 1851192626986356800234234225391877833944518517379736727590010880000000), .inr (0, (11, 0))), (((0, 480), 14), .inr (0, (11, 0)))], none), [])
noncomputable def rxoLFW_4_0 : bx_HO := (([(0, 0), (0, 0), (0, 0), (0, 0), (0, 0), (0, 0), (0, 0), (0, 0), (0, 8), (0, 1000), (0, 8), (0, 1000), (0, 50)], [], [(((0, 0), 1851192626986356801639181172899307091861268768556583502466777088000000), .inr (0, (12, 0))), (((0, 480), 21), .inr (0, (12, 0)))], 0, 0, 40, [(0, .inr (3, (0, 480))), (2, .inr (0, (8, 0))), (3, .inr (0, (9, 0)))], [.inr (0, (12, 0)), .inr (3, (0, 480))]), [(12, 0, 49)], [], [(0, 0), (0, 0), (0, 0), (0, 0), (0, 0), (0, 0), (0, 0), (0, 0), (8, 0), (9, 0), (12, 0)], 5)
noncomputable def rxeLFW_5_0 : rx_End × List (Nat × Int × Int) := (([(0, 0), (0, 0), (0, 0), (0, 0), (0, 0), (0, 0), (0, 0), (0, 0), (0, 8), (0, 1000), (0, 49)], [], [(((0, 0), 1851192626986356801639181172899307091861268768556583502466777091000000), .inr (0, (10, 1))), (((0, 480), 21), .inr (0, (10, 1)))], none), [])
noncomputable def rxYLFW : List bx_HE := [(rxzLFW_0, [rxoLFW_0_0, rxoLFW_0_1, rxoLFW_0_2], []), (rxzLFW_1, [], []), (rxzLFW_2, [rxoLFW_2_0], [rxeLFW_2_0]), (rxzLFW_3, [], []), (rxzLFW_4, [rxoLFW_4_0], []), (rxzLFW_5, [], [rxeLFW_5_0])]
noncomputable def rxULFW (q : bx_HE) : Bool := Nat.beq (rx_zpc q.1) 19 || Nat.beq (rx_zpc q.1) 32
noncomputable def rxYBLFW : bx_B := (rxV, rxNP, rxDmf, bx_mdH rxCLFW.2.2.1)
set_option maxRecDepth 100000 in
theorem rxYcLFW : bx_chkH rxYBLFW rxM273 rxCLFW rxYLFW (rxULFW, fun cut z => rx_ex2 (rxCT rxYBLFW rxCnE) cut 30000 rxCLFW.2.2.2.1 273 z) = true := by decide +kernel
noncomputable def rxILFW (S0 : Nat → Int → Int) (ws : List Int) (i : Nat) : bx_SP := fun S r => match i with | 0 => rxILFW_0 S0 ws S (r 8) (r 9) (r 10) | 1 => rxILFW_1 S0 ws S (r 8) (r 9) (r 10) | 2 => rxILFW_2 S0 ws S (r 8) (r 9) (r 10) | 3 => rxILFW_3 S0 ws S (r 8) (r 9) (r 10) (r 11) | 4 => rxILFW_4 S0 ws S (r 8) (r 9) (r 10) (r 11) | 5 => rxILFW_5 S0 ws S (r 8) (r 9) (r 10) | _ => False
noncomputable def rxmLFW (S0 : Nat → Int → Int) (ws : List Int) (i : Nat) (S : Nat → Int → Int) (r : Nat → Int) : Nat := match i with | 0 => rxmLFW_0 S0 ws S (r 8) (r 9) (r 10) | 1 => rxmLFW_1 S0 ws S (r 8) (r 9) (r 10) | 2 => rxmLFW_2 S0 ws S (r 8) (r 9) (r 10) | 3 => rxmLFW_3 S0 ws S (r 8) (r 9) (r 10) (r 11) | 4 => rxmLFW_4 S0 ws S (r 8) (r 9) (r 10) (r 11) | 5 => rxmLFW_5 S0 ws S (r 8) (r 9) (r 10) | _ => 0
noncomputable def rxPLFW (S0 : Nat → Int → Int) (ws : List Int) : Prop := rxPLF S0 ws
noncomputable def rxPSLFW (S0 : Nat → Int → Int) (ws : List Int) (S : Nat → Int → Int) (w : Option Int) : Prop := w = none ∧ rxPSLF S0 ws S w ∧ (rzDq S0 → (S 480 14 = 0 → rzLf S0 ws ∧ rzNw S0 S ∧ rzPl S0 S 0 0 1) ∧ (S 480 14 ≠ 0 → ¬ rzLf S0 ws ∧ S 480 13 = S0 480 9))
theorem rxkLFW_1 {S0 : Nat → Int → Int} {ws : List Int} {S : Nat → Int → Int} {op arg is2 : Int} (hP : rxPLFW S0 ws) (hin : bx_same rxL (bx_mdl rxCLFW.2.2.1) S0 S) (I0 : bx_Inv rxL S) (hinv : rxILFW_1 S0 ws S op arg is2) (l8 : 0 ≤ op) (u8 : op ≤ 8) (l9 : 0 ≤ arg) (u9 : arg ≤ 1000) (l10 : 0 ≤ is2) (u10 : is2 ≤ 1) : rxPMUW S [480, is2] ∧ ∀ (S_p : Nat → Int → Int), rxPSMUW S [480, is2] S_p none → bx_Inv rxL S_p → bx_same rxL (bx_mdl rxCMUW.2.2.1) S S_p → rxILFW_2 S0 ws S_p op arg is2 ∧ rxmLFW_2 S0 ws S_p op arg is2 < rxmLFW_1 S0 ws S op arg is2 := by
  obtain ⟨hI, hx⟩ := hinv
  have g_ := rxkLF_1 hP hin I0 hI l8 u8 l9 u9 l10 u10
  exact ⟨g_.1, fun S_p hq I1 hsm => ⟨⟨(g_.2 S_p hq.2.1 I1 hsm).1, (fun hD => by
    have e := hI.1
    subst e
    have g := hq.2.2.1 hP.2.1 hD
    obtain ⟨-, -, is3, hw2, hc⟩ := hq.2.1
    have he : is2 = is3 := Option.some.inj (congrArg (fun l : List Int => l[1]?) hw2)
    have p14 := hP.2.1
    refine ⟨fun z => ⟨?_, g.1 z, rzPl_of hsm (rxBox24 I0).2 (by decide +kernel)⟩, fun z => ⟨?_, g.2 z⟩⟩
    · rcases hx with x | x
      · exact x.2
      · omega
    · rcases hx with x | x
      · omega
      · exact x.2)⟩, (g_.2 S_p hq.2.1 I1 hsm).2⟩⟩
theorem rxsLFW_1 {X : (Nat → Int → Int) → Prop} {S0 : Nat → Int → Int} {ws : List Int} (hP : rxPLFW S0 ws) : rx_obK X S0 rxCLFW.2.2.1 rxCMUW.2.2.1 (rxILFW S0 ws) (rxmLFW S0 ws) 1 2 rxzLFW_1 rxzLFW_2 [.inr (3, (0, 480)), .inr (0, (10, 0))] none rxPMUW rxPSMUW := by
  intro S r hinv hXS I0 hin hs_ hf_
  have b_ := bx_bds_sat hs_
  have f_ := bx_fcl_ok hs_.1 hf_
  obtain ⟨⟨l8, u8⟩, ⟨l9, u9⟩, ⟨l10, u10⟩, -⟩ := b_
  have g := rxkLFW_1 hP hin I0 hinv l8 u8 l9 u9 l10 u10
  have ea : List.map (bx_num r) [.inr (3, (0, 480)), .inr (0, (10, 0))] = [480, (r 10)] := by
    simp only [List.map_cons, List.map_nil, bx_xv_ok hs_.1]
    rfl
  rw [ea]
  refine ⟨g.1, fun S_p w r_p hPS hX_p I1 hsm hr hw hs_p => ?_⟩
  have hw : w = none := hPS.1
  subst hw
  have g2 := g.2 S_p hPS I1 hsm
  show rxILFW_2 S0 ws S_p (r_p 8) (r_p 9) (r_p 10) ∧ rxmLFW_2 S0 ws S_p (r_p 8) (r_p 9) (r_p 10) < _
  rw [hr 8 (by decide), hr 9 (by decide), hr 10 (by decide)]
  exact g2
theorem rxkLFW_3 {S0 : Nat → Int → Int} {ws : List Int} {S : Nat → Int → Int} {op arg op2 arg2 : Int} (hP : rxPLFW S0 ws) (hin : bx_same rxL (bx_mdl rxCLFW.2.2.1) S0 S) (I0 : bx_Inv rxL S) (hinv : rxILFW_3 S0 ws S op arg op2 arg2) (l8 : 0 ≤ op) (u8 : op ≤ 8) (l9 : 0 ≤ arg) (u9 : arg ≤ 1000) (l10 : 0 ≤ op2) (u10 : op2 ≤ 8) (l11 : 0 ≤ arg2) (u11 : arg2 ≤ 1000) : rxPEM S [480, op2, arg2] ∧ ∀ (S_p : Nat → Int → Int), rxPSEM S [480, op2, arg2] S_p none → bx_Inv rxL S_p → bx_same rxL (bx_mdl rxCEM.2.2.1) S S_p → rxILFW_4 S0 ws S_p op arg op2 arg2 ∧ rxmLFW_4 S0 ws S_p op arg op2 arg2 < rxmLFW_3 S0 ws S op arg op2 arg2 := by
  obtain ⟨hI, hx⟩ := hinv
  have g_ := rxkLF_3 hP hin I0 hI l8 u8 l9 u9 l10 u10 l11 u11
  exact ⟨g_.1, fun S_p hq I1 hsm => ⟨⟨(g_.2 S_p hq I1 hsm).1, (by
    obtain ⟨ho, h1, h2, h3, h4, h5, h6⟩ := hI
    refine ⟨(hsm 480 14 (by decide) (by decide) (by decide +kernel)).trans h3, fun hD => ?_⟩
    have g := hx hD
    have p := g.2.2.tr (rzPl_of hsm (rxBox24 I0).2 (by decide +kernel)) (by omega)
    exact ⟨g.1, rzNw_c g.2.1 (rzKr_of hsm (by decide +kernel)) (rzTs_of hsm (by decide +kernel)), p⟩)⟩, (g_.2 S_p hq I1 hsm).2⟩⟩
theorem rxsLFW_3 {X : (Nat → Int → Int) → Prop} {S0 : Nat → Int → Int} {ws : List Int} (hP : rxPLFW S0 ws) : rx_obK X S0 rxCLFW.2.2.1 rxCEM.2.2.1 (rxILFW S0 ws) (rxmLFW S0 ws) 3 4 rxzLFW_3 rxzLFW_4 [.inr (3, (0, 480)), .inr (0, (10, 0)), .inr (0, (11, 0))] none rxPEM rxPSEM := by
  intro S r hinv hXS I0 hin hs_ hf_
  have b_ := bx_bds_sat hs_
  have f_ := bx_fcl_ok hs_.1 hf_
  obtain ⟨⟨l8, u8⟩, ⟨l9, u9⟩, ⟨l10, u10⟩, ⟨l11, u11⟩, -⟩ := b_
  have g := rxkLFW_3 hP hin I0 hinv l8 u8 l9 u9 l10 u10 l11 u11
  have ea : List.map (bx_num r) [.inr (3, (0, 480)), .inr (0, (10, 0)), .inr (0, (11, 0))] = [480, (r 10), (r 11)] := by
    simp only [List.map_cons, List.map_nil, bx_xv_ok hs_.1]
    rfl
  rw [ea]
  refine ⟨g.1, fun S_p w r_p hPS hX_p I1 hsm hr hw hs_p => ?_⟩
  have hw : w = none := hPS.1
  subst hw
  have g2 := g.2 S_p hPS I1 hsm
  show rxILFW_4 S0 ws S_p (r_p 8) (r_p 9) (r_p 10) (r_p 11) ∧ rxmLFW_4 S0 ws S_p (r_p 8) (r_p 9) (r_p 10) (r_p 11) < _
  rw [hr 8 (by decide), hr 9 (by decide), hr 10 (by decide), hr 11 (by decide)]
  exact g2
theorem rxcLFW_0_0 {S0 : Nat → Int → Int} {ws : List Int} {S : Nat → Int → Int} {is op arg x11 : Int} (hP : rxPLFW S0 ws) (hin : bx_same rxL (bx_mdl rxCLFW.2.2.1) S0 S) (I0 : bx_Inv rxL S) (hinv : rxILFW_0 S0 ws S is op arg) (l8 : 1 ≤ is) (u8 : is ≤ 1) (l9 : 0 ≤ op) (u9 : op ≤ 8) (l10 : 0 ≤ arg) (u10 : arg ≤ 1000) (l11 : 0 ≤ x11) (u11 : x11 ≤ 49) (f0 : is ≠ 0) (e0 : S 480 21 = x11) : (True) ∧ (True) ∧ rxILFW_1 S0 ws S op arg 1 ∧ rxmLFW_1 S0 ws S op arg 1 < rxmLFW_0 S0 ws S is op arg := by
  obtain ⟨hI, hx⟩ := hinv
  obtain ⟨a_, b_, c_, d_⟩ := rxcLF_0_0 hP hin I0 hI l8 u8 l9 u9 l10 u10 l11 u11 f0 e0
  exact ⟨a_, b_, ⟨c_, (by
    have e := hI.1
    have hf := rzLf_iff (S0 := S0) hI.2
    subst e
    exact Or.inl ⟨rfl, hf.mpr ⟨by omega, by omega⟩⟩)⟩, d_⟩
theorem rxgLFW_0_0 {X : (Nat → Int → Int) → Prop} {S0 : Nat → Int → Int} {ws : List Int} (hP : rxPLFW S0 ws) : bx_obC rxL X S0 rxCLFW.2.2.1 (rxILFW S0 ws) (rxmLFW S0 ws) 0 rxzLFW_0 rxoLFW_0_0 := by
  intro S S_p r r_p hinv hX hin hsm_ hseg
  obtain ⟨I0, I1, h0_, hr_, b_, f_, d_⟩ := bx_cl (evs := [(0, (0, 480), (0, 21), .inr (0, (11, 0)))]) (fvs := [(3, (8, 0), (0, 0), (0, 0))]) hseg (by decide +kernel) (by decide +kernel)
  have hinv : rxILFW_0 S0 ws S (r 8) (r 9) (r 10) := hinv
  rw [← hr_ 8 (by decide), ← hr_ 9 (by decide), ← hr_ 10 (by decide)] at hinv
  obtain ⟨⟨l8, u8⟩, ⟨l9, u9⟩, ⟨l10, u10⟩, ⟨l11, u11⟩, -⟩ := b_
  obtain ⟨f0, -⟩ := f_
  obtain ⟨e0, w_⟩ := d_
  subst w_
  have g := rxcLFW_0_0 hP hin I0 hinv l8 u8 l9 u9 l10 u10 l11 u11 f0 e0
  refine ⟨bx_narP_ok (l := []) g.1, bx_nfP_ok h0_ (fvs := []) (by decide +kernel) g.2.1, ?_, ?_⟩
  · show rxILFW_1 S0 ws S_p (bx_val [(0, 0), (0, 0), (0, 0), (0, 0), (0, 0), (0, 0), (0, 0), (0, 0), (9, 0), (10, 0), (0, 1)] r_p 8) (bx_val [(0, 0), (0, 0), (0, 0), (0, 0), (0, 0), (0, 0), (0, 0), (0, 0), (9, 0), (10, 0), (0, 1)] r_p 9) (bx_val [(0, 0), (0, 0), (0, 0), (0, 0), (0, 0), (0, 0), (0, 0), (0, 0), (9, 0), (10, 0), (0, 1)] r_p 10)
    rw [bx_val_x (n := 8) (e := (9, 0)) h0_ rfl, bx_val_x (n := 9) (e := (10, 0)) h0_ rfl, bx_val_x (n := 10) (e := (0, 1)) h0_ rfl]
    exact g.2.2.1
  · show rxmLFW_1 S0 ws S_p (bx_val [(0, 0), (0, 0), (0, 0), (0, 0), (0, 0), (0, 0), (0, 0), (0, 0), (9, 0), (10, 0), (0, 1)] r_p 8) (bx_val [(0, 0), (0, 0), (0, 0), (0, 0), (0, 0), (0, 0), (0, 0), (0, 0), (9, 0), (10, 0), (0, 1)] r_p 9) (bx_val [(0, 0), (0, 0), (0, 0), (0, 0), (0, 0), (0, 0), (0, 0), (0, 0), (9, 0), (10, 0), (0, 1)] r_p 10) < rxmLFW_0 S0 ws S_p (r 8) (r 9) (r 10)
    rw [bx_val_x (n := 8) (e := (9, 0)) h0_ rfl, bx_val_x (n := 9) (e := (10, 0)) h0_ rfl, bx_val_x (n := 10) (e := (0, 1)) h0_ rfl, ← hr_ 8 (by decide), ← hr_ 9 (by decide), ← hr_ 10 (by decide)]
    exact g.2.2.2
theorem rxcLFW_0_1 {S0 : Nat → Int → Int} {ws : List Int} {S : Nat → Int → Int} {is op arg x11 : Int} (hP : rxPLFW S0 ws) (hin : bx_same rxL (bx_mdl rxCLFW.2.2.1) S0 S) (I0 : bx_Inv rxL S) (hinv : rxILFW_0 S0 ws S is op arg) (l8 : 1 ≤ is) (u8 : is ≤ 1) (l9 : 0 ≤ op) (u9 : op ≤ 8) (l10 : 0 ≤ arg) (u10 : arg ≤ 1000) (l11 : 50 ≤ x11) (u11 : x11 ≤ 50) (f0 : is ≠ 0) (e0 : S 480 21 = x11) : (True) ∧ (True) ∧ rxILFW_1 S0 ws S op arg 0 ∧ rxmLFW_1 S0 ws S op arg 0 < rxmLFW_0 S0 ws S is op arg := by
  obtain ⟨hI, hx⟩ := hinv
  obtain ⟨a_, b_, c_, d_⟩ := rxcLF_0_1 hP hin I0 hI l8 u8 l9 u9 l10 u10 l11 u11 f0 e0
  exact ⟨a_, b_, ⟨c_, (by
    have e := hI.1
    have hf := rzLf_iff (S0 := S0) hI.2
    subst e
    exact Or.inr ⟨rfl, fun g => by
      have := hf.mp g
      omega⟩)⟩, d_⟩
theorem rxgLFW_0_1 {X : (Nat → Int → Int) → Prop} {S0 : Nat → Int → Int} {ws : List Int} (hP : rxPLFW S0 ws) : bx_obC rxL X S0 rxCLFW.2.2.1 (rxILFW S0 ws) (rxmLFW S0 ws) 0 rxzLFW_0 rxoLFW_0_1 := by
  intro S S_p r r_p hinv hX hin hsm_ hseg
  obtain ⟨I0, I1, h0_, hr_, b_, f_, d_⟩ := bx_cl (evs := [(0, (0, 480), (0, 21), .inr (0, (11, 0)))]) (fvs := [(3, (8, 0), (0, 0), (0, 0))]) hseg (by decide +kernel) (by decide +kernel)
  have hinv : rxILFW_0 S0 ws S (r 8) (r 9) (r 10) := hinv
  rw [← hr_ 8 (by decide), ← hr_ 9 (by decide), ← hr_ 10 (by decide)] at hinv
  obtain ⟨⟨l8, u8⟩, ⟨l9, u9⟩, ⟨l10, u10⟩, ⟨l11, u11⟩, -⟩ := b_
  obtain ⟨f0, -⟩ := f_
  obtain ⟨e0, w_⟩ := d_
  subst w_
  have g := rxcLFW_0_1 hP hin I0 hinv l8 u8 l9 u9 l10 u10 l11 u11 f0 e0
  refine ⟨bx_narP_ok (l := []) g.1, bx_nfP_ok h0_ (fvs := []) (by decide +kernel) g.2.1, ?_, ?_⟩
  · show rxILFW_1 S0 ws S_p (bx_val [(0, 0), (0, 0), (0, 0), (0, 0), (0, 0), (0, 0), (0, 0), (0, 0), (9, 0), (10, 0), (0, 0)] r_p 8) (bx_val [(0, 0), (0, 0), (0, 0), (0, 0), (0, 0), (0, 0), (0, 0), (0, 0), (9, 0), (10, 0), (0, 0)] r_p 9) (bx_val [(0, 0), (0, 0), (0, 0), (0, 0), (0, 0), (0, 0), (0, 0), (0, 0), (9, 0), (10, 0), (0, 0)] r_p 10)
    rw [bx_val_x (n := 8) (e := (9, 0)) h0_ rfl, bx_val_x (n := 9) (e := (10, 0)) h0_ rfl, bx_val_x (n := 10) (e := (0, 0)) h0_ rfl]
    exact g.2.2.1
  · show rxmLFW_1 S0 ws S_p (bx_val [(0, 0), (0, 0), (0, 0), (0, 0), (0, 0), (0, 0), (0, 0), (0, 0), (9, 0), (10, 0), (0, 0)] r_p 8) (bx_val [(0, 0), (0, 0), (0, 0), (0, 0), (0, 0), (0, 0), (0, 0), (0, 0), (9, 0), (10, 0), (0, 0)] r_p 9) (bx_val [(0, 0), (0, 0), (0, 0), (0, 0), (0, 0), (0, 0), (0, 0), (0, 0), (9, 0), (10, 0), (0, 0)] r_p 10) < rxmLFW_0 S0 ws S_p (r 8) (r 9) (r 10)
    rw [bx_val_x (n := 8) (e := (9, 0)) h0_ rfl, bx_val_x (n := 9) (e := (10, 0)) h0_ rfl, bx_val_x (n := 10) (e := (0, 0)) h0_ rfl, ← hr_ 8 (by decide), ← hr_ 9 (by decide), ← hr_ 10 (by decide)]
    exact g.2.2.2
theorem rxcLFW_0_2 {S0 : Nat → Int → Int} {ws : List Int} {S : Nat → Int → Int} {is op arg : Int} (hP : rxPLFW S0 ws) (hin : bx_same rxL (bx_mdl rxCLFW.2.2.1) S0 S) (I0 : bx_Inv rxL S) (hinv : rxILFW_0 S0 ws S is op arg) (l8 : 0 ≤ is) (u8 : is ≤ 0) (l9 : 0 ≤ op) (u9 : op ≤ 8) (l10 : 0 ≤ arg) (u10 : arg ≤ 1000) : (True) ∧ (True) ∧ rxILFW_1 S0 ws S op arg 0 ∧ rxmLFW_1 S0 ws S op arg 0 < rxmLFW_0 S0 ws S is op arg := by
  obtain ⟨hI, hx⟩ := hinv
  obtain ⟨a_, b_, c_, d_⟩ := rxcLF_0_2 hP hin I0 hI l8 u8 l9 u9 l10 u10
  exact ⟨a_, b_, ⟨c_, (by
    have e := hI.1
    have hf := rzLf_iff (S0 := S0) hI.2
    subst e
    exact Or.inr ⟨rfl, fun g => by
      have := hf.mp g
      omega⟩)⟩, d_⟩
theorem rxgLFW_0_2 {X : (Nat → Int → Int) → Prop} {S0 : Nat → Int → Int} {ws : List Int} (hP : rxPLFW S0 ws) : bx_obC rxL X S0 rxCLFW.2.2.1 (rxILFW S0 ws) (rxmLFW S0 ws) 0 rxzLFW_0 rxoLFW_0_2 := by
  intro S S_p r r_p hinv hX hin hsm_ hseg
  obtain ⟨I0, I1, h0_, hr_, b_, f_, d_⟩ := bx_cl (evs := []) (fvs := []) hseg (by decide +kernel) (by decide +kernel)
  have hinv : rxILFW_0 S0 ws S (r 8) (r 9) (r 10) := hinv
  rw [← hr_ 8 (by decide), ← hr_ 9 (by decide), ← hr_ 10 (by decide)] at hinv
  obtain ⟨⟨l8, u8⟩, ⟨l9, u9⟩, ⟨l10, u10⟩, -⟩ := b_
  have w_ := d_
  subst w_
  have g := rxcLFW_0_2 hP hin I0 hinv l8 u8 l9 u9 l10 u10
  refine ⟨bx_narP_ok (l := []) g.1, bx_nfP_ok h0_ (fvs := []) (by decide +kernel) g.2.1, ?_, ?_⟩
  · show rxILFW_1 S0 ws S_p (bx_val [(0, 0), (0, 0), (0, 0), (0, 0), (0, 0), (0, 0), (0, 0), (0, 0), (9, 0), (10, 0), (0, 0)] r_p 8) (bx_val [(0, 0), (0, 0), (0, 0), (0, 0), (0, 0), (0, 0), (0, 0), (0, 0), (9, 0), (10, 0), (0, 0)] r_p 9) (bx_val [(0, 0), (0, 0), (0, 0), (0, 0), (0, 0), (0, 0), (0, 0), (0, 0), (9, 0), (10, 0), (0, 0)] r_p 10)
    rw [bx_val_x (n := 8) (e := (9, 0)) h0_ rfl, bx_val_x (n := 9) (e := (10, 0)) h0_ rfl, bx_val_x (n := 10) (e := (0, 0)) h0_ rfl]
    exact g.2.2.1
  · show rxmLFW_1 S0 ws S_p (bx_val [(0, 0), (0, 0), (0, 0), (0, 0), (0, 0), (0, 0), (0, 0), (0, 0), (9, 0), (10, 0), (0, 0)] r_p 8) (bx_val [(0, 0), (0, 0), (0, 0), (0, 0), (0, 0), (0, 0), (0, 0), (0, 0), (9, 0), (10, 0), (0, 0)] r_p 9) (bx_val [(0, 0), (0, 0), (0, 0), (0, 0), (0, 0), (0, 0), (0, 0), (0, 0), (9, 0), (10, 0), (0, 0)] r_p 10) < rxmLFW_0 S0 ws S_p (r 8) (r 9) (r 10)
    rw [bx_val_x (n := 8) (e := (9, 0)) h0_ rfl, bx_val_x (n := 9) (e := (10, 0)) h0_ rfl, bx_val_x (n := 10) (e := (0, 0)) h0_ rfl, ← hr_ 8 (by decide), ← hr_ 9 (by decide), ← hr_ 10 (by decide)]
    exact g.2.2.2
theorem rxcLFW_2_0 {S0 : Nat → Int → Int} {ws : List Int} {S : Nat → Int → Int} {op arg is2 x11 : Int} (hP : rxPLFW S0 ws) (hin : bx_same rxL (bx_mdl rxCLFW.2.2.1) S0 S) (I0 : bx_Inv rxL S) (hinv : rxILFW_2 S0 ws S op arg is2) (l8 : 0 ≤ op) (u8 : op ≤ 8) (l9 : 0 ≤ arg) (u9 : arg ≤ 1000) (l10 : 0 ≤ is2) (u10 : is2 ≤ 1) (l11 : 0 ≤ x11) (u11 : x11 ≤ 0) (e0 : S 480 14 = x11) : (True) ∧ (True) ∧ rxILFW_3 S0 ws S op arg op arg ∧ rxmLFW_3 S0 ws S op arg op arg < rxmLFW_2 S0 ws S op arg is2 := by
  obtain ⟨hI, hx⟩ := hinv
  obtain ⟨a_, b_, c_, d_⟩ := rxcLF_2_0 hP hin I0 hI l8 u8 l9 u9 l10 u10 l11 u11 e0
  exact ⟨a_, b_, ⟨c_, (fun hD => (hx hD).1 (by omega))⟩, d_⟩
theorem rxgLFW_2_0 {X : (Nat → Int → Int) → Prop} {S0 : Nat → Int → Int} {ws : List Int} (hP : rxPLFW S0 ws) : bx_obC rxL X S0 rxCLFW.2.2.1 (rxILFW S0 ws) (rxmLFW S0 ws) 2 rxzLFW_2 rxoLFW_2_0 := by
  intro S S_p r r_p hinv hX hin hsm_ hseg
  obtain ⟨I0, I1, h0_, hr_, b_, f_, d_⟩ := bx_cl (evs := [(0, (0, 480), (0, 14), .inr (0, (11, 0)))]) (fvs := []) hseg (by decide +kernel) (by decide +kernel)
  have hinv : rxILFW_2 S0 ws S (r 8) (r 9) (r 10) := hinv
  rw [← hr_ 8 (by decide), ← hr_ 9 (by decide), ← hr_ 10 (by decide)] at hinv
  obtain ⟨⟨l8, u8⟩, ⟨l9, u9⟩, ⟨l10, u10⟩, ⟨l11, u11⟩, -⟩ := b_
  obtain ⟨e0, w_⟩ := d_
  subst w_
  have g := rxcLFW_2_0 hP hin I0 hinv l8 u8 l9 u9 l10 u10 l11 u11 e0
  refine ⟨bx_narP_ok (l := []) g.1, bx_nfP_ok h0_ (fvs := []) (by decide +kernel) g.2.1, ?_, ?_⟩
  · show rxILFW_3 S0 ws S_p (bx_val [(0, 0), (0, 0), (0, 0), (0, 0), (0, 0), (0, 0), (0, 0), (0, 0), (8, 0), (9, 0), (8, 0), (9, 0)] r_p 8) (bx_val [(0, 0), (0, 0), (0, 0), (0, 0), (0, 0), (0, 0), (0, 0), (0, 0), (8, 0), (9, 0), (8, 0), (9, 0)] r_p 9) (bx_val [(0, 0), (0, 0), (0, 0), (0, 0), (0, 0), (0, 0), (0, 0), (0, 0), (8, 0), (9, 0), (8, 0), (9, 0)] r_p 10) (bx_val [(0, 0), (0, 0), (0, 0), (0, 0), (0, 0), (0, 0), (0, 0), (0, 0), (8, 0), (9, 0), (8, 0), (9, 0)] r_p 11)
    rw [bx_val_x (n := 8) (e := (8, 0)) h0_ rfl, bx_val_x (n := 9) (e := (9, 0)) h0_ rfl, bx_val_x (n := 10) (e := (8, 0)) h0_ rfl, bx_val_x (n := 11) (e := (9, 0)) h0_ rfl]
    exact g.2.2.1
  · show rxmLFW_3 S0 ws S_p (bx_val [(0, 0), (0, 0), (0, 0), (0, 0), (0, 0), (0, 0), (0, 0), (0, 0), (8, 0), (9, 0), (8, 0), (9, 0)] r_p 8) (bx_val [(0, 0), (0, 0), (0, 0), (0, 0), (0, 0), (0, 0), (0, 0), (0, 0), (8, 0), (9, 0), (8, 0), (9, 0)] r_p 9) (bx_val [(0, 0), (0, 0), (0, 0), (0, 0), (0, 0), (0, 0), (0, 0), (0, 0), (8, 0), (9, 0), (8, 0), (9, 0)] r_p 10) (bx_val [(0, 0), (0, 0), (0, 0), (0, 0), (0, 0), (0, 0), (0, 0), (0, 0), (8, 0), (9, 0), (8, 0), (9, 0)] r_p 11) < rxmLFW_2 S0 ws S_p (r 8) (r 9) (r 10)
    rw [bx_val_x (n := 8) (e := (8, 0)) h0_ rfl, bx_val_x (n := 9) (e := (9, 0)) h0_ rfl, bx_val_x (n := 10) (e := (8, 0)) h0_ rfl, bx_val_x (n := 11) (e := (9, 0)) h0_ rfl, ← hr_ 8 (by decide), ← hr_ 9 (by decide), ← hr_ 10 (by decide)]
    exact g.2.2.2
theorem rxdLFW_2_0 {S0 : Nat → Int → Int} {ws : List Int} {S : Nat → Int → Int} {op arg is2 x11 : Int} (hP : rxPLFW S0 ws) (hin : bx_same rxL (bx_mdl rxCLFW.2.2.1) S0 S) (hin2 : bx_same rxL (bx_mdl rxCLFW.2.2.1) S S) (I0 : bx_Inv rxL S) (I1 : bx_Inv rxL S) (hinv : rxILFW_2 S0 ws S op arg is2) (l8 : 0 ≤ op) (u8 : op ≤ 8) (l9 : 0 ≤ arg) (u9 : arg ≤ 1000) (l10 : 0 ≤ is2) (u10 : is2 ≤ 1) (l11 : 1 ≤ x11) (u11 : x11 ≤ 1) (f0 : x11 ≠ 0) (e0 : S 480 14 = x11) : (True) ∧ rxPSLFW S0 ws S none := by
  obtain ⟨hI, hx⟩ := hinv
  obtain ⟨a_, c_⟩ := rxdLF_2_0 hP hin hin2 I0 I1 hI l8 u8 l9 u9 l10 u10 l11 u11 f0 e0
  exact ⟨a_, rfl, c_, (fun hD => ⟨fun z => absurd z (by omega), fun z => (hx hD).2 z⟩)⟩
theorem rxfLFW_2_0 {X : (Nat → Int → Int) → Prop} {S0 : Nat → Int → Int} {ws : List Int} (hP : rxPLFW S0 ws) : bx_obE rxL X S0 rxCLFW.2.2.1 (rxILFW S0 ws) (rxPSLFW S0 ws) 2 rxzLFW_2 rxeLFW_2_0 := by
  intro S S_p r r_p hinv hX hin hsm_ hseg
  obtain ⟨I0, I1, h0_, hr_, b_, f_, d_⟩ := bx_cl (evs := [(0, (0, 480), (0, 14), .inr (0, (11, 0)))]) (fvs := [(3, (11, 0), (0, 0), (0, 0))]) hseg (by decide +kernel) (by decide +kernel)
  have hinv : rxILFW_2 S0 ws S (r 8) (r 9) (r 10) := hinv
  rw [← hr_ 8 (by decide), ← hr_ 9 (by decide), ← hr_ 10 (by decide)] at hinv
  obtain ⟨⟨l8, u8⟩, ⟨l9, u9⟩, ⟨l10, u10⟩, ⟨l11, u11⟩, -⟩ := b_
  obtain ⟨f0, -⟩ := f_
  obtain ⟨e0, w_⟩ := d_
  subst w_
  have g := rxdLFW_2_0 hP hin hsm_ I0 I1 hinv l8 u8 l9 u9 l10 u10 l11 u11 f0 e0
  refine ⟨bx_narP_ok (l := []) g.1, ?_⟩
  exact g.2
theorem rxcLFW_4_0 {S0 : Nat → Int → Int} {ws : List Int} {S : Nat → Int → Int} {op arg op2 arg2 x12 : Int} (hP : rxPLFW S0 ws) (hin : bx_same rxL (bx_mdl rxCLFW.2.2.1) S0 S) (I0 : bx_Inv rxL S) (hinv : rxILFW_4 S0 ws S op arg op2 arg2) (l8 : 0 ≤ op) (u8 : op ≤ 8) (l9 : 0 ≤ arg) (u9 : arg ≤ 1000) (l10 : 0 ≤ op2) (u10 : op2 ≤ 8) (l11 : 0 ≤ arg2) (u11 : arg2 ≤ 1000) (l12 : 0 ≤ x12) (u12 : x12 ≤ 50) (e0 : S 480 21 = x12) : ((0 ≤ x12 ∧ x12 ≤ 49) ∧ True) ∧ (True) ∧ rxILFW_5 S0 ws S op arg x12 ∧ rxmLFW_5 S0 ws S op arg x12 < rxmLFW_4 S0 ws S op arg op2 arg2 := by
  obtain ⟨hI, hx⟩ := hinv
  obtain ⟨a_, b_, c_, d_⟩ := rxcLF_4_0 hP hin I0 hI l8 u8 l9 u9 l10 u10 l11 u11 l12 u12 e0
  exact ⟨a_, b_, ⟨c_, ⟨e0.symm, hx⟩⟩, d_⟩
theorem rxgLFW_4_0 {X : (Nat → Int → Int) → Prop} {S0 : Nat → Int → Int} {ws : List Int} (hP : rxPLFW S0 ws) : bx_obC rxL X S0 rxCLFW.2.2.1 (rxILFW S0 ws) (rxmLFW S0 ws) 4 rxzLFW_4 rxoLFW_4_0 := by
  intro S S_p r r_p hinv hX hin hsm_ hseg
  obtain ⟨I0, I1, h0_, hr_, b_, f_, d_⟩ := bx_cl (evs := [(0, (0, 480), (0, 21), .inr (0, (12, 0)))]) (fvs := []) hseg (by decide +kernel) (by decide +kernel)
  have hinv : rxILFW_4 S0 ws S (r 8) (r 9) (r 10) (r 11) := hinv
  rw [← hr_ 8 (by decide), ← hr_ 9 (by decide), ← hr_ 10 (by decide), ← hr_ 11 (by decide)] at hinv
  obtain ⟨⟨l8, u8⟩, ⟨l9, u9⟩, ⟨l10, u10⟩, ⟨l11, u11⟩, ⟨l12, u12⟩, -⟩ := b_
  obtain ⟨e0, w_⟩ := d_
  subst w_
  have g := rxcLFW_4_0 hP hin I0 hinv l8 u8 l9 u9 l10 u10 l11 u11 l12 u12 e0
  refine ⟨bx_narP_ok (l := [(12, 0, 49)]) g.1, bx_nfP_ok h0_ (fvs := []) (by decide +kernel) g.2.1, ?_, ?_⟩
  · show rxILFW_5 S0 ws S_p (bx_val [(0, 0), (0, 0), (0, 0), (0, 0), (0, 0), (0, 0), (0, 0), (0, 0), (8, 0), (9, 0), (12, 0)] r_p 8) (bx_val [(0, 0), (0, 0), (0, 0), (0, 0), (0, 0), (0, 0), (0, 0), (0, 0), (8, 0), (9, 0), (12, 0)] r_p 9) (bx_val [(0, 0), (0, 0), (0, 0), (0, 0), (0, 0), (0, 0), (0, 0), (0, 0), (8, 0), (9, 0), (12, 0)] r_p 10)
    rw [bx_val_x (n := 8) (e := (8, 0)) h0_ rfl, bx_val_x (n := 9) (e := (9, 0)) h0_ rfl, bx_val_x (n := 10) (e := (12, 0)) h0_ rfl]
    exact g.2.2.1
  · show rxmLFW_5 S0 ws S_p (bx_val [(0, 0), (0, 0), (0, 0), (0, 0), (0, 0), (0, 0), (0, 0), (0, 0), (8, 0), (9, 0), (12, 0)] r_p 8) (bx_val [(0, 0), (0, 0), (0, 0), (0, 0), (0, 0), (0, 0), (0, 0), (0, 0), (8, 0), (9, 0), (12, 0)] r_p 9) (bx_val [(0, 0), (0, 0), (0, 0), (0, 0), (0, 0), (0, 0), (0, 0), (0, 0), (8, 0), (9, 0), (12, 0)] r_p 10) < rxmLFW_4 S0 ws S_p (r 8) (r 9) (r 10) (r 11)
    rw [bx_val_x (n := 8) (e := (8, 0)) h0_ rfl, bx_val_x (n := 9) (e := (9, 0)) h0_ rfl, bx_val_x (n := 10) (e := (12, 0)) h0_ rfl, ← hr_ 8 (by decide), ← hr_ 9 (by decide), ← hr_ 10 (by decide), ← hr_ 11 (by decide)]
    exact g.2.2.2
theorem rxdLFW_5_0 {S0 : Nat → Int → Int} {ws : List Int} {S : Nat → Int → Int} {op arg q : Int} (hP : rxPLFW S0 ws) (hin : bx_same rxL (bx_mdl rxCLFW.2.2.1) S0 S) (hin2 : bx_same rxL (bx_mdl rxCLFW.2.2.1) S (bx_up S 480 21 (q + 1))) (I0 : bx_Inv rxL S) (I1 : bx_Inv rxL (bx_up S 480 21 (q + 1))) (hinv : rxILFW_5 S0 ws S op arg q) (l8 : 0 ≤ op) (u8 : op ≤ 8) (l9 : 0 ≤ arg) (u9 : arg ≤ 1000) (l10 : 0 ≤ q) (u10 : q ≤ 49) : (True) ∧ rxPSLFW S0 ws (bx_up S 480 21 (q + 1)) none := by
  obtain ⟨hI, hx⟩ := hinv
  obtain ⟨a_, c_⟩ := rxdLF_5_0 hP hin hin2 I0 I1 hI l8 u8 l9 u9 l10 u10
  exact ⟨a_, rfl, c_, (fun hD => by
    obtain ⟨hq, h14, hh⟩ := hx
    have g := hh hD
    obtain ⟨p1, p2, p3, p4⟩ := g.2.2
    refine ⟨fun _ => ⟨g.1, rzNw_c g.2.1 ⟨congrArg rzCut (funext fun _ => (bx_up_ne (by omega))), (bx_up_ne (by omega)), (bx_up_ne (by omega)), (bx_up_ne (by omega)), fun c => rzCk_c c (funext fun _ => (bx_up_ne (by omega))) (funext fun _ => (bx_up_ne (by omega)))⟩ ⟨(bx_up_ne (by omega)), (bx_up_ne (by omega)), (bx_up_ne (by omega)), (bx_up_ne (by omega))⟩, ((bx_up_ne (by omega))).trans p1, ((bx_up_ne (by omega))).trans p2, bx_up_at.trans (by omega), fun j a b => ((bx_up_ne (by omega))).trans (p4 j a b)⟩, fun z => absurd (((bx_up_ne (by omega))).trans h14) z⟩)⟩
theorem rxfLFW_5_0 {X : (Nat → Int → Int) → Prop} {S0 : Nat → Int → Int} {ws : List Int} (hP : rxPLFW S0 ws) : bx_obE rxL X S0 rxCLFW.2.2.1 (rxILFW S0 ws) (rxPSLFW S0 ws) 5 rxzLFW_5 rxeLFW_5_0 := by
  intro S S_p r r_p hinv hX hin hsm_ hseg
  obtain ⟨I0, I1, h0_, hr_, b_, f_, d_⟩ := bx_cl (evs := [(1, (0, 480), (0, 21), .inr (0, (10, 1)))]) (fvs := []) hseg (by decide +kernel) (by decide +kernel)
  have hinv : rxILFW_5 S0 ws S (r 8) (r 9) (r 10) := hinv
  rw [← hr_ 8 (by decide), ← hr_ 9 (by decide), ← hr_ 10 (by decide)] at hinv
  obtain ⟨⟨l8, u8⟩, ⟨l9, u9⟩, ⟨l10, u10⟩, -⟩ := b_
  obtain ⟨T0, w_, w0⟩ := d_
  subst w0
  subst w_
  have g := rxdLFW_5_0 hP hin hsm_ I0 I1 hinv l8 u8 l9 u9 l10 u10
  refine ⟨bx_narP_ok (l := []) g.1, ?_⟩
  exact g.2
theorem rxgCLFW {X : (Nat → Int → Int) → Prop} {S0 : Nat → Int → Int} {ws : List Int} (hP : rxPLFW S0 ws) : bx_allI (fun i q => rxULFW q = true ∨ bx_allP (fun o => bx_obC rxL X S0 rxCLFW.2.2.1 (rxILFW S0 ws) (rxmLFW S0 ws) i q.1 o) q.2.1) 0 rxYLFW := ⟨Or.inr ⟨rxgLFW_0_0 hP, rxgLFW_0_1 hP, rxgLFW_0_2 hP, trivial⟩, Or.inl rfl, Or.inr ⟨rxgLFW_2_0 hP, trivial⟩, Or.inl rfl, Or.inr ⟨rxgLFW_4_0 hP, trivial⟩, Or.inr trivial, trivial⟩
theorem rxgELFW {X : (Nat → Int → Int) → Prop} {S0 : Nat → Int → Int} {ws : List Int} (hP : rxPLFW S0 ws) : bx_allI (fun i q => rxULFW q = true ∨ bx_allP (fun E => bx_obE rxL X S0 rxCLFW.2.2.1 (rxILFW S0 ws) (rxPSLFW S0 ws) i q.1 E) q.2.2) 0 rxYLFW := ⟨Or.inr trivial, Or.inl rfl, Or.inr ⟨rxfLFW_2_0 hP, trivial⟩, Or.inl rfl, Or.inr trivial, Or.inr ⟨rxfLFW_5_0 hP, trivial⟩, trivial⟩
theorem rxuLFW {PX : State → Prop} {Dg : va_G} {A : Nat → Prop} {ad xa : Nat → Nat} {l : Launch} {X : (Nat → Int → Int) → Prop} (hPX : rx_PXOK rxNW A PX) (hX : ∀ S S1 : Nat → Int → Int, X S → bx_same rxL (bx_mdl rxCLFW.2.2.1) S S1 → X S1) (hQMUW : bx_ConP rxG rxNW rxAO PX Dg rxL X vwCl A ad l rxM265 rxCMUW rxPMUW rxPSMUW) (hQEM : bx_ConP rxG rxNW rxAO PX Dg rxL X vwCl A ad l rxM266 rxCEM rxPEM rxPSEM) {S0 : Nat → Int → Int} {ws : List Int} (hP : rxPLFW S0 ws) : ∀ (i : Nat) (q : bx_HE), rxYLFW[i]? = some q → rxULFW q = true → ∀ {p : Program} {e : Env} {R : Room} {s : State} {m : MethodId} {args : Array Value} {below : List Frame} {meth : Method} {c : Code} {Q : State → Prop} {H0 : Heap}, rx_Fr rxG rxNW rxAO PX p s m args meth c rxM273 → (∀ q, H0.size ≤ q → A q) → H0 = s.heap → rxM273.2.2.2.2.2.2.1 ≤ R.cells → rxM273.2.2.2.2.2.2.2 ≤ R.slots → rxCLFW.2.2.2.1 ≤ R.frames → rxCLFW.2.2.2.1 * 40 ≤ R.locals → bx_Step p l e R s m args below meth c Q Dg rxL X vwCl A xa H0 ad rxM273 rxYLFW (rxILFW S0 ws) (rxmLFW S0 ws) S0 rxCLFW.2.2.1 i q := by
  intro i q hq hus p e R s m args below meth c Q H0 hF hA hH0 hmc hms hd hdl
  match i, hq with
  | 0, hq =>
    cases hq
    exact absurd (show false = true from hus) Bool.false_ne_true
  | 1, hq =>
    cases hq
    exact rx_stepC (ins := .invokevirtual 284) (len := 3) (i_p := 2) (M_p := rxM265) (d := rxCLFW.2.2.2.1) (as := [.inr (3, (0, 480)), .inr (0, (10, 0))]) (t := []) (ct := rxCMUW) hPX hF rfl hA hH0 hmc hms hd hdl (by decide +kernel) rfl rfl (by decide +kernel) (by decide +kernel) hQMUW (by decide +kernel) rfl (Or.inl ⟨rfl, rfl, rfl⟩) (rxsLFW_1 hP)
  | 2, hq =>
    cases hq
    exact absurd (show false = true from hus) Bool.false_ne_true
  | 3, hq =>
    cases hq
    exact rx_stepC (ins := .invokevirtual 297) (len := 3) (i_p := 4) (M_p := rxM266) (d := rxCLFW.2.2.2.1) (as := [.inr (3, (0, 480)), .inr (0, (10, 0)), .inr (0, (11, 0))]) (t := []) (ct := rxCEM) hPX hF rfl hA hH0 hmc hms hd hdl (by decide +kernel) rfl rfl (by decide +kernel) (by decide +kernel) hQEM (by decide +kernel) rfl (Or.inl ⟨rfl, rfl, rfl⟩) (rxsLFW_3 hP)
  | 4, hq =>
    cases hq
    exact absurd (show false = true from hus) Bool.false_ne_true
  | 5, hq =>
    cases hq
    exact absurd (show false = true from hus) Bool.false_ne_true
  | n + 6, hq => cases hq
theorem rxQLFW {PX : State → Prop} {Dg : va_G} {A : Nat → Prop} {ad xa : Nat → Nat} {l : Launch} {X : (Nat → Int → Int) → Prop} (hPX : rx_PXOK rxNW A PX) (hsl : ∀ s : State, PX s → ∀ o idx n : Nat, rxSl o idx = some n → ∃ tx : String, vk_R (rxNm o) idx tx (ad n) s)
    (hX : ∀ S S_p : Nat → Int → Int, X S → bx_same rxL (bx_mdl rxCLFW.2.2.1) S S_p → X S_p)
    (ih : ∀ (j2 : Nat) (ct2 : bx_Ct) (M2 : rx_Mt), ct2 ∈ rxCnE j2 → ct2.2.2.2.1 + 1 ≤ rxCLFW.2.2.2.1 → rxT.2.2.2.2.2 j2 = some M2 → bx_Con rxG rxNW rxAO PX Dg rxL X vwCl A ad l M2 ct2) (hQMUW : bx_ConP rxG rxNW rxAO PX Dg rxL X vwCl A ad l rxM265 rxCMUW rxPMUW rxPSMUW) (hQEM : bx_ConP rxG rxNW rxAO PX Dg rxL X vwCl A ad l rxM266 rxCEM rxPEM rxPSEM) : bx_ConP rxG rxNW rxAO PX Dg rxL X vwCl A ad l rxM273 rxCLFW rxPLFW rxPSLFW :=
  rxQof (xa := xa) (Cn := rxCnE) (f := 30000) (j := 273) (tab := rxYLFW) (us := rxULFW) hPX hsl hX ih rfl rxYcLFW rxILFW rxmLFW
    (fun S0 ws r I0 I ht0 ht as he he1 hX0 hI0 hP hs ha => by
      have e := he.symm.trans (show bx_ent0 rxNP rxCLFW.1 bx_I0 [] = some ([(0, 0), (0, 0), (0, 0), (0, 0), (0, 0), (0, 0), (0, 0), (0, 0), (0, 1), (0, 8), (0, 1000)], [], [.inr (3, (0, 480)), .inr (0, (8, 0)), .inr (0, (9, 0)), .inr (0, (10, 0))]) from rfl)
      cases e
      subst ha
      have h0 : r 0 = 0 := hs.1
      show rxILFW_0 S0 _ S0 (r 8) (r 9) (r 10)
      refine ⟨⟨rfl, ?_⟩, trivial⟩
      simp only [List.map_cons, List.map_nil, bx_xv_ok h0]
      rfl)
    (fun S0 ws hP => rxuLFW (xa := xa) hPX hX hQMUW hQEM hP) (fun S0 ws hP => rxgCLFW hP) (fun S0 ws hP => rxgELFW hP)

section RZRP
variable {S0 S : Nat → Int → Int} {tst s : Int} {rest : List Int}
theorem rzLenr {S : Nat → Int → Int} {tst s : Int} {rest : List Int} (h : rzSr S tst (s :: rest)) : (rest.length : Int) = S 480 25 := by
  have q := h.2.1
  simp only [List.length_cons] at q
  omega
theorem rzTn_sq (hD : rzDq S0) (g91 : rzSg (rzCut (S0 485)) (S0 480 8) 91 (S0 480 9) = true) (r : rzSr S0 tst (s :: rest)) (h4 : s ≠ 4) (hn : ¬ (s = 1 ∧ rzIs (rzCut (S0 485)) (S0 480 8) rzW_not (S0 480 9) = true)) (h40 : ¬ (s = 1 ∧ rzSg (rzCut (S0 485)) (S0 480 8) 40 (S0 480 9) = true))
    (h : (S 480 14 = 0 → S0 480 25 < 8 ∧ rzNw S0 S ∧ rzPl S0 S 1 1 0 ∧ S 489 (S0 480 24) = 32) ∧ (S 480 14 ≠ 0 → ¬ S0 480 25 < 8 ∧ S 480 13 = S0 480 9)) : rzTn S0 S tst (s :: rest) false (some 1) := by
  have hl := rzLenr r
  have np := rzSg_np (S := S0) (c := 91) (by decide) (by decide) g91
  by_cases hb : S 480 14 = 0
  · obtain ⟨h8, nw, p, hp⟩ := h.1 hb
    obtain ⟨p1, p2, p3, p4⟩ := p
    have r1 : rzSr S tst (0 :: (if s = 1 then 2 else s) :: rest) := by
      refine ⟨?_, ?_, by have := r.2.2; omega⟩
      · rw [p1]
        exact rzBr_sq r.2.2 r.1 h4 p4 hp
      · simp only [List.length_cons]
        omega
    refine rzTn_y (t := 1) hb rfl nw r1 (Or.inr (Or.inl ⟨rfl, Or.inl rfl⟩)) ?_
    rw [rzStep_0, if_neg np, if_neg hn, if_neg h40, if_pos g91, if_pos (by omega), p3]
    simp
  · obtain ⟨h8, h13⟩ := h.2 hb
    refine rzTn_n (f_p := S0 480 9) (lv_p := s :: rest) (pr_p := false) (lf_p := S0 480 21) hb h13 ?_
    rw [rzStep_0, if_neg np, if_neg hn, if_neg h40, if_pos g91]
    exact if_neg (by omega)
theorem rzTn_lf (hD : rzDq S0) (g91 : rzSg (rzCut (S0 485)) (S0 480 8) 91 (S0 480 9) = false) (r : rzSr S0 tst (s :: rest)) (h4 : s ≠ 4) (hn : ¬ (s = 1 ∧ rzIs (rzCut (S0 485)) (S0 480 8) rzW_not (S0 480 9) = true)) (h40 : ¬ (s = 1 ∧ rzSg (rzCut (S0 485)) (S0 480 8) 40 (S0 480 9) = true)) {A : Prop}
    (hA : A ↔ ((rzDg (rzCut (S0 485)) (S0 480 8) (S0 480 9) = true ∨ 0 ≤ rzIxn (rzCut (S0 485)) (S0 480 8) (S0 480 9) (rzWr S0) 0) ∧ rzNo (rzCut (S0 485)) (S0 480 8) (S0 480 9) ≤ 1000) ∧ S0 480 21 < 50)
    (h : (S 480 14 = 0 → A ∧ rzNw S0 S ∧ rzPl S0 S 0 0 1) ∧ (S 480 14 ≠ 0 → ¬ A ∧ S 480 13 = S0 480 9)) : rzTn S0 S tst (s :: rest) false (some 3) := by
  by_cases hb : S 480 14 = 0
  · obtain ⟨a, nw, p⟩ := h.1 hb
    have a2 := hA.mp a
    have r1 : rzSr S tst ((if s = 1 then 2 else s) :: rest) := by
      obtain ⟨q1, q2, q3⟩ := rzSr_pl r p
      refine ⟨rzBr_lf q3 q1, ?_, q3⟩
      simp only [List.length_cons] at q2 ⊢
      exact q2
    have hs : 0 ≤ s ∧ s ≤ 4 := by
      obtain ⟨b, b0, b1, a1, a2, a3, a4⟩ := rzBr_top r.2.2 r.1
      exact a2
    refine rzTn_y (t := 3) hb rfl nw r1 (Or.inr (Or.inr (Or.inl ⟨rfl, by
      by_cases c : s = 1
      · rw [if_pos c]
        omega
      · rw [if_neg c]
        omega⟩))) ?_
    rw [rzStep_0, if_pos a2.1.1, if_neg (by omega), show S 480 21 = S0 480 21 + 1 from p.2.2.1]
    simp
  · obtain ⟨a, h13⟩ := h.2 hb
    refine rzTn_n (f_p := S0 480 9) (lv_p := s :: rest) (pr_p := false) (lf_p := S0 480 21) hb h13 ?_
    rw [rzStep_0]
    by_cases c : rzDg (rzCut (S0 485)) (S0 480 8) (S0 480 9) = true ∨ 0 ≤ rzIxn (rzCut (S0 485)) (S0 480 8) (S0 480 9) (rzWr S0) 0
    · rw [if_pos c]
      refine if_pos ?_
      by_cases c2 : rzNo (rzCut (S0 485)) (S0 480 8) (S0 480 9) ≤ 1000
      · by_cases c3 : S0 480 21 < 50
        · exact absurd (hA.mpr ⟨⟨c, c2⟩, c3⟩) a
        · exact Or.inr (by omega)
      · exact Or.inl (by omega)
    · rw [if_neg c, if_neg hn, if_neg h40, if_neg (by rw [g91]; decide)]
end RZRP
theorem rzCk_491 {S : Nat → Int → Int} (h : rzCk S) {k : Int} (h0 : 0 ≤ k) (h1 : k < 8) : ∃ w : List Int, rzLn_[k.toNat]? = some w ∧ rzHw w = S 491 k ∧ rzOkW w = true ∧ rzFi w rzLn_ 0 = k := by
  obtain ⟨⟨a0, a1, a2, a3, a4, a5, a6, a7⟩, ⟨b0, b1, b2, b3, b4, b5⟩⟩ := h
  have hk : k = 0 ∨ k = 1 ∨ k = 2 ∨ k = 3 ∨ k = 4 ∨ k = 5 ∨ k = 6 ∨ k = 7 := by omega
  rcases hk with rfl | rfl | rfl | rfl | rfl | rfl | rfl | rfl
  · exact ⟨[112, 101, 114, 115, 111, 110], rfl, (by decide : rzHw [112, 101, 114, 115, 111, 110] = 542723566).trans a0.symm, by decide, by decide⟩
  · exact ⟨[109, 101, 109, 111, 114, 121], rfl, (by decide : rzHw [109, 101, 109, 111, 114, 121] = 441892441).trans a1.symm, by decide, by decide⟩
  · exact ⟨[98, 111, 114, 110], rfl, (by decide : rzHw [98, 111, 114, 110] = 81486).trans a2.symm, by decide, by decide⟩
  · exact ⟨[100, 101, 97, 100], rfl, (by decide : rzHw [100, 101, 97, 100] = 136228).trans a3.symm, by decide, by decide⟩
  · exact ⟨[112, 97, 114, 116], rfl, (by decide : rzHw [112, 97, 114, 116] = 525908).trans a4.symm, by decide, by decide⟩
  · exact ⟨[116, 101, 97, 99, 104, 101, 114], rfl, (by decide : rzHw [116, 101, 97, 99, 104, 101, 114] = 21643763890).trans a5.symm, by decide, by decide⟩
  · exact ⟨[121, 101, 97, 114], rfl, (by decide : rzHw [121, 101, 97, 114] = 824370).trans a6.symm, by decide, by decide⟩
  · exact ⟨[109, 111, 111, 100], rfl, (by decide : rzHw [109, 111, 111, 100] = 441828).trans a7.symm, by decide, by decide⟩
theorem rzCk_492 {S : Nat → Int → Int} (h : rzCk S) {k : Int} (h0 : 0 ≤ k) (h1 : k < 6) : ∃ w : List Int, rzPn[k.toNat]? = some w ∧ rzHw w = S 492 k ∧ rzOkW w = true ∧ rzFi w rzPn 0 = k := by
  obtain ⟨⟨a0, a1, a2, a3, a4, a5, a6, a7⟩, ⟨b0, b1, b2, b3, b4, b5⟩⟩ := h
  have hk : k = 0 ∨ k = 1 ∨ k = 2 ∨ k = 3 ∨ k = 4 ∨ k = 5 := by omega
  rcases hk with rfl | rfl | rfl | rfl | rfl | rfl
  · exact ⟨[115, 116, 97, 116, 101], rfl, (by decide : rzHw [115, 116, 97, 116, 101] = 20579973).trans b0.symm, by decide, by decide⟩
  · exact ⟨[99, 117, 101], rfl, (by decide : rzHw [99, 117, 101] = 3749).trans b1.symm, by decide, by decide⟩
  · exact ⟨[119, 111, 114, 100], rfl, (by decide : rzHw [119, 111, 114, 100] = 769604).trans b2.symm, by decide, by decide⟩
  · exact ⟨[110, 101, 120, 116], rfl, (by decide : rzHw [110, 101, 120, 116] = 464660).trans b3.symm, by decide, by decide⟩
  · exact ⟨[112, 97, 114, 116], rfl, (by decide : rzHw [112, 97, 114, 116] = 525908).trans b4.symm, by decide, by decide⟩
  · exact ⟨[109, 111, 111, 100], rfl, (by decide : rzHw [109, 111, 111, 100] = 441828).trans b5.symm, by decide, by decide⟩
theorem rzIxnw {T : Int → Int} {n f : Int} {l : List (List Int)} {m : Nat} (hm : l.length = m) (h : ∀ j : Int, 0 ≤ j → j < (m : Int) → ∀ w : List Int, l[j.toNat]? = some w → rzIs T n w f = false) : rzIxn T n f l 0 = -1 := rzIxn_none fun w hw => by
  obtain ⟨i, hi, e⟩ := List.getElem_of_mem hw
  refine h (i : Int) (by omega) (by omega) w ?_
  rw [Int.toNat_natCast, List.getElem?_eq_getElem hi, e]
noncomputable def rxCPAW : bx_Ct := ([(3, (1, 480, 0))], some (0, (0, (-1), 8)), [], 1, [])
noncomputable def rxIPAW_0 (S0 : Nat → Int → Int) (ws : List Int) (S : Nat → Int → Int) : Prop := rxIPA_0 S0 ws S ∧ True
noncomputable def rxmPAW_0 (S0 : Nat → Int → Int) (ws : List Int) (S : Nat → Int → Int) : Nat := rxmPA_0 S0 ws S
noncomputable def rxzPAW_0 : rx_Z := ([(0, 0), (0, 0), (0, 0), (0, 0), (0, 0), (0, 0), (0, 0), (0, 0)], [], [], 0, 0, 0, [(0, .inr (3, (0, 480)))], [])
noncomputable def rxIPAW_1 (S0 : Nat → Int → Int) (ws : List Int) (S : Nat → Int → Int) (its k : Int) : Prop := rxIPA_1 S0 ws S its k ∧ (rzCk S0 → rzDq S0 → (its = -1 ∧ ∀ j : Int, 0 ≤ j → j < k → ∀ w : List Int, rzLn_[j.toNat]? = some w → rzIs (rzCut (S0 485)) (S0 480 8) w (S0 480 9) = false) ∨ (∃ w : List Int, rzFi w rzLn_ 0 + 1 = its ∧ 0 ≤ rzFi w rzLn_ 0 ∧ rzIs (rzCut (S0 485)) (S0 480 8) w (S0 480 9) = true))
noncomputable def rxmPAW_1 (S0 : Nat → Int → Int) (ws : List Int) (S : Nat → Int → Int) (its k : Int) : Nat := rxmPA_1 S0 ws S its k
noncomputable def rxzPAW_1 : rx_Z := ([(0, 0), (0, 0), (0, 0), (0, 0), (0, 0), (0, 0), (0, 0), (0, 0), ((-1), 8), (0, 8)], [], [], 0, 0, 4, [(0, .inr (3, (0, 480))), (1, .inr (0, (8, 0))), (2, .inr (0, (9, 0)))], [])
noncomputable def rxoPAW_0_0 : bx_HO := (([(0, 0), (0, 0), (0, 0), (0, 0), (0, 0), (0, 0), (0, 0), (0, 0)], [], [], 0, 0, 4, [(2, .inr (0, (0, 0))), (1, .inr (0, (0, (-1)))), (0, .inr (3, (0, 480)))], []), [], [], [(0, 0), (0, 0), (0, 0), (0, 0), (0, 0), (0, 0), (0, 0), (0, 0), (0, (-1)), (0, 0)], 1)
noncomputable def rxoPAW_1_0 : bx_HO := (([(0, 0), (0, 0), (0, 0), (0, 0), (0, 0), (0, 0), (0, 0), (0, 0), ((-1), 8), (0, 7), (81486, 21643763890), (0, 3)], [(3, (11, 0), (0, 1))], [(((0, 0), 1851192626986356799632114105031551009123054124018230966928539648000000), .inr (0, (11, 0))), (((0, 480), 11), .inr (0, (11, 0))), (((0, 0), 1851192626986356797424367893248739914126558548369245151068094464000000), .inr (1, (10, 0))), (((0, 480), 26), .inr (3, (0, 491)))], 0, 0, 4, [(2, .inr (0, (9, 1))), (1, .inr (0, (8, 0))), (0, .inr (3, (0, 480)))], []), [], [], [(0, 0), (0, 0), (0, 0), (0, 0), (0, 0), (0, 0), (0, 0), (0, 0), (8, 0), (9, 1)], 1)
noncomputable def rxoPAW_1_1 : bx_HO := (([(0, 0), (0, 0), (0, 0), (0, 0), (0, 0), (0, 0), (0, 0), (0, 0), ((-1), 8), (0, 7), (81486, 21643763890), (1, 1), ((-9223372036854775808), 9223372036854775807)], [(3, (12, 0), (10, 0))], [(((0, 0), 1851192626986356799832820811818326617396875588472066220482363392000000), .inr (1, (12, 0))), (((0, 480), 12), .inr (1, (12, 0))), (((0, 0), 1851192626986356799632114105031551009123054124018230966928539648000000), .inr (0, (11, 0))), (((0, 480), 11), .inr (0, (11, 0))), (((0, 0), 1851192626986356797424367893248739914126558548369245151068094464000000), .inr (1, (10, 0))), (((0, 480), 26), .inr (3, (0, 491)))], 0, 0, 4, [(2, .inr (0, (9, 1))), (1, .inr (0, (8, 0))), (0, .inr (3, (0, 480)))], []), [], [], [(0, 0), (0, 0), (0, 0), (0, 0), (0, 0), (0, 0), (0, 0), (0, 0), (8, 0), (9, 1)], 1)
noncomputable def rxoPAW_1_2 : bx_HO := (([(0, 0), (0, 0), (0, 0), (0, 0), (0, 0), (0, 0), (0, 0), (0, 0), ((-1), 8), (0, 7), (81486, 21643763890), (1, 1), (81486, 21643763890)], [(2, (12, 0), (10, 0))], [(((0, 0), 1851192626986356799832820811818326617396875588472066220482363392000000), .inr (1, (12, 0))), (((0, 480), 12), .inr (1, (12, 0))), (((0, 0), 1851192626986356799632114105031551009123054124018230966928539648000000), .inr (0, (11, 0))), (((0, 480), 11), .inr (0, (11, 0))), (((0, 0), 1851192626986356797424367893248739914126558548369245151068094464000000), .inr (1, (10, 0))), (((0, 480), 26), .inr (3, (0, 491)))], 0, 0, 4, [(2, .inr (0, (9, 1))), (1, .inr (0, (9, 1))), (0, .inr (3, (0, 480)))], []), [], [], [(0, 0), (0, 0), (0, 0), (0, 0), (0, 0), (0, 0), (0, 0), (0, 0), (9, 1), (9, 1)], 1)
noncomputable def rxePAW_1_0 : rx_End × List (Nat × Int × Int) := (([(0, 0), (0, 0), (0, 0), (0, 0), (0, 0), (0, 0), (0, 0), (0, 0), ((-1), 8), (8, 8)], [], [], some (.inr (0, (8, 0)))), [])
noncomputable def rxYPAW : List bx_HE := [(rxzPAW_0, [rxoPAW_0_0], []), (rxzPAW_1, [rxoPAW_1_0, rxoPAW_1_1, rxoPAW_1_2], [rxePAW_1_0])]
noncomputable def rxUPAW (q : bx_HE) : Bool := false
noncomputable def rxYBPAW : bx_B := (rxV, rxNP, rxDmf, bx_mdH rxCPAW.2.2.1)
set_option maxRecDepth 100000 in
theorem rxYcPAW : bx_chkH rxYBPAW rxM272 rxCPAW rxYPAW (rxUPAW, fun cut z => rx_ex2 (rxCT rxYBPAW rxCnE) cut 30000 rxCPAW.2.2.2.1 272 z) = true := by decide +kernel
noncomputable def rxIPAW (S0 : Nat → Int → Int) (ws : List Int) (i : Nat) : bx_SP := fun S r => match i with | 0 => rxIPAW_0 S0 ws S | 1 => rxIPAW_1 S0 ws S (r 8) (r 9) | _ => False
noncomputable def rxmPAW (S0 : Nat → Int → Int) (ws : List Int) (i : Nat) (S : Nat → Int → Int) (r : Nat → Int) : Nat := match i with | 0 => rxmPAW_0 S0 ws S | 1 => rxmPAW_1 S0 ws S (r 8) (r 9) | _ => 0
noncomputable def rxPPAW (S0 : Nat → Int → Int) (ws : List Int) : Prop := rxPPA S0 ws
noncomputable def rxPSPAW (S0 : Nat → Int → Int) (ws : List Int) (S : Nat → Int → Int) (w : Option Int) : Prop := rxPSPA S0 ws S w ∧ (rzCk S0 → rzDq S0 → ∃ its : Int, w = some its ∧ its = (if 0 ≤ rzIxn (rzCut (S0 485)) (S0 480 8) (S0 480 9) rzLn_ 0 then rzIxn (rzCut (S0 485)) (S0 480 8) (S0 480 9) rzLn_ 0 + 1 else -1))
theorem rxcPAW_0_0 {S0 : Nat → Int → Int} {ws : List Int} {S : Nat → Int → Int} (hP : rxPPAW S0 ws) (hin : bx_same rxL (bx_mdl rxCPAW.2.2.1) S0 S) (I0 : bx_Inv rxL S) (hinv : rxIPAW_0 S0 ws S)  : (True) ∧ (True) ∧ rxIPAW_1 S0 ws S ((-1)) 0 ∧ rxmPAW_1 S0 ws S ((-1)) 0 < rxmPAW_0 S0 ws S := by
  obtain ⟨hI, hx⟩ := hinv
  obtain ⟨a_, b_, c_, d_⟩ := rxcPA_0_0 hP hin I0 hI
  exact ⟨a_, b_, ⟨c_, (fun _ _ => Or.inl ⟨rfl, fun j a b => by omega⟩)⟩, d_⟩
theorem rxgPAW_0_0 {X : (Nat → Int → Int) → Prop} {S0 : Nat → Int → Int} {ws : List Int} (hP : rxPPAW S0 ws) : bx_obC rxL X S0 rxCPAW.2.2.1 (rxIPAW S0 ws) (rxmPAW S0 ws) 0 rxzPAW_0 rxoPAW_0_0 := by
  intro S S_p r r_p hinv hX hin hsm_ hseg
  obtain ⟨I0, I1, h0_, hr_, b_, f_, d_⟩ := bx_cl (evs := []) (fvs := []) hseg (by decide +kernel) (by decide +kernel)
  have hinv : rxIPAW_0 S0 ws S := hinv
  have w_ := d_
  subst w_
  have g := rxcPAW_0_0 hP hin I0 hinv 
  refine ⟨bx_narP_ok (l := []) g.1, bx_nfP_ok h0_ (fvs := []) (by decide +kernel) g.2.1, ?_, ?_⟩
  · show rxIPAW_1 S0 ws S_p (bx_val [(0, 0), (0, 0), (0, 0), (0, 0), (0, 0), (0, 0), (0, 0), (0, 0), (0, (-1)), (0, 0)] r_p 8) (bx_val [(0, 0), (0, 0), (0, 0), (0, 0), (0, 0), (0, 0), (0, 0), (0, 0), (0, (-1)), (0, 0)] r_p 9)
    rw [bx_val_x (n := 8) (e := (0, (-1))) h0_ rfl, bx_val_x (n := 9) (e := (0, 0)) h0_ rfl]
    exact g.2.2.1
  · show rxmPAW_1 S0 ws S_p (bx_val [(0, 0), (0, 0), (0, 0), (0, 0), (0, 0), (0, 0), (0, 0), (0, 0), (0, (-1)), (0, 0)] r_p 8) (bx_val [(0, 0), (0, 0), (0, 0), (0, 0), (0, 0), (0, 0), (0, 0), (0, 0), (0, (-1)), (0, 0)] r_p 9) < rxmPAW_0 S0 ws S_p
    rw [bx_val_x (n := 8) (e := (0, (-1))) h0_ rfl, bx_val_x (n := 9) (e := (0, 0)) h0_ rfl]
    exact g.2.2.2
theorem rxcPAW_1_0 {S0 : Nat → Int → Int} {ws : List Int} {S : Nat → Int → Int} {its k x10 x11 : Int} (hP : rxPPAW S0 ws) (hin : bx_same rxL (bx_mdl rxCPAW.2.2.1) S0 S) (I0 : bx_Inv rxL S) (hinv : rxIPAW_1 S0 ws S its k) (l8 : (-1) ≤ its) (u8 : its ≤ 8) (l9 : 0 ≤ k) (u9 : k ≤ 7) (l10 : 81486 ≤ x10) (u10 : x10 ≤ 21643763890) (l11 : 0 ≤ x11) (u11 : x11 ≤ 3) (f0 : x11 ≠ 1) (e1 : S 491 k = x10) (e0 : S 480 11 = x11) : (True) ∧ (True) ∧ rxIPAW_1 S0 ws S its (k + 1) ∧ rxmPAW_1 S0 ws S its (k + 1) < rxmPAW_1 S0 ws S its k := by
  obtain ⟨hI, hx⟩ := hinv
  obtain ⟨a_, b_, c_, d_⟩ := rxcPA_1_0 hP hin I0 hI l8 u8 l9 u9 l10 u10 l11 u11 f0 e1 e0
  exact ⟨a_, b_, ⟨c_, (fun c hD => by
    have e := hI.1
    subst e
    obtain ⟨w, w1, w2, w3, w4⟩ := rzCk_491 c (k := k) (by omega) (by omega)
    have z : rzIs (rzCut (S 485)) (S 480 8) w (S 480 9) = false := rzDq_no hD w3 rfl (by omega)
    rcases hx c hD with ⟨g1, g2⟩ | g
    · refine Or.inl ⟨g1, fun j a b v hv => ?_⟩
      by_cases hj : j = k
      · subst hj
        have e := Option.some.inj (w1.symm.trans hv)
        subst e
        exact z
      · exact g2 j a (by omega) v hv
    · exact Or.inr g)⟩, d_⟩
theorem rxgPAW_1_0 {X : (Nat → Int → Int) → Prop} {S0 : Nat → Int → Int} {ws : List Int} (hP : rxPPAW S0 ws) : bx_obC rxL X S0 rxCPAW.2.2.1 (rxIPAW S0 ws) (rxmPAW S0 ws) 1 rxzPAW_1 rxoPAW_1_0 := by
  intro S S_p r r_p hinv hX hin hsm_ hseg
  obtain ⟨I0, I1, h0_, hr_, b_, f_, d_⟩ := bx_cl (evs := [(0, (0, 480), (0, 11), .inr (0, (11, 0))), (0, (0, 491), (9, 0), .inr (1, (10, 0)))]) (fvs := [(3, (11, 0), (0, 1), (0, 0))]) hseg (by decide +kernel) (by decide +kernel)
  have hinv : rxIPAW_1 S0 ws S (r 8) (r 9) := hinv
  rw [← hr_ 8 (by decide), ← hr_ 9 (by decide)] at hinv
  obtain ⟨⟨l8, u8⟩, ⟨l9, u9⟩, ⟨l10, u10⟩, ⟨l11, u11⟩, -⟩ := b_
  obtain ⟨f0, -⟩ := f_
  obtain ⟨e0, ⟨e1, w_⟩⟩ := d_
  subst w_
  have g := rxcPAW_1_0 hP hin I0 hinv l8 u8 l9 u9 l10 u10 l11 u11 f0 e1 e0
  refine ⟨bx_narP_ok (l := []) g.1, bx_nfP_ok h0_ (fvs := []) (by decide +kernel) g.2.1, ?_, ?_⟩
  · show rxIPAW_1 S0 ws S_p (bx_val [(0, 0), (0, 0), (0, 0), (0, 0), (0, 0), (0, 0), (0, 0), (0, 0), (8, 0), (9, 1)] r_p 8) (bx_val [(0, 0), (0, 0), (0, 0), (0, 0), (0, 0), (0, 0), (0, 0), (0, 0), (8, 0), (9, 1)] r_p 9)
    rw [bx_val_x (n := 8) (e := (8, 0)) h0_ rfl, bx_val_x (n := 9) (e := (9, 1)) h0_ rfl]
    exact g.2.2.1
  · show rxmPAW_1 S0 ws S_p (bx_val [(0, 0), (0, 0), (0, 0), (0, 0), (0, 0), (0, 0), (0, 0), (0, 0), (8, 0), (9, 1)] r_p 8) (bx_val [(0, 0), (0, 0), (0, 0), (0, 0), (0, 0), (0, 0), (0, 0), (0, 0), (8, 0), (9, 1)] r_p 9) < rxmPAW_1 S0 ws S_p (r 8) (r 9)
    rw [bx_val_x (n := 8) (e := (8, 0)) h0_ rfl, bx_val_x (n := 9) (e := (9, 1)) h0_ rfl, ← hr_ 8 (by decide), ← hr_ 9 (by decide)]
    exact g.2.2.2
theorem rxcPAW_1_1 {S0 : Nat → Int → Int} {ws : List Int} {S : Nat → Int → Int} {its k x10 x11 x12 : Int} (hP : rxPPAW S0 ws) (hin : bx_same rxL (bx_mdl rxCPAW.2.2.1) S0 S) (I0 : bx_Inv rxL S) (hinv : rxIPAW_1 S0 ws S its k) (l8 : (-1) ≤ its) (u8 : its ≤ 8) (l9 : 0 ≤ k) (u9 : k ≤ 7) (l10 : 81486 ≤ x10) (u10 : x10 ≤ 21643763890) (l11 : 1 ≤ x11) (u11 : x11 ≤ 1) (l12 : (-9223372036854775808) ≤ x12) (u12 : x12 ≤ 9223372036854775807) (f0 : x12 ≠ x10) (e2 : S 491 k = x10) (e1 : S 480 11 = x11) (e0 : S 480 12 = x12) : (True) ∧ (True) ∧ rxIPAW_1 S0 ws S its (k + 1) ∧ rxmPAW_1 S0 ws S its (k + 1) < rxmPAW_1 S0 ws S its k := by
  obtain ⟨hI, hx⟩ := hinv
  obtain ⟨a_, b_, c_, d_⟩ := rxcPA_1_1 hP hin I0 hI l8 u8 l9 u9 l10 u10 l11 u11 l12 u12 f0 e2 e1 e0
  exact ⟨a_, b_, ⟨c_, (fun c hD => by
    have e := hI.1
    subst e
    obtain ⟨w, w1, w2, w3, w4⟩ := rzCk_491 c (k := k) (by omega) (by omega)
    have z : rzIs (rzCut (S 485)) (S 480 8) w (S 480 9) = false := rzDq_no hD w3 rfl (by omega)
    rcases hx c hD with ⟨g1, g2⟩ | g
    · refine Or.inl ⟨g1, fun j a b v hv => ?_⟩
      by_cases hj : j = k
      · subst hj
        have e := Option.some.inj (w1.symm.trans hv)
        subst e
        exact z
      · exact g2 j a (by omega) v hv
    · exact Or.inr g)⟩, d_⟩
theorem rxgPAW_1_1 {X : (Nat → Int → Int) → Prop} {S0 : Nat → Int → Int} {ws : List Int} (hP : rxPPAW S0 ws) : bx_obC rxL X S0 rxCPAW.2.2.1 (rxIPAW S0 ws) (rxmPAW S0 ws) 1 rxzPAW_1 rxoPAW_1_1 := by
  intro S S_p r r_p hinv hX hin hsm_ hseg
  obtain ⟨I0, I1, h0_, hr_, b_, f_, d_⟩ := bx_cl (evs := [(0, (0, 480), (0, 12), .inr (1, (12, 0))), (0, (0, 480), (0, 11), .inr (0, (11, 0))), (0, (0, 491), (9, 0), .inr (1, (10, 0)))]) (fvs := [(3, (12, 0), (10, 0), (0, 0))]) hseg (by decide +kernel) (by decide +kernel)
  have hinv : rxIPAW_1 S0 ws S (r 8) (r 9) := hinv
  rw [← hr_ 8 (by decide), ← hr_ 9 (by decide)] at hinv
  obtain ⟨⟨l8, u8⟩, ⟨l9, u9⟩, ⟨l10, u10⟩, ⟨l11, u11⟩, ⟨l12, u12⟩, -⟩ := b_
  obtain ⟨f0, -⟩ := f_
  obtain ⟨e0, ⟨e1, ⟨e2, w_⟩⟩⟩ := d_
  subst w_
  have g := rxcPAW_1_1 hP hin I0 hinv l8 u8 l9 u9 l10 u10 l11 u11 l12 u12 f0 e2 e1 e0
  refine ⟨bx_narP_ok (l := []) g.1, bx_nfP_ok h0_ (fvs := []) (by decide +kernel) g.2.1, ?_, ?_⟩
  · show rxIPAW_1 S0 ws S_p (bx_val [(0, 0), (0, 0), (0, 0), (0, 0), (0, 0), (0, 0), (0, 0), (0, 0), (8, 0), (9, 1)] r_p 8) (bx_val [(0, 0), (0, 0), (0, 0), (0, 0), (0, 0), (0, 0), (0, 0), (0, 0), (8, 0), (9, 1)] r_p 9)
    rw [bx_val_x (n := 8) (e := (8, 0)) h0_ rfl, bx_val_x (n := 9) (e := (9, 1)) h0_ rfl]
    exact g.2.2.1
  · show rxmPAW_1 S0 ws S_p (bx_val [(0, 0), (0, 0), (0, 0), (0, 0), (0, 0), (0, 0), (0, 0), (0, 0), (8, 0), (9, 1)] r_p 8) (bx_val [(0, 0), (0, 0), (0, 0), (0, 0), (0, 0), (0, 0), (0, 0), (0, 0), (8, 0), (9, 1)] r_p 9) < rxmPAW_1 S0 ws S_p (r 8) (r 9)
    rw [bx_val_x (n := 8) (e := (8, 0)) h0_ rfl, bx_val_x (n := 9) (e := (9, 1)) h0_ rfl, ← hr_ 8 (by decide), ← hr_ 9 (by decide)]
    exact g.2.2.2
theorem rxcPAW_1_2 {S0 : Nat → Int → Int} {ws : List Int} {S : Nat → Int → Int} {its k x10 x11 x12 : Int} (hP : rxPPAW S0 ws) (hin : bx_same rxL (bx_mdl rxCPAW.2.2.1) S0 S) (I0 : bx_Inv rxL S) (hinv : rxIPAW_1 S0 ws S its k) (l8 : (-1) ≤ its) (u8 : its ≤ 8) (l9 : 0 ≤ k) (u9 : k ≤ 7) (l10 : 81486 ≤ x10) (u10 : x10 ≤ 21643763890) (l11 : 1 ≤ x11) (u11 : x11 ≤ 1) (l12 : 81486 ≤ x12) (u12 : x12 ≤ 21643763890) (f0 : x12 = x10) (e2 : S 491 k = x10) (e1 : S 480 11 = x11) (e0 : S 480 12 = x12) : (True) ∧ (True) ∧ rxIPAW_1 S0 ws S (k + 1) (k + 1) ∧ rxmPAW_1 S0 ws S (k + 1) (k + 1) < rxmPAW_1 S0 ws S its k := by
  obtain ⟨hI, hx⟩ := hinv
  obtain ⟨a_, b_, c_, d_⟩ := rxcPA_1_2 hP hin I0 hI l8 u8 l9 u9 l10 u10 l11 u11 l12 u12 f0 e2 e1 e0
  exact ⟨a_, b_, ⟨c_, (fun c hD => by
    have e := hI.1
    subst e
    obtain ⟨w, w1, w2, w3, w4⟩ := rzCk_491 c (k := k) (by omega) (by omega)
    exact Or.inr ⟨w, by omega, by omega, (rzDq_is hD w3 (by omega : rzHw w = x10)).mp ⟨by omega, by omega⟩⟩)⟩, d_⟩
theorem rxgPAW_1_2 {X : (Nat → Int → Int) → Prop} {S0 : Nat → Int → Int} {ws : List Int} (hP : rxPPAW S0 ws) : bx_obC rxL X S0 rxCPAW.2.2.1 (rxIPAW S0 ws) (rxmPAW S0 ws) 1 rxzPAW_1 rxoPAW_1_2 := by
  intro S S_p r r_p hinv hX hin hsm_ hseg
  obtain ⟨I0, I1, h0_, hr_, b_, f_, d_⟩ := bx_cl (evs := [(0, (0, 480), (0, 12), .inr (1, (12, 0))), (0, (0, 480), (0, 11), .inr (0, (11, 0))), (0, (0, 491), (9, 0), .inr (1, (10, 0)))]) (fvs := [(2, (12, 0), (10, 0), (0, 0))]) hseg (by decide +kernel) (by decide +kernel)
  have hinv : rxIPAW_1 S0 ws S (r 8) (r 9) := hinv
  rw [← hr_ 8 (by decide), ← hr_ 9 (by decide)] at hinv
  obtain ⟨⟨l8, u8⟩, ⟨l9, u9⟩, ⟨l10, u10⟩, ⟨l11, u11⟩, ⟨l12, u12⟩, -⟩ := b_
  obtain ⟨f0, -⟩ := f_
  obtain ⟨e0, ⟨e1, ⟨e2, w_⟩⟩⟩ := d_
  subst w_
  have g := rxcPAW_1_2 hP hin I0 hinv l8 u8 l9 u9 l10 u10 l11 u11 l12 u12 f0 e2 e1 e0
  refine ⟨bx_narP_ok (l := []) g.1, bx_nfP_ok h0_ (fvs := []) (by decide +kernel) g.2.1, ?_, ?_⟩
  · show rxIPAW_1 S0 ws S_p (bx_val [(0, 0), (0, 0), (0, 0), (0, 0), (0, 0), (0, 0), (0, 0), (0, 0), (9, 1), (9, 1)] r_p 8) (bx_val [(0, 0), (0, 0), (0, 0), (0, 0), (0, 0), (0, 0), (0, 0), (0, 0), (9, 1), (9, 1)] r_p 9)
    rw [bx_val_x (n := 8) (e := (9, 1)) h0_ rfl, bx_val_x (n := 9) (e := (9, 1)) h0_ rfl]
    exact g.2.2.1
  · show rxmPAW_1 S0 ws S_p (bx_val [(0, 0), (0, 0), (0, 0), (0, 0), (0, 0), (0, 0), (0, 0), (0, 0), (9, 1), (9, 1)] r_p 8) (bx_val [(0, 0), (0, 0), (0, 0), (0, 0), (0, 0), (0, 0), (0, 0), (0, 0), (9, 1), (9, 1)] r_p 9) < rxmPAW_1 S0 ws S_p (r 8) (r 9)
    rw [bx_val_x (n := 8) (e := (9, 1)) h0_ rfl, bx_val_x (n := 9) (e := (9, 1)) h0_ rfl, ← hr_ 8 (by decide), ← hr_ 9 (by decide)]
    exact g.2.2.2
theorem rxdPAW_1_0 {S0 : Nat → Int → Int} {ws : List Int} {S : Nat → Int → Int} {its k : Int} (hP : rxPPAW S0 ws) (hin : bx_same rxL (bx_mdl rxCPAW.2.2.1) S0 S) (hin2 : bx_same rxL (bx_mdl rxCPAW.2.2.1) S S) (I0 : bx_Inv rxL S) (I1 : bx_Inv rxL S) (hinv : rxIPAW_1 S0 ws S its k) (l8 : (-1) ≤ its) (u8 : its ≤ 8) (l9 : 8 ≤ k) (u9 : k ≤ 8) : (True) ∧ rxPSPAW S0 ws S (some its) := by
  obtain ⟨hI, hx⟩ := hinv
  obtain ⟨a_, c_⟩ := rxdPA_1_0 hP hin hin2 I0 I1 hI l8 u8 l9 u9
  exact ⟨a_, c_, (fun c hD => by
    have e := hI.1
    subst e
    refine ⟨its, rfl, ?_⟩
    have hk : k = 8 := by omega
    rcases hx c hD with ⟨g1, g2⟩ | ⟨w, g1, g2, g3⟩
    · rw [rzIxnw (m := 8) rfl fun j a b => g2 j a (by omega), if_neg (by decide)]
      exact g1
    · rw [rzIxn_u g3, if_pos g2]
      exact g1.symm)⟩
theorem rxfPAW_1_0 {X : (Nat → Int → Int) → Prop} {S0 : Nat → Int → Int} {ws : List Int} (hP : rxPPAW S0 ws) : bx_obE rxL X S0 rxCPAW.2.2.1 (rxIPAW S0 ws) (rxPSPAW S0 ws) 1 rxzPAW_1 rxePAW_1_0 := by
  intro S S_p r r_p hinv hX hin hsm_ hseg
  obtain ⟨I0, I1, h0_, hr_, b_, f_, d_⟩ := bx_cl (evs := []) (fvs := []) hseg (by decide +kernel) (by decide +kernel)
  have hinv : rxIPAW_1 S0 ws S (r 8) (r 9) := hinv
  rw [← hr_ 8 (by decide), ← hr_ 9 (by decide)] at hinv
  obtain ⟨⟨l8, u8⟩, ⟨l9, u9⟩, -⟩ := b_
  have w_ := d_
  subst w_
  have g := rxdPAW_1_0 hP hin hsm_ I0 I1 hinv l8 u8 l9 u9
  refine ⟨bx_narP_ok (l := []) g.1, ?_⟩
  show rxPSPAW S0 ws S_p (some (bx_num r_p (.inr (0, (8, 0)))))
  rw [bx_xv_ok h0_]
  exact g.2
theorem rxgCPAW {X : (Nat → Int → Int) → Prop} {S0 : Nat → Int → Int} {ws : List Int} (hP : rxPPAW S0 ws) : bx_allI (fun i q => rxUPAW q = true ∨ bx_allP (fun o => bx_obC rxL X S0 rxCPAW.2.2.1 (rxIPAW S0 ws) (rxmPAW S0 ws) i q.1 o) q.2.1) 0 rxYPAW := ⟨Or.inr ⟨rxgPAW_0_0 hP, trivial⟩, Or.inr ⟨rxgPAW_1_0 hP, rxgPAW_1_1 hP, rxgPAW_1_2 hP, trivial⟩, trivial⟩
theorem rxgEPAW {X : (Nat → Int → Int) → Prop} {S0 : Nat → Int → Int} {ws : List Int} (hP : rxPPAW S0 ws) : bx_allI (fun i q => rxUPAW q = true ∨ bx_allP (fun E => bx_obE rxL X S0 rxCPAW.2.2.1 (rxIPAW S0 ws) (rxPSPAW S0 ws) i q.1 E) q.2.2) 0 rxYPAW := ⟨Or.inr trivial, Or.inr ⟨rxfPAW_1_0 hP, trivial⟩, trivial⟩
theorem rxQPAW {PX : State → Prop} {Dg : va_G} {A : Nat → Prop} {ad xa : Nat → Nat} {l : Launch} {X : (Nat → Int → Int) → Prop} (hPX : rx_PXOK rxNW A PX) (hsl : ∀ s : State, PX s → ∀ o idx n : Nat, rxSl o idx = some n → ∃ tx : String, vk_R (rxNm o) idx tx (ad n) s)
    (hX : ∀ S S_p : Nat → Int → Int, X S → bx_same rxL (bx_mdl rxCPAW.2.2.1) S S_p → X S_p)
    (ih : ∀ (j2 : Nat) (ct2 : bx_Ct) (M2 : rx_Mt), ct2 ∈ rxCnE j2 → ct2.2.2.2.1 + 1 ≤ rxCPAW.2.2.2.1 → rxT.2.2.2.2.2 j2 = some M2 → bx_Con rxG rxNW rxAO PX Dg rxL X vwCl A ad l M2 ct2) : bx_ConP rxG rxNW rxAO PX Dg rxL X vwCl A ad l rxM272 rxCPAW rxPPAW rxPSPAW :=
  rxQof (xa := xa) (Cn := rxCnE) (f := 30000) (j := 272) (tab := rxYPAW) (us := rxUPAW) hPX hsl hX ih rfl rxYcPAW rxIPAW rxmPAW
    (fun S0 ws r I0 I ht0 ht as he he1 hX0 hI0 hP hs ha => by
      have e := he.symm.trans (show bx_ent0 rxNP rxCPAW.1 bx_I0 [] = some ([(0, 0), (0, 0), (0, 0), (0, 0), (0, 0), (0, 0), (0, 0), (0, 0)], [], [.inr (3, (0, 480))]) from rfl)
      cases e
      subst ha
      have h0 : r 0 = 0 := hs.1
      show rxIPAW_0 S0 _ S0
      refine ⟨⟨rfl, ?_⟩, trivial⟩
      simp only [List.map_cons, List.map_nil, bx_xv_ok h0]
      rfl)
    (fun S0 ws hP => fun i q hq hus => absurd (show false = true from hus) Bool.false_ne_true) (fun S0 ws hP => rxgCPAW hP) (fun S0 ws hP => rxgEPAW hP)
noncomputable def rxCPPW : bx_Ct := ([(3, (1, 480, 0))], some (0, (0, (-1), 8)), [], 1, [])
noncomputable def rxIPPW_0 (S0 : Nat → Int → Int) (ws : List Int) (S : Nat → Int → Int) : Prop := rxIPP_0 S0 ws S ∧ True
noncomputable def rxmPPW_0 (S0 : Nat → Int → Int) (ws : List Int) (S : Nat → Int → Int) : Nat := rxmPP_0 S0 ws S
noncomputable def rxzPPW_0 : rx_Z := ([(0, 0), (0, 0), (0, 0), (0, 0), (0, 0), (0, 0), (0, 0), (0, 0)], [], [], 0, 0, 0, [(0, .inr (3, (0, 480)))], [])
noncomputable def rxIPPW_1 (S0 : Nat → Int → Int) (ws : List Int) (S : Nat → Int → Int) (its k : Int) : Prop := rxIPP_1 S0 ws S its k ∧ (rzCk S0 → rzDq S0 → (its = -1 ∧ ∀ j : Int, 0 ≤ j → j < k → ∀ w : List Int, rzPn[j.toNat]? = some w → rzIs (rzCut (S0 485)) (S0 480 8) w (S0 480 9) = false) ∨ (∃ w : List Int, rzFi w rzPn 0 + 1 = its ∧ 0 ≤ rzFi w rzPn 0 ∧ rzIs (rzCut (S0 485)) (S0 480 8) w (S0 480 9) = true))
noncomputable def rxmPPW_1 (S0 : Nat → Int → Int) (ws : List Int) (S : Nat → Int → Int) (its k : Int) : Nat := rxmPP_1 S0 ws S its k
noncomputable def rxzPPW_1 : rx_Z := ([(0, 0), (0, 0), (0, 0), (0, 0), (0, 0), (0, 0), (0, 0), (0, 0), ((-1), 8), (0, 6)], [], [], 0, 0, 4, [(0, .inr (3, (0, 480))), (1, .inr (0, (8, 0))), (2, .inr (0, (9, 0)))], [])
noncomputable def rxoPPW_0_0 : bx_HO := (([(0, 0), (0, 0), (0, 0), (0, 0), (0, 0), (0, 0), (0, 0), (0, 0)], [], [], 0, 0, 4, [(2, .inr (0, (0, 0))), (1, .inr (0, (0, (-1)))), (0, .inr (3, (0, 480)))], []), [], [], [(0, 0), (0, 0), (0, 0), (0, 0), (0, 0), (0, 0), (0, 0), (0, 0), (0, (-1)), (0, 0)], 1)
noncomputable def rxoPPW_1_0 : bx_HO := (([(0, 0), (0, 0), (0, 0), (0, 0), (0, 0), (0, 0), (0, 0), (0, 0), ((-1), 8), (0, 5), (3749, 20579973), (0, 3)], [(3, (11, 0), (0, 1))], [(((0, 0), 1851192626986356799632114105031551009123054124018230966928539648000000), .inr (0, (11, 0))), (((0, 480), 11), .inr (0, (11, 0))), (((0, 0), 1851192626986356797424367893248739914126558548369245151068684288000000), .inr (1, (10, 0))), (((0, 480), 27), .inr (3, (0, 492)))], 0, 0, 4, [(2, .inr (0, (9, 1))), (1, .inr (0, (8, 0))), (0, .inr (3, (0, 480)))], []), [], [], [(0, 0), (0, 0), (0, 0), (0, 0), (0, 0), (0, 0), (0, 0), (0, 0), (8, 0), (9, 1)], 1)
noncomputable def rxoPPW_1_1 : bx_HO := (([(0, 0), (0, 0), (0, 0), (0, 0), (0, 0), (0, 0), (0, 0), (0, 0), ((-1), 8), (0, 5), (3749, 20579973), (1, 1), ((-9223372036854775808), 9223372036854775807)], [(3, (12, 0), (10, 0))], [(((0, 0), 1851192626986356799832820811818326617396875588472066220482363392000000), .inr (1, (12, 0))), (((0, 480), 12), .inr (1, (12, 0))), (((0, 0), 1851192626986356799632114105031551009123054124018230966928539648000000), .inr (0, (11, 0))), (((0, 480), 11), .inr (0, (11, 0))), (((0, 0), 1851192626986356797424367893248739914126558548369245151068684288000000), .inr (1, (10, 0))), (((0, 480), 27), .inr (3, (0, 492)))], 0, 0, 4, [(2, .inr (0, (9, 1))), (1, .inr (0, (8, 0))), (0, .inr (3, (0, 480)))], []), [], [], [(0, 0), (0, 0), (0, 0), (0, 0), (0, 0), (0, 0), (0, 0), (0, 0), (8, 0), (9, 1)], 1)
noncomputable def rxoPPW_1_2 : bx_HO := (([(0, 0), (0, 0), (0, 0), (0, 0), (0, 0), (0, 0), (0, 0), (0, 0), ((-1), 8), (0, 5), (3749, 20579973), (1, 1), (3749, 20579973)], [(2, (12, 0), (10, 0))], [(((0, 0), 1851192626986356799832820811818326617396875588472066220482363392000000), .inr (1, (12, 0))), (((0, 480), 12), .inr (1, (12, 0))), (((0, 0), 1851192626986356799632114105031551009123054124018230966928539648000000), .inr (0, (11, 0))), (((0, 480), 11), .inr (0, (11, 0))), (((0, 0), 1851192626986356797424367893248739914126558548369245151068684288000000), .inr (1, (10, 0))), (((0, 480), 27), .inr (3, (0, 492)))], 0, 0, 4, [(2, .inr (0, (9, 1))), (1, .inr (0, (9, 1))), (0, .inr (3, (0, 480)))], []), [], [], [(0, 0), (0, 0), (0, 0), (0, 0), (0, 0), (0, 0), (0, 0), (0, 0), (9, 1), (9, 1)], 1)
noncomputable def rxePPW_1_0 : rx_End × List (Nat × Int × Int) := (([(0, 0), (0, 0), (0, 0), (0, 0), (0, 0), (0, 0), (0, 0), (0, 0), ((-1), 8), (6, 6)], [], [], some (.inr (0, (8, 0)))), [])
noncomputable def rxYPPW : List bx_HE := [(rxzPPW_0, [rxoPPW_0_0], []), (rxzPPW_1, [rxoPPW_1_0, rxoPPW_1_1, rxoPPW_1_2], [rxePPW_1_0])]
noncomputable def rxUPPW (q : bx_HE) : Bool := false
noncomputable def rxYBPPW : bx_B := (rxV, rxNP, rxDmf, bx_mdH rxCPPW.2.2.1)
set_option maxRecDepth 100000 in
theorem rxYcPPW : bx_chkH rxYBPPW rxM271 rxCPPW rxYPPW (rxUPPW, fun cut z => rx_ex2 (rxCT rxYBPPW rxCnE) cut 30000 rxCPPW.2.2.2.1 271 z) = true := by decide +kernel
noncomputable def rxIPPW (S0 : Nat → Int → Int) (ws : List Int) (i : Nat) : bx_SP := fun S r => match i with | 0 => rxIPPW_0 S0 ws S | 1 => rxIPPW_1 S0 ws S (r 8) (r 9) | _ => False
noncomputable def rxmPPW (S0 : Nat → Int → Int) (ws : List Int) (i : Nat) (S : Nat → Int → Int) (r : Nat → Int) : Nat := match i with | 0 => rxmPPW_0 S0 ws S | 1 => rxmPPW_1 S0 ws S (r 8) (r 9) | _ => 0
noncomputable def rxPPPW (S0 : Nat → Int → Int) (ws : List Int) : Prop := rxPPP S0 ws
noncomputable def rxPSPPW (S0 : Nat → Int → Int) (ws : List Int) (S : Nat → Int → Int) (w : Option Int) : Prop := rxPSPP S0 ws S w ∧ (rzCk S0 → rzDq S0 → ∃ its : Int, w = some its ∧ its = (if 0 ≤ rzIxn (rzCut (S0 485)) (S0 480 8) (S0 480 9) rzPn 0 then rzIxn (rzCut (S0 485)) (S0 480 8) (S0 480 9) rzPn 0 + 1 else -1))
theorem rxcPPW_0_0 {S0 : Nat → Int → Int} {ws : List Int} {S : Nat → Int → Int} (hP : rxPPPW S0 ws) (hin : bx_same rxL (bx_mdl rxCPPW.2.2.1) S0 S) (I0 : bx_Inv rxL S) (hinv : rxIPPW_0 S0 ws S)  : (True) ∧ (True) ∧ rxIPPW_1 S0 ws S ((-1)) 0 ∧ rxmPPW_1 S0 ws S ((-1)) 0 < rxmPPW_0 S0 ws S := by
  obtain ⟨hI, hx⟩ := hinv
  obtain ⟨a_, b_, c_, d_⟩ := rxcPP_0_0 hP hin I0 hI
  exact ⟨a_, b_, ⟨c_, (fun _ _ => Or.inl ⟨rfl, fun j a b => by omega⟩)⟩, d_⟩
theorem rxgPPW_0_0 {X : (Nat → Int → Int) → Prop} {S0 : Nat → Int → Int} {ws : List Int} (hP : rxPPPW S0 ws) : bx_obC rxL X S0 rxCPPW.2.2.1 (rxIPPW S0 ws) (rxmPPW S0 ws) 0 rxzPPW_0 rxoPPW_0_0 := by
  intro S S_p r r_p hinv hX hin hsm_ hseg
  obtain ⟨I0, I1, h0_, hr_, b_, f_, d_⟩ := bx_cl (evs := []) (fvs := []) hseg (by decide +kernel) (by decide +kernel)
  have hinv : rxIPPW_0 S0 ws S := hinv
  have w_ := d_
  subst w_
  have g := rxcPPW_0_0 hP hin I0 hinv 
  refine ⟨bx_narP_ok (l := []) g.1, bx_nfP_ok h0_ (fvs := []) (by decide +kernel) g.2.1, ?_, ?_⟩
  · show rxIPPW_1 S0 ws S_p (bx_val [(0, 0), (0, 0), (0, 0), (0, 0), (0, 0), (0, 0), (0, 0), (0, 0), (0, (-1)), (0, 0)] r_p 8) (bx_val [(0, 0), (0, 0), (0, 0), (0, 0), (0, 0), (0, 0), (0, 0), (0, 0), (0, (-1)), (0, 0)] r_p 9)
    rw [bx_val_x (n := 8) (e := (0, (-1))) h0_ rfl, bx_val_x (n := 9) (e := (0, 0)) h0_ rfl]
    exact g.2.2.1
  · show rxmPPW_1 S0 ws S_p (bx_val [(0, 0), (0, 0), (0, 0), (0, 0), (0, 0), (0, 0), (0, 0), (0, 0), (0, (-1)), (0, 0)] r_p 8) (bx_val [(0, 0), (0, 0), (0, 0), (0, 0), (0, 0), (0, 0), (0, 0), (0, 0), (0, (-1)), (0, 0)] r_p 9) < rxmPPW_0 S0 ws S_p
    rw [bx_val_x (n := 8) (e := (0, (-1))) h0_ rfl, bx_val_x (n := 9) (e := (0, 0)) h0_ rfl]
    exact g.2.2.2
theorem rxcPPW_1_0 {S0 : Nat → Int → Int} {ws : List Int} {S : Nat → Int → Int} {its k x10 x11 : Int} (hP : rxPPPW S0 ws) (hin : bx_same rxL (bx_mdl rxCPPW.2.2.1) S0 S) (I0 : bx_Inv rxL S) (hinv : rxIPPW_1 S0 ws S its k) (l8 : (-1) ≤ its) (u8 : its ≤ 8) (l9 : 0 ≤ k) (u9 : k ≤ 5) (l10 : 3749 ≤ x10) (u10 : x10 ≤ 20579973) (l11 : 0 ≤ x11) (u11 : x11 ≤ 3) (f0 : x11 ≠ 1) (e1 : S 492 k = x10) (e0 : S 480 11 = x11) : (True) ∧ (True) ∧ rxIPPW_1 S0 ws S its (k + 1) ∧ rxmPPW_1 S0 ws S its (k + 1) < rxmPPW_1 S0 ws S its k := by
  obtain ⟨hI, hx⟩ := hinv
  obtain ⟨a_, b_, c_, d_⟩ := rxcPP_1_0 hP hin I0 hI l8 u8 l9 u9 l10 u10 l11 u11 f0 e1 e0
  exact ⟨a_, b_, ⟨c_, (fun c hD => by
    have e := hI.1
    subst e
    obtain ⟨w, w1, w2, w3, w4⟩ := rzCk_492 c (k := k) (by omega) (by omega)
    have z : rzIs (rzCut (S 485)) (S 480 8) w (S 480 9) = false := rzDq_no hD w3 rfl (by omega)
    rcases hx c hD with ⟨g1, g2⟩ | g
    · refine Or.inl ⟨g1, fun j a b v hv => ?_⟩
      by_cases hj : j = k
      · subst hj
        have e := Option.some.inj (w1.symm.trans hv)
        subst e
        exact z
      · exact g2 j a (by omega) v hv
    · exact Or.inr g)⟩, d_⟩
theorem rxgPPW_1_0 {X : (Nat → Int → Int) → Prop} {S0 : Nat → Int → Int} {ws : List Int} (hP : rxPPPW S0 ws) : bx_obC rxL X S0 rxCPPW.2.2.1 (rxIPPW S0 ws) (rxmPPW S0 ws) 1 rxzPPW_1 rxoPPW_1_0 := by
  intro S S_p r r_p hinv hX hin hsm_ hseg
  obtain ⟨I0, I1, h0_, hr_, b_, f_, d_⟩ := bx_cl (evs := [(0, (0, 480), (0, 11), .inr (0, (11, 0))), (0, (0, 492), (9, 0), .inr (1, (10, 0)))]) (fvs := [(3, (11, 0), (0, 1), (0, 0))]) hseg (by decide +kernel) (by decide +kernel)
  have hinv : rxIPPW_1 S0 ws S (r 8) (r 9) := hinv
  rw [← hr_ 8 (by decide), ← hr_ 9 (by decide)] at hinv
  obtain ⟨⟨l8, u8⟩, ⟨l9, u9⟩, ⟨l10, u10⟩, ⟨l11, u11⟩, -⟩ := b_
  obtain ⟨f0, -⟩ := f_
  obtain ⟨e0, ⟨e1, w_⟩⟩ := d_
  subst w_
  have g := rxcPPW_1_0 hP hin I0 hinv l8 u8 l9 u9 l10 u10 l11 u11 f0 e1 e0
  refine ⟨bx_narP_ok (l := []) g.1, bx_nfP_ok h0_ (fvs := []) (by decide +kernel) g.2.1, ?_, ?_⟩
  · show rxIPPW_1 S0 ws S_p (bx_val [(0, 0), (0, 0), (0, 0), (0, 0), (0, 0), (0, 0), (0, 0), (0, 0), (8, 0), (9, 1)] r_p 8) (bx_val [(0, 0), (0, 0), (0, 0), (0, 0), (0, 0), (0, 0), (0, 0), (0, 0), (8, 0), (9, 1)] r_p 9)
    rw [bx_val_x (n := 8) (e := (8, 0)) h0_ rfl, bx_val_x (n := 9) (e := (9, 1)) h0_ rfl]
    exact g.2.2.1
  · show rxmPPW_1 S0 ws S_p (bx_val [(0, 0), (0, 0), (0, 0), (0, 0), (0, 0), (0, 0), (0, 0), (0, 0), (8, 0), (9, 1)] r_p 8) (bx_val [(0, 0), (0, 0), (0, 0), (0, 0), (0, 0), (0, 0), (0, 0), (0, 0), (8, 0), (9, 1)] r_p 9) < rxmPPW_1 S0 ws S_p (r 8) (r 9)
    rw [bx_val_x (n := 8) (e := (8, 0)) h0_ rfl, bx_val_x (n := 9) (e := (9, 1)) h0_ rfl, ← hr_ 8 (by decide), ← hr_ 9 (by decide)]
    exact g.2.2.2
theorem rxcPPW_1_1 {S0 : Nat → Int → Int} {ws : List Int} {S : Nat → Int → Int} {its k x10 x11 x12 : Int} (hP : rxPPPW S0 ws) (hin : bx_same rxL (bx_mdl rxCPPW.2.2.1) S0 S) (I0 : bx_Inv rxL S) (hinv : rxIPPW_1 S0 ws S its k) (l8 : (-1) ≤ its) (u8 : its ≤ 8) (l9 : 0 ≤ k) (u9 : k ≤ 5) (l10 : 3749 ≤ x10) (u10 : x10 ≤ 20579973) (l11 : 1 ≤ x11) (u11 : x11 ≤ 1) (l12 : (-9223372036854775808) ≤ x12) (u12 : x12 ≤ 9223372036854775807) (f0 : x12 ≠ x10) (e2 : S 492 k = x10) (e1 : S 480 11 = x11) (e0 : S 480 12 = x12) : (True) ∧ (True) ∧ rxIPPW_1 S0 ws S its (k + 1) ∧ rxmPPW_1 S0 ws S its (k + 1) < rxmPPW_1 S0 ws S its k := by
  obtain ⟨hI, hx⟩ := hinv
  obtain ⟨a_, b_, c_, d_⟩ := rxcPP_1_1 hP hin I0 hI l8 u8 l9 u9 l10 u10 l11 u11 l12 u12 f0 e2 e1 e0
  exact ⟨a_, b_, ⟨c_, (fun c hD => by
    have e := hI.1
    subst e
    obtain ⟨w, w1, w2, w3, w4⟩ := rzCk_492 c (k := k) (by omega) (by omega)
    have z : rzIs (rzCut (S 485)) (S 480 8) w (S 480 9) = false := rzDq_no hD w3 rfl (by omega)
    rcases hx c hD with ⟨g1, g2⟩ | g
    · refine Or.inl ⟨g1, fun j a b v hv => ?_⟩
      by_cases hj : j = k
      · subst hj
        have e := Option.some.inj (w1.symm.trans hv)
        subst e
        exact z
      · exact g2 j a (by omega) v hv
    · exact Or.inr g)⟩, d_⟩
theorem rxgPPW_1_1 {X : (Nat → Int → Int) → Prop} {S0 : Nat → Int → Int} {ws : List Int} (hP : rxPPPW S0 ws) : bx_obC rxL X S0 rxCPPW.2.2.1 (rxIPPW S0 ws) (rxmPPW S0 ws) 1 rxzPPW_1 rxoPPW_1_1 := by
  intro S S_p r r_p hinv hX hin hsm_ hseg
  obtain ⟨I0, I1, h0_, hr_, b_, f_, d_⟩ := bx_cl (evs := [(0, (0, 480), (0, 12), .inr (1, (12, 0))), (0, (0, 480), (0, 11), .inr (0, (11, 0))), (0, (0, 492), (9, 0), .inr (1, (10, 0)))]) (fvs := [(3, (12, 0), (10, 0), (0, 0))]) hseg (by decide +kernel) (by decide +kernel)
  have hinv : rxIPPW_1 S0 ws S (r 8) (r 9) := hinv
  rw [← hr_ 8 (by decide), ← hr_ 9 (by decide)] at hinv
  obtain ⟨⟨l8, u8⟩, ⟨l9, u9⟩, ⟨l10, u10⟩, ⟨l11, u11⟩, ⟨l12, u12⟩, -⟩ := b_
  obtain ⟨f0, -⟩ := f_
  obtain ⟨e0, ⟨e1, ⟨e2, w_⟩⟩⟩ := d_
  subst w_
  have g := rxcPPW_1_1 hP hin I0 hinv l8 u8 l9 u9 l10 u10 l11 u11 l12 u12 f0 e2 e1 e0
  refine ⟨bx_narP_ok (l := []) g.1, bx_nfP_ok h0_ (fvs := []) (by decide +kernel) g.2.1, ?_, ?_⟩
  · show rxIPPW_1 S0 ws S_p (bx_val [(0, 0), (0, 0), (0, 0), (0, 0), (0, 0), (0, 0), (0, 0), (0, 0), (8, 0), (9, 1)] r_p 8) (bx_val [(0, 0), (0, 0), (0, 0), (0, 0), (0, 0), (0, 0), (0, 0), (0, 0), (8, 0), (9, 1)] r_p 9)
    rw [bx_val_x (n := 8) (e := (8, 0)) h0_ rfl, bx_val_x (n := 9) (e := (9, 1)) h0_ rfl]
    exact g.2.2.1
  · show rxmPPW_1 S0 ws S_p (bx_val [(0, 0), (0, 0), (0, 0), (0, 0), (0, 0), (0, 0), (0, 0), (0, 0), (8, 0), (9, 1)] r_p 8) (bx_val [(0, 0), (0, 0), (0, 0), (0, 0), (0, 0), (0, 0), (0, 0), (0, 0), (8, 0), (9, 1)] r_p 9) < rxmPPW_1 S0 ws S_p (r 8) (r 9)
    rw [bx_val_x (n := 8) (e := (8, 0)) h0_ rfl, bx_val_x (n := 9) (e := (9, 1)) h0_ rfl, ← hr_ 8 (by decide), ← hr_ 9 (by decide)]
    exact g.2.2.2
theorem rxcPPW_1_2 {S0 : Nat → Int → Int} {ws : List Int} {S : Nat → Int → Int} {its k x10 x11 x12 : Int} (hP : rxPPPW S0 ws) (hin : bx_same rxL (bx_mdl rxCPPW.2.2.1) S0 S) (I0 : bx_Inv rxL S) (hinv : rxIPPW_1 S0 ws S its k) (l8 : (-1) ≤ its) (u8 : its ≤ 8) (l9 : 0 ≤ k) (u9 : k ≤ 5) (l10 : 3749 ≤ x10) (u10 : x10 ≤ 20579973) (l11 : 1 ≤ x11) (u11 : x11 ≤ 1) (l12 : 3749 ≤ x12) (u12 : x12 ≤ 20579973) (f0 : x12 = x10) (e2 : S 492 k = x10) (e1 : S 480 11 = x11) (e0 : S 480 12 = x12) : (True) ∧ (True) ∧ rxIPPW_1 S0 ws S (k + 1) (k + 1) ∧ rxmPPW_1 S0 ws S (k + 1) (k + 1) < rxmPPW_1 S0 ws S its k := by
  obtain ⟨hI, hx⟩ := hinv
  obtain ⟨a_, b_, c_, d_⟩ := rxcPP_1_2 hP hin I0 hI l8 u8 l9 u9 l10 u10 l11 u11 l12 u12 f0 e2 e1 e0
  exact ⟨a_, b_, ⟨c_, (fun c hD => by
    have e := hI.1
    subst e
    obtain ⟨w, w1, w2, w3, w4⟩ := rzCk_492 c (k := k) (by omega) (by omega)
    exact Or.inr ⟨w, by omega, by omega, (rzDq_is hD w3 (by omega : rzHw w = x10)).mp ⟨by omega, by omega⟩⟩)⟩, d_⟩
theorem rxgPPW_1_2 {X : (Nat → Int → Int) → Prop} {S0 : Nat → Int → Int} {ws : List Int} (hP : rxPPPW S0 ws) : bx_obC rxL X S0 rxCPPW.2.2.1 (rxIPPW S0 ws) (rxmPPW S0 ws) 1 rxzPPW_1 rxoPPW_1_2 := by
  intro S S_p r r_p hinv hX hin hsm_ hseg
  obtain ⟨I0, I1, h0_, hr_, b_, f_, d_⟩ := bx_cl (evs := [(0, (0, 480), (0, 12), .inr (1, (12, 0))), (0, (0, 480), (0, 11), .inr (0, (11, 0))), (0, (0, 492), (9, 0), .inr (1, (10, 0)))]) (fvs := [(2, (12, 0), (10, 0), (0, 0))]) hseg (by decide +kernel) (by decide +kernel)
  have hinv : rxIPPW_1 S0 ws S (r 8) (r 9) := hinv
  rw [← hr_ 8 (by decide), ← hr_ 9 (by decide)] at hinv
  obtain ⟨⟨l8, u8⟩, ⟨l9, u9⟩, ⟨l10, u10⟩, ⟨l11, u11⟩, ⟨l12, u12⟩, -⟩ := b_
  obtain ⟨f0, -⟩ := f_
  obtain ⟨e0, ⟨e1, ⟨e2, w_⟩⟩⟩ := d_
  subst w_
  have g := rxcPPW_1_2 hP hin I0 hinv l8 u8 l9 u9 l10 u10 l11 u11 l12 u12 f0 e2 e1 e0
  refine ⟨bx_narP_ok (l := []) g.1, bx_nfP_ok h0_ (fvs := []) (by decide +kernel) g.2.1, ?_, ?_⟩
  · show rxIPPW_1 S0 ws S_p (bx_val [(0, 0), (0, 0), (0, 0), (0, 0), (0, 0), (0, 0), (0, 0), (0, 0), (9, 1), (9, 1)] r_p 8) (bx_val [(0, 0), (0, 0), (0, 0), (0, 0), (0, 0), (0, 0), (0, 0), (0, 0), (9, 1), (9, 1)] r_p 9)
    rw [bx_val_x (n := 8) (e := (9, 1)) h0_ rfl, bx_val_x (n := 9) (e := (9, 1)) h0_ rfl]
    exact g.2.2.1
  · show rxmPPW_1 S0 ws S_p (bx_val [(0, 0), (0, 0), (0, 0), (0, 0), (0, 0), (0, 0), (0, 0), (0, 0), (9, 1), (9, 1)] r_p 8) (bx_val [(0, 0), (0, 0), (0, 0), (0, 0), (0, 0), (0, 0), (0, 0), (0, 0), (9, 1), (9, 1)] r_p 9) < rxmPPW_1 S0 ws S_p (r 8) (r 9)
    rw [bx_val_x (n := 8) (e := (9, 1)) h0_ rfl, bx_val_x (n := 9) (e := (9, 1)) h0_ rfl, ← hr_ 8 (by decide), ← hr_ 9 (by decide)]
    exact g.2.2.2
theorem rxdPPW_1_0 {S0 : Nat → Int → Int} {ws : List Int} {S : Nat → Int → Int} {its k : Int} (hP : rxPPPW S0 ws) (hin : bx_same rxL (bx_mdl rxCPPW.2.2.1) S0 S) (hin2 : bx_same rxL (bx_mdl rxCPPW.2.2.1) S S) (I0 : bx_Inv rxL S) (I1 : bx_Inv rxL S) (hinv : rxIPPW_1 S0 ws S its k) (l8 : (-1) ≤ its) (u8 : its ≤ 8) (l9 : 6 ≤ k) (u9 : k ≤ 6) : (True) ∧ rxPSPPW S0 ws S (some its) := by
  obtain ⟨hI, hx⟩ := hinv
  obtain ⟨a_, c_⟩ := rxdPP_1_0 hP hin hin2 I0 I1 hI l8 u8 l9 u9
  exact ⟨a_, c_, (fun c hD => by
    have e := hI.1
    subst e
    refine ⟨its, rfl, ?_⟩
    have hk : k = 6 := by omega
    rcases hx c hD with ⟨g1, g2⟩ | ⟨w, g1, g2, g3⟩
    · rw [rzIxnw (m := 6) rfl fun j a b => g2 j a (by omega), if_neg (by decide)]
      exact g1
    · rw [rzIxn_u g3, if_pos g2]
      exact g1.symm)⟩
theorem rxfPPW_1_0 {X : (Nat → Int → Int) → Prop} {S0 : Nat → Int → Int} {ws : List Int} (hP : rxPPPW S0 ws) : bx_obE rxL X S0 rxCPPW.2.2.1 (rxIPPW S0 ws) (rxPSPPW S0 ws) 1 rxzPPW_1 rxePPW_1_0 := by
  intro S S_p r r_p hinv hX hin hsm_ hseg
  obtain ⟨I0, I1, h0_, hr_, b_, f_, d_⟩ := bx_cl (evs := []) (fvs := []) hseg (by decide +kernel) (by decide +kernel)
  have hinv : rxIPPW_1 S0 ws S (r 8) (r 9) := hinv
  rw [← hr_ 8 (by decide), ← hr_ 9 (by decide)] at hinv
  obtain ⟨⟨l8, u8⟩, ⟨l9, u9⟩, -⟩ := b_
  have w_ := d_
  subst w_
  have g := rxdPPW_1_0 hP hin hsm_ I0 I1 hinv l8 u8 l9 u9
  refine ⟨bx_narP_ok (l := []) g.1, ?_⟩
  show rxPSPPW S0 ws S_p (some (bx_num r_p (.inr (0, (8, 0)))))
  rw [bx_xv_ok h0_]
  exact g.2
theorem rxgCPPW {X : (Nat → Int → Int) → Prop} {S0 : Nat → Int → Int} {ws : List Int} (hP : rxPPPW S0 ws) : bx_allI (fun i q => rxUPPW q = true ∨ bx_allP (fun o => bx_obC rxL X S0 rxCPPW.2.2.1 (rxIPPW S0 ws) (rxmPPW S0 ws) i q.1 o) q.2.1) 0 rxYPPW := ⟨Or.inr ⟨rxgPPW_0_0 hP, trivial⟩, Or.inr ⟨rxgPPW_1_0 hP, rxgPPW_1_1 hP, rxgPPW_1_2 hP, trivial⟩, trivial⟩
theorem rxgEPPW {X : (Nat → Int → Int) → Prop} {S0 : Nat → Int → Int} {ws : List Int} (hP : rxPPPW S0 ws) : bx_allI (fun i q => rxUPPW q = true ∨ bx_allP (fun E => bx_obE rxL X S0 rxCPPW.2.2.1 (rxIPPW S0 ws) (rxPSPPW S0 ws) i q.1 E) q.2.2) 0 rxYPPW := ⟨Or.inr trivial, Or.inr ⟨rxfPPW_1_0 hP, trivial⟩, trivial⟩
theorem rxQPPW {PX : State → Prop} {Dg : va_G} {A : Nat → Prop} {ad xa : Nat → Nat} {l : Launch} {X : (Nat → Int → Int) → Prop} (hPX : rx_PXOK rxNW A PX) (hsl : ∀ s : State, PX s → ∀ o idx n : Nat, rxSl o idx = some n → ∃ tx : String, vk_R (rxNm o) idx tx (ad n) s)
    (hX : ∀ S S_p : Nat → Int → Int, X S → bx_same rxL (bx_mdl rxCPPW.2.2.1) S S_p → X S_p)
    (ih : ∀ (j2 : Nat) (ct2 : bx_Ct) (M2 : rx_Mt), ct2 ∈ rxCnE j2 → ct2.2.2.2.1 + 1 ≤ rxCPPW.2.2.2.1 → rxT.2.2.2.2.2 j2 = some M2 → bx_Con rxG rxNW rxAO PX Dg rxL X vwCl A ad l M2 ct2) : bx_ConP rxG rxNW rxAO PX Dg rxL X vwCl A ad l rxM271 rxCPPW rxPPPW rxPSPPW :=
  rxQof (xa := xa) (Cn := rxCnE) (f := 30000) (j := 271) (tab := rxYPPW) (us := rxUPPW) hPX hsl hX ih rfl rxYcPPW rxIPPW rxmPPW
    (fun S0 ws r I0 I ht0 ht as he he1 hX0 hI0 hP hs ha => by
      have e := he.symm.trans (show bx_ent0 rxNP rxCPPW.1 bx_I0 [] = some ([(0, 0), (0, 0), (0, 0), (0, 0), (0, 0), (0, 0), (0, 0), (0, 0)], [], [.inr (3, (0, 480))]) from rfl)
      cases e
      subst ha
      have h0 : r 0 = 0 := hs.1
      show rxIPPW_0 S0 _ S0
      refine ⟨⟨rfl, ?_⟩, trivial⟩
      simp only [List.map_cons, List.map_nil, bx_xv_ok h0]
      rfl)
    (fun S0 ws hP => fun i q hq hus => absurd (show false = true from hus) Bool.false_ne_true) (fun S0 ws hP => rxgCPPW hP) (fun S0 ws hP => rxgEPPW hP)
noncomputable def rxCRPW : bx_Ct := ([(3, (1, 480, 0))], some (0, (0, 0, 3)), [(12, 9), (12, 10), (12, 11), (12, 12), (12, 13), (12, 14), (12, 18), (12, 21), (12, 24), (12, 25), (1068, 0), (1069, 0), (1070, 0), (1071, 0)], 4, [])
noncomputable def rxIRPW_0 (S0 : Nat → Int → Int) (ws : List Int) (S : Nat → Int → Int) : Prop := rxIRP_0 S0 ws S ∧ True
noncomputable def rxmRPW_0 (S0 : Nat → Int → Int) (ws : List Int) (S : Nat → Int → Int) : Nat := rxmRP_0 S0 ws S
noncomputable def rxzRPW_0 : rx_Z := ([(0, 0), (0, 0), (0, 0), (0, 0), (0, 0), (0, 0), (0, 0), (0, 0)], [], [], 0, 0, 0, [(0, .inr (3, (0, 480)))], [])
noncomputable def rxIRPW_1 (S0 : Nat → Int → Int) (ws : List Int) (S : Nat → Int → Int) : Prop := rxIRP_1 S0 ws S ∧ (rzDq S0 → rzSg (rzCut (S0 485)) (S0 480 8) 91 (S0 480 9) = true)
noncomputable def rxmRPW_1 (S0 : Nat → Int → Int) (ws : List Int) (S : Nat → Int → Int) : Nat := rxmRP_1 S0 ws S
noncomputable def rxzRPW_1 : rx_Z := ([(0, 0), (0, 0), (0, 0), (0, 0), (0, 0), (0, 0), (0, 0), (0, 0)], [], [], 0, 0, 12, [(0, .inr (3, (0, 480)))], [.inr (0, (0, 32)), .inr (3, (0, 480))])
noncomputable def rxIRPW_2 (S0 : Nat → Int → Int) (ws : List Int) (S : Nat → Int → Int) : Prop := rxIRP_2 S0 ws S ∧ (rzCk S0 → rzDq S0 → ∀ (tst s : Int) (rest : List Int), rzSr S0 tst (s :: rest) → s ≠ 4 → ¬ (s = 1 ∧ rzIs (rzCut (S0 485)) (S0 480 8) rzW_not (S0 480 9) = true) → ¬ (s = 1 ∧ rzSg (rzCut (S0 485)) (S0 480 8) 40 (S0 480 9) = true) → rzTn S0 S tst (s :: rest) false (some 1))
noncomputable def rxmRPW_2 (S0 : Nat → Int → Int) (ws : List Int) (S : Nat → Int → Int) : Nat := rxmRP_2 S0 ws S
noncomputable def rxzRPW_2 : rx_Z := ([(0, 0), (0, 0), (0, 0), (0, 0), (0, 0), (0, 0), (0, 0), (0, 0)], [], [], 0, 0, 15, [(0, .inr (3, (0, 480)))], [])
noncomputable def rxIRPW_3 (S0 : Nat → Int → Int) (ws : List Int) (S : Nat → Int → Int) : Prop := rxIRP_3 S0 ws S ∧ (rzWr S0 = rzPn ∧ (rzDq S0 → rzSg (rzCut (S0 485)) (S0 480 8) 91 (S0 480 9) = false))
noncomputable def rxmRPW_3 (S0 : Nat → Int → Int) (ws : List Int) (S : Nat → Int → Int) : Nat := rxmRP_3 S0 ws S
noncomputable def rxzRPW_3 : rx_Z := ([(0, 0), (0, 0), (0, 0), (0, 0), (0, 0), (0, 0), (0, 0), (0, 0)], [], [], 0, 0, 25, [(0, .inr (3, (0, 480)))], [.inr (3, (0, 480))])
noncomputable def rxIRPW_4 (S0 : Nat → Int → Int) (ws : List Int) (S : Nat → Int → Int) (its : Int) : Prop := rxIRP_4 S0 ws S its ∧ (rzCk S0 → rzDq S0 → rzSg (rzCut (S0 485)) (S0 480 8) 91 (S0 480 9) = false ∧ its = (if 0 ≤ rzIxn (rzCut (S0 485)) (S0 480 8) (S0 480 9) (rzWr S0) 0 then rzIxn (rzCut (S0 485)) (S0 480 8) (S0 480 9) (rzWr S0) 0 + 1 else -1))
noncomputable def rxmRPW_4 (S0 : Nat → Int → Int) (ws : List Int) (S : Nat → Int → Int) (its : Int) : Nat := rxmRP_4 S0 ws S its
noncomputable def rxzRPW_4 : rx_Z := ([(0, 0), (0, 0), (0, 0), (0, 0), (0, 0), (0, 0), (0, 0), (0, 0), ((-1), 8)], [], [], 0, 0, 28, [(0, .inr (3, (0, 480)))], [.inr (0, (8, 0))])
noncomputable def rxIRPW_5 (S0 : Nat → Int → Int) (ws : List Int) (S : Nat → Int → Int) : Prop := rxIRP_5 S0 ws S ∧ (rzWr S0 = rzLn_ ∧ (rzDq S0 → rzSg (rzCut (S0 485)) (S0 480 8) 91 (S0 480 9) = false))
noncomputable def rxmRPW_5 (S0 : Nat → Int → Int) (ws : List Int) (S : Nat → Int → Int) : Nat := rxmRP_5 S0 ws S
noncomputable def rxzRPW_5 : rx_Z := ([(0, 0), (0, 0), (0, 0), (0, 0), (0, 0), (0, 0), (0, 0), (0, 0)], [], [], 0, 0, 32, [(0, .inr (3, (0, 480)))], [.inr (3, (0, 480))])
noncomputable def rxIRPW_6 (S0 : Nat → Int → Int) (ws : List Int) (S : Nat → Int → Int) (its : Int) : Prop := rxIRP_6 S0 ws S its ∧ (rzCk S0 → rzDq S0 → rzSg (rzCut (S0 485)) (S0 480 8) 91 (S0 480 9) = false ∧ its = (if 0 ≤ rzIxn (rzCut (S0 485)) (S0 480 8) (S0 480 9) (rzWr S0) 0 then rzIxn (rzCut (S0 485)) (S0 480 8) (S0 480 9) (rzWr S0) 0 + 1 else -1))
noncomputable def rxmRPW_6 (S0 : Nat → Int → Int) (ws : List Int) (S : Nat → Int → Int) (its : Int) : Nat := rxmRP_6 S0 ws S its
noncomputable def rxzRPW_6 : rx_Z := ([(0, 0), (0, 0), (0, 0), (0, 0), (0, 0), (0, 0), (0, 0), (0, 0), ((-1), 8)], [], [], 0, 0, 35, [(0, .inr (3, (0, 480)))], [.inr (0, (8, 0))])
noncomputable def rxIRPW_7 (S0 : Nat → Int → Int) (ws : List Int) (S : Nat → Int → Int) (is op w_ : Int) : Prop := rxIRP_7 S0 ws S is op w_ ∧ (rzCk S0 → rzDq S0 → rzSg (rzCut (S0 485)) (S0 480 8) 91 (S0 480 9) = false ∧ ((is = 1 ∧ (rzDg (rzCut (S0 485)) (S0 480 8) (S0 480 9) = true ∨ 0 ≤ rzIxn (rzCut (S0 485)) (S0 480 8) (S0 480 9) (rzWr S0) 0) ∧ rzNo (rzCut (S0 485)) (S0 480 8) (S0 480 9) ≤ 1000) ∨ (is = 0 ∧ ¬ ((rzDg (rzCut (S0 485)) (S0 480 8) (S0 480 9) = true ∨ 0 ≤ rzIxn (rzCut (S0 485)) (S0 480 8) (S0 480 9) (rzWr S0) 0) ∧ rzNo (rzCut (S0 485)) (S0 480 8) (S0 480 9) ≤ 1000))))
noncomputable def rxmRPW_7 (S0 : Nat → Int → Int) (ws : List Int) (S : Nat → Int → Int) (is op w_ : Int) : Nat := rxmRP_7 S0 ws S is op w_
noncomputable def rxzRPW_7 : rx_Z := ([(0, 0), (0, 0), (0, 0), (0, 0), (0, 0), (0, 0), (0, 0), (0, 0), (0, 1), (0, 8), (0, 1000)], [], [], 0, 0, 94, [(0, .inr (3, (0, 480)))], [.inr (1, (10, 0)), .inr (0, (9, 0)), .inr (0, (8, 0)), .inr (3, (0, 480))])
noncomputable def rxIRPW_8 (S0 : Nat → Int → Int) (ws : List Int) (S : Nat → Int → Int) (is op arg : Int) : Prop := rxIRP_8 S0 ws S is op arg ∧ (rzCk S0 → rzDq S0 → rzSg (rzCut (S0 485)) (S0 480 8) 91 (S0 480 9) = false ∧ ((is = 1 ∧ (rzDg (rzCut (S0 485)) (S0 480 8) (S0 480 9) = true ∨ 0 ≤ rzIxn (rzCut (S0 485)) (S0 480 8) (S0 480 9) (rzWr S0) 0) ∧ rzNo (rzCut (S0 485)) (S0 480 8) (S0 480 9) ≤ 1000) ∨ (is = 0 ∧ ¬ ((rzDg (rzCut (S0 485)) (S0 480 8) (S0 480 9) = true ∨ 0 ≤ rzIxn (rzCut (S0 485)) (S0 480 8) (S0 480 9) (rzWr S0) 0) ∧ rzNo (rzCut (S0 485)) (S0 480 8) (S0 480 9) ≤ 1000))))
noncomputable def rxmRPW_8 (S0 : Nat → Int → Int) (ws : List Int) (S : Nat → Int → Int) (is op arg : Int) : Nat := rxmRP_8 S0 ws S is op arg
noncomputable def rxzRPW_8 : rx_Z := ([(0, 0), (0, 0), (0, 0), (0, 0), (0, 0), (0, 0), (0, 0), (0, 0), (0, 1), (0, 8), (0, 1000)], [], [], 0, 0, 99, [(0, .inr (3, (0, 480)))], [.inr (0, (10, 0)), .inr (0, (9, 0)), .inr (0, (8, 0)), .inr (3, (0, 480))])
noncomputable def rxIRPW_9 (S0 : Nat → Int → Int) (ws : List Int) (S : Nat → Int → Int) (is op arg : Int) : Prop := rxIRP_9 S0 ws S is op arg ∧ (rzCk S0 → rzDq S0 → ∀ (tst s : Int) (rest : List Int), rzSr S0 tst (s :: rest) → s ≠ 4 → ¬ (s = 1 ∧ rzIs (rzCut (S0 485)) (S0 480 8) rzW_not (S0 480 9) = true) → ¬ (s = 1 ∧ rzSg (rzCut (S0 485)) (S0 480 8) 40 (S0 480 9) = true) → rzTn S0 S tst (s :: rest) false (some 3))
noncomputable def rxmRPW_9 (S0 : Nat → Int → Int) (ws : List Int) (S : Nat → Int → Int) (is op arg : Int) : Nat := rxmRP_9 S0 ws S is op arg
noncomputable def rxzRPW_9 : rx_Z := ([(0, 0), (0, 0), (0, 0), (0, 0), (0, 0), (0, 0), (0, 0), (0, 0), (0, 1), (0, 8), (0, 1000)], [], [], 0, 0, 102, [(0, .inr (3, (0, 480)))], [])
noncomputable def rxoRPW_0_0 : bx_HO := (([(0, 0), (0, 0), (0, 0), (0, 0), (0, 0), (0, 0), (0, 0), (0, 0), (0, 2), (1, 1)], [(3, (9, 0), (0, 0)), (3, (8, 0), (0, 3))], [(((0, 0), 1851192626986356800434940932178653442218339981833571981143834624000000), .inr (0, (9, 0))), (((0, 480), 15), .inr (0, (9, 0))), (((0, 0), 1851192626986356799632114105031551009123054124018230966928539648000000), .inr (0, (8, 0))), (((0, 480), 11), .inr (0, (8, 0)))], 0, 0, 25, [(0, .inr (3, (0, 480)))], [.inr (3, (0, 480))]), [], [], [(0, 0), (0, 0), (0, 0), (0, 0), (0, 0), (0, 0), (0, 0), (0, 0)], 3)
noncomputable def rxoRPW_0_1 : bx_HO := (([(0, 0), (0, 0), (0, 0), (0, 0), (0, 0), (0, 0), (0, 0), (0, 0), (0, 2), (0, 0)], [(3, (8, 0), (0, 3))], [(((0, 0), 1851192626986356800434940932178653442218339981833571981143834624000000), .inr (0, (9, 0))), (((0, 480), 15), .inr (0, (9, 0))), (((0, 0), 1851192626986356799632114105031551009123054124018230966928539648000000), .inr (0, (8, 0))), (((0, 480), 11), .inr (0, (8, 0)))], 0, 0, 32, [(0, .inr (3, (0, 480)))], [.inr (3, (0, 480))]), [], [], [(0, 0), (0, 0), (0, 0), (0, 0), (0, 0), (0, 0), (0, 0), (0, 0)], 5)
noncomputable def rxoRPW_0_2 : bx_HO := (([(0, 0), (0, 0), (0, 0), (0, 0), (0, 0), (0, 0), (0, 0), (0, 0), (3, 3), ((-9223372036854775808), 9223372036854775807), (1, 1)], [(3, (10, 0), (0, 0)), (3, (9, 0), (0, 91))], [(((0, 0), 1851192626986356800434940932178653442218339981833571981143834624000000), .inr (0, (10, 0))), (((0, 480), 15), .inr (0, (10, 0))), (((0, 0), 1851192626986356799832820811818326617396875588472066220482363392000000), .inr (1, (9, 0))), (((0, 480), 12), .inr (1, (9, 0))), (((0, 0), 1851192626986356799632114105031551009123054124018230966928539648000000), .inr (0, (8, 0))), (((0, 480), 11), .inr (0, (8, 0)))], 0, 0, 25, [(0, .inr (3, (0, 480)))], [.inr (3, (0, 480))]), [], [], [(0, 0), (0, 0), (0, 0), (0, 0), (0, 0), (0, 0), (0, 0), (0, 0)], 3)
noncomputable def rxoRPW_0_3 : bx_HO := (([(0, 0), (0, 0), (0, 0), (0, 0), (0, 0), (0, 0), (0, 0), (0, 0), (3, 3), ((-9223372036854775808), 9223372036854775807), (0, 0)], [(3, (9, 0), (0, 91))], [(((0, 0), 1851192626986356800434940932178653442218339981833571981143834624000000), .inr (0, (10, 0))), (((0, 480), 15), .inr (0, (10, 0))), (((0, 0), 1851192626986356799832820811818326617396875588472066220482363392000000), .inr (1, (9, 0))), (((0, 480), 12), .inr (1, (9, 0))), (((0, 0), 1851192626986356799632114105031551009123054124018230966928539648000000), .inr (0, (8, 0))), (((0, 480), 11), .inr (0, (8, 0)))], 0, 0, 32, [(0, .inr (3, (0, 480)))], [.inr (3, (0, 480))]), [], [], [(0, 0), (0, 0), (0, 0), (0, 0), (0, 0), (0, 0), (0, 0), (0, 0)], 5)
noncomputable def rxoRPW_0_4 : bx_HO := (([(0, 0), (0, 0), (0, 0), (0, 0), (0, 0), (0, 0), (0, 0), (0, 0), (3, 3), (91, 91)], [], [(((0, 0), 1851192626986356799832820811818326617396875588472066220482363392000000), .inr (1, (9, 0))), (((0, 480), 12), .inr (1, (9, 0))), (((0, 0), 1851192626986356799632114105031551009123054124018230966928539648000000), .inr (0, (8, 0))), (((0, 480), 11), .inr (0, (8, 0)))], 0, 0, 12, [(0, .inr (3, (0, 480)))], [.inr (0, (0, 32)), .inr (3, (0, 480))]), [], [], [(0, 0), (0, 0), (0, 0), (0, 0), (0, 0), (0, 0), (0, 0), (0, 0)], 1)
noncomputable def rxeRPW_2_0 : rx_End × List (Nat × Int × Int) := (([(0, 0), (0, 0), (0, 0), (0, 0), (0, 0), (0, 0), (0, 0), (0, 0)], [], [], some (.inr (0, (0, 1)))), [])
noncomputable def rxoRPW_4_0 : bx_HO := (([(0, 0), (0, 0), (0, 0), (0, 0), (0, 0), (0, 0), (0, 0), (0, 0), ((-1), (-1)), (2, 2), ((-9223372036854775808), 1000)], [], [(((0, 0), 1851192626986356799832820811818326617396875588472066220482363392000000), .inr (1, (10, 0))), (((0, 480), 12), .inr (1, (10, 0))), (((0, 0), 1851192626986356799632114105031551009123054124018230966928539648000000), .inr (0, (9, 0))), (((0, 480), 11), .inr (0, (9, 0)))], 0, 0, 94, [(2, .inr (0, (0, 1))), (1, .inr (0, (8, 0))), (0, .inr (3, (0, 480)))], [.inr (1, (10, 0)), .inr (0, (0, 0)), .inr (0, (0, 1)), .inr (3, (0, 480))]), [(10, 0, 1000)], [], [(0, 0), (0, 0), (0, 0), (0, 0), (0, 0), (0, 0), (0, 0), (0, 0), (0, 1), (0, 0), (10, 0)], 7)
noncomputable def rxoRPW_4_1 : bx_HO := (([(0, 0), (0, 0), (0, 0), (0, 0), (0, 0), (0, 0), (0, 0), (0, 0), (0, 8), (2, 2), ((-9223372036854775808), 1000)], [(3, (8, 0), (0, (-1))), (3, (8, 0), (0, (-1)))], [(((0, 0), 1851192626986356799832820811818326617396875588472066220482363392000000), .inr (1, (10, 0))), (((0, 480), 12), .inr (1, (10, 0))), (((0, 0), 1851192626986356799632114105031551009123054124018230966928539648000000), .inr (0, (9, 0))), (((0, 480), 11), .inr (0, (9, 0)))], 0, 0, 94, [(2, .inr (0, (0, 1))), (1, .inr (0, (8, 0))), (0, .inr (3, (0, 480)))], [.inr (1, (10, 0)), .inr (0, (8, 0)), .inr (0, (0, 1)), .inr (3, (0, 480))]), [(10, 0, 1000)], [], [(0, 0), (0, 0), (0, 0), (0, 0), (0, 0), (0, 0), (0, 0), (0, 0), (0, 1), (8, 0), (10, 0)], 7)
noncomputable def rxoRPW_4_2 : bx_HO := (([(0, 0), (0, 0), (0, 0), (0, 0), (0, 0), (0, 0), (0, 0), (0, 0), ((-1), (-1)), (2, 2), (1001, 9223372036854775807)], [], [(((0, 0), 1851192626986356799832820811818326617396875588472066220482363392000000), .inr (1, (10, 0))), (((0, 480), 12), .inr (1, (10, 0))), (((0, 0), 1851192626986356799632114105031551009123054124018230966928539648000000), .inr (0, (9, 0))), (((0, 480), 11), .inr (0, (9, 0)))], 0, 0, 99, [(2, .inr (0, (0, 0))), (1, .inr (0, (8, 0))), (0, .inr (3, (0, 480)))], [.inr (0, (0, 0)), .inr (0, (0, 0)), .inr (0, (0, 0)), .inr (3, (0, 480))]), [], [], [(0, 0), (0, 0), (0, 0), (0, 0), (0, 0), (0, 0), (0, 0), (0, 0), (0, 0), (0, 0), (0, 0)], 8)
noncomputable def rxoRPW_4_3 : bx_HO := (([(0, 0), (0, 0), (0, 0), (0, 0), (0, 0), (0, 0), (0, 0), (0, 0), (0, 8), (2, 2), (1001, 9223372036854775807)], [(3, (8, 0), (0, (-1))), (3, (8, 0), (0, (-1)))], [(((0, 0), 1851192626986356799832820811818326617396875588472066220482363392000000), .inr (1, (10, 0))), (((0, 480), 12), .inr (1, (10, 0))), (((0, 0), 1851192626986356799632114105031551009123054124018230966928539648000000), .inr (0, (9, 0))), (((0, 480), 11), .inr (0, (9, 0)))], 0, 0, 99, [(2, .inr (0, (0, 0))), (1, .inr (0, (8, 0))), (0, .inr (3, (0, 480)))], [.inr (0, (0, 0)), .inr (0, (8, 0)), .inr (0, (0, 1)), .inr (3, (0, 480))]), [], [], [(0, 0), (0, 0), (0, 0), (0, 0), (0, 0), (0, 0), (0, 0), (0, 0), (0, 1), (8, 0), (0, 0)], 8)
noncomputable def rxoRPW_4_4 : bx_HO := (([(0, 0), (0, 0), (0, 0), (0, 0), (0, 0), (0, 0), (0, 0), (0, 0), ((-1), (-1)), (0, 3)], [(3, (9, 0), (0, 2))], [(((0, 0), 1851192626986356799632114105031551009123054124018230966928539648000000), .inr (0, (9, 0))), (((0, 480), 11), .inr (0, (9, 0)))], 0, 0, 99, [(2, .inr (0, (0, 0))), (1, .inr (0, (8, 0))), (0, .inr (3, (0, 480)))], [.inr (0, (0, 0)), .inr (0, (0, 0)), .inr (0, (0, 0)), .inr (3, (0, 480))]), [], [], [(0, 0), (0, 0), (0, 0), (0, 0), (0, 0), (0, 0), (0, 0), (0, 0), (0, 0), (0, 0), (0, 0)], 8)
noncomputable def rxoRPW_4_5 : bx_HO := (([(0, 0), (0, 0), (0, 0), (0, 0), (0, 0), (0, 0), (0, 0), (0, 0), (0, 8), (0, 3)], [(3, (8, 0), (0, (-1))), (3, (8, 0), (0, (-1))), (3, (9, 0), (0, 2))], [(((0, 0), 1851192626986356799632114105031551009123054124018230966928539648000000), .inr (0, (9, 0))), (((0, 480), 11), .inr (0, (9, 0)))], 0, 0, 99, [(2, .inr (0, (0, 0))), (1, .inr (0, (8, 0))), (0, .inr (3, (0, 480)))], [.inr (0, (0, 0)), .inr (0, (8, 0)), .inr (0, (0, 1)), .inr (3, (0, 480))]), [], [], [(0, 0), (0, 0), (0, 0), (0, 0), (0, 0), (0, 0), (0, 0), (0, 0), (0, 1), (8, 0), (0, 0)], 8)
noncomputable def rxoRPW_6_0 : bx_HO := (([(0, 0), (0, 0), (0, 0), (0, 0), (0, 0), (0, 0), (0, 0), (0, 0), ((-1), (-1)), (2, 2), ((-9223372036854775808), 1000)], [], [(((0, 0), 1851192626986356799832820811818326617396875588472066220482363392000000), .inr (1, (10, 0))), (((0, 480), 12), .inr (1, (10, 0))), (((0, 0), 1851192626986356799632114105031551009123054124018230966928539648000000), .inr (0, (9, 0))), (((0, 480), 11), .inr (0, (9, 0)))], 0, 0, 94, [(2, .inr (0, (0, 1))), (1, .inr (0, (8, 0))), (0, .inr (3, (0, 480)))], [.inr (1, (10, 0)), .inr (0, (0, 0)), .inr (0, (0, 1)), .inr (3, (0, 480))]), [(10, 0, 1000)], [], [(0, 0), (0, 0), (0, 0), (0, 0), (0, 0), (0, 0), (0, 0), (0, 0), (0, 1), (0, 0), (10, 0)], 7)
noncomputable def rxoRPW_6_1 : bx_HO := (([(0, 0), (0, 0), (0, 0), (0, 0), (0, 0), (0, 0), (0, 0), (0, 0), (0, 8), (2, 2), ((-9223372036854775808), 1000)], [(3, (8, 0), (0, (-1))), (3, (8, 0), (0, (-1)))], [(((0, 0), 1851192626986356799832820811818326617396875588472066220482363392000000), .inr (1, (10, 0))), (((0, 480), 12), .inr (1, (10, 0))), (((0, 0), 1851192626986356799632114105031551009123054124018230966928539648000000), .inr (0, (9, 0))), (((0, 480), 11), .inr (0, (9, 0)))], 0, 0, 94, [(2, .inr (0, (0, 1))), (1, .inr (0, (8, 0))), (0, .inr (3, (0, 480)))], [.inr (1, (10, 0)), .inr (0, (8, 0)), .inr (0, (0, 1)), .inr (3, (0, 480))]), [(10, 0, 1000)], [], [(0, 0), (0, 0), (0, 0), (0, 0), (0, 0), (0, 0), (0, 0), (0, 0), (0, 1), (8, 0), (10, 0)], 7)
noncomputable def rxoRPW_6_2 : bx_HO := (([(0, 0), (0, 0), (0, 0), (0, 0), (0, 0), (0, 0), (0, 0), (0, 0), ((-1), (-1)), (2, 2), (1001, 9223372036854775807)], [], [(((0, 0), 1851192626986356799832820811818326617396875588472066220482363392000000), .inr (1, (10, 0))), (((0, 480), 12), .inr (1, (10, 0))), (((0, 0), 1851192626986356799632114105031551009123054124018230966928539648000000), .inr (0, (9, 0))), (((0, 480), 11), .inr (0, (9, 0)))], 0, 0, 99, [(2, .inr (0, (0, 0))), (1, .inr (0, (8, 0))), (0, .inr (3, (0, 480)))], [.inr (0, (0, 0)), .inr (0, (0, 0)), .inr (0, (0, 0)), .inr (3, (0, 480))]), [], [], [(0, 0), (0, 0), (0, 0), (0, 0), (0, 0), (0, 0), (0, 0), (0, 0), (0, 0), (0, 0), (0, 0)], 8)
noncomputable def rxoRPW_6_3 : bx_HO := (([(0, 0), (0, 0), (0, 0), (0, 0), (0, 0), (0, 0), (0, 0), (0, 0), (0, 8), (2, 2), (1001, 9223372036854775807)], [(3, (8, 0), (0, (-1))), (3, (8, 0), (0, (-1)))], [(((0, 0), 1851192626986356799832820811818326617396875588472066220482363392000000), .inr (1, (10, 0))), (((0, 480), 12), .inr (1, (10, 0))), (((0, 0), 1851192626986356799632114105031551009123054124018230966928539648000000), .inr (0, (9, 0))), (((0, 480), 11), .inr (0, (9, 0)))], 0, 0, 99, [(2, .inr (0, (0, 0))), (1, .inr (0, (8, 0))), (0, .inr (3, (0, 480)))], [.inr (0, (0, 0)), .inr (0, (8, 0)), .inr (0, (0, 1)), .inr (3, (0, 480))]), [], [], [(0, 0), (0, 0), (0, 0), (0, 0), (0, 0), (0, 0), (0, 0), (0, 0), (0, 1), (8, 0), (0, 0)], 8)
noncomputable def rxoRPW_6_4 : bx_HO := (([(0, 0), (0, 0), (0, 0), (0, 0), (0, 0), (0, 0), (0, 0), (0, 0), ((-1), (-1)), (0, 3)], [(3, (9, 0), (0, 2))], [(((0, 0), 1851192626986356799632114105031551009123054124018230966928539648000000), .inr (0, (9, 0))), (((0, 480), 11), .inr (0, (9, 0)))], 0, 0, 99, [(2, .inr (0, (0, 0))), (1, .inr (0, (8, 0))), (0, .inr (3, (0, 480)))], [.inr (0, (0, 0)), .inr (0, (0, 0)), .inr (0, (0, 0)), .inr (3, (0, 480))]), [], [], [(0, 0), (0, 0), (0, 0), (0, 0), (0, 0), (0, 0), (0, 0), (0, 0), (0, 0), (0, 0), (0, 0)], 8)
noncomputable def rxoRPW_6_5 : bx_HO := (([(0, 0), (0, 0), (0, 0), (0, 0), (0, 0), (0, 0), (0, 0), (0, 0), (0, 8), (0, 3)], [(3, (8, 0), (0, (-1))), (3, (8, 0), (0, (-1))), (3, (9, 0), (0, 2))], [(((0, 0), 1851192626986356799632114105031551009123054124018230966928539648000000), .inr (0, (9, 0))), (((0, 480), 11), .inr (0, (9, 0)))], 0, 0, 99, [(2, .inr (0, (0, 0))), (1, .inr (0, (8, 0))), (0, .inr (3, (0, 480)))], [.inr (0, (0, 0)), .inr (0, (8, 0)), .inr (0, (0, 1)), .inr (3, (0, 480))]), [], [], [(0, 0), (0, 0), (0, 0), (0, 0), (0, 0), (0, 0), (0, 0), (0, 0), (0, 1), (8, 0), (0, 0)], 8)
noncomputable def rxoRPW_7_0 : bx_HO := (([(0, 0), (0, 0), (0, 0), (0, 0), (0, 0), (0, 0), (0, 0), (0, 0), (0, 1), (0, 8), (0, 1000)], [], [], 0, 0, 99, [(0, .inr (3, (0, 480)))], [.inr (0, (10, 0)), .inr (0, (9, 0)), .inr (0, (8, 0)), .inr (3, (0, 480))]), [], [], [(0, 0), (0, 0), (0, 0), (0, 0), (0, 0), (0, 0), (0, 0), (0, 0), (8, 0), (9, 0), (10, 0)], 8)
noncomputable def rxeRPW_9_0 : rx_End × List (Nat × Int × Int) := (([(0, 0), (0, 0), (0, 0), (0, 0), (0, 0), (0, 0), (0, 0), (0, 0), (0, 1), (0, 8), (0, 1000)], [], [], some (.inr (0, (0, 3)))), [])
noncomputable def rxYRPW : List bx_HE := [(rxzRPW_0, [rxoRPW_0_0, rxoRPW_0_1, rxoRPW_0_2, rxoRPW_0_3, rxoRPW_0_4], []), (rxzRPW_1, [], []), (rxzRPW_2, [], [rxeRPW_2_0]), (rxzRPW_3, [], []), (rxzRPW_4, [rxoRPW_4_0, rxoRPW_4_1, rxoRPW_4_2, rxoRPW_4_3, rxoRPW_4_4, rxoRPW_4_5], []), (rxzRPW_5, [], []), (rxzRPW_6, [rxoRPW_6_0, rxoRPW_6_1, rxoRPW_6_2, rxoRPW_6_3, rxoRPW_6_4, rxoRPW_6_5], []), (rxzRPW_7, [rxoRPW_7_0], []), (rxzRPW_8, [], []), (rxzRPW_9, [], [rxeRPW_9_0])]
noncomputable def rxURPW (q : bx_HE) : Bool := Nat.beq (rx_zpc q.1) 12 || Nat.beq (rx_zpc q.1) 25 || Nat.beq (rx_zpc q.1) 32 || Nat.beq (rx_zpc q.1) 99
noncomputable def rxYBRPW : bx_B := (rxV, rxNP, rxDmf, bx_mdH rxCRPW.2.2.1)
set_option maxRecDepth 100000 in
theorem rxYcRPW : bx_chkH rxYBRPW rxM274 rxCRPW rxYRPW (rxURPW, fun cut z => rx_ex2 (rxCT rxYBRPW rxCnE) cut 30000 rxCRPW.2.2.2.1 274 z) = true := by decide +kernel
noncomputable def rxIRPW (S0 : Nat → Int → Int) (ws : List Int) (i : Nat) : bx_SP := fun S r => match i with | 0 => rxIRPW_0 S0 ws S | 1 => rxIRPW_1 S0 ws S | 2 => rxIRPW_2 S0 ws S | 3 => rxIRPW_3 S0 ws S | 4 => rxIRPW_4 S0 ws S (r 8) | 5 => rxIRPW_5 S0 ws S | 6 => rxIRPW_6 S0 ws S (r 8) | 7 => rxIRPW_7 S0 ws S (r 8) (r 9) (r 10) | 8 => rxIRPW_8 S0 ws S (r 8) (r 9) (r 10) | 9 => rxIRPW_9 S0 ws S (r 8) (r 9) (r 10) | _ => False
noncomputable def rxmRPW (S0 : Nat → Int → Int) (ws : List Int) (i : Nat) (S : Nat → Int → Int) (r : Nat → Int) : Nat := match i with | 0 => rxmRPW_0 S0 ws S | 1 => rxmRPW_1 S0 ws S | 2 => rxmRPW_2 S0 ws S | 3 => rxmRPW_3 S0 ws S | 4 => rxmRPW_4 S0 ws S (r 8) | 5 => rxmRPW_5 S0 ws S | 6 => rxmRPW_6 S0 ws S (r 8) | 7 => rxmRPW_7 S0 ws S (r 8) (r 9) (r 10) | 8 => rxmRPW_8 S0 ws S (r 8) (r 9) (r 10) | 9 => rxmRPW_9 S0 ws S (r 8) (r 9) (r 10) | _ => 0
noncomputable def rxPRPW (S0 : Nat → Int → Int) (ws : List Int) : Prop := rxPRP S0 ws
noncomputable def rxPSRPW (S0 : Nat → Int → Int) (ws : List Int) (S : Nat → Int → Int) (w : Option Int) : Prop := rxPSRP S0 ws S w ∧ (rzCk S0 → rzDq S0 → ∀ (tst s : Int) (rest : List Int), rzSr S0 tst (s :: rest) → s ≠ 4 → ¬ (s = 1 ∧ rzIs (rzCut (S0 485)) (S0 480 8) rzW_not (S0 480 9) = true) → ¬ (s = 1 ∧ rzSg (rzCut (S0 485)) (S0 480 8) 40 (S0 480 9) = true) → rzTn S0 S tst (s :: rest) false w)
theorem rxkRPW_1 {S0 : Nat → Int → Int} {ws : List Int} {S : Nat → Int → Int} (hP : rxPRPW S0 ws) (hin : bx_same rxL (bx_mdl rxCRPW.2.2.1) S0 S) (I0 : bx_Inv rxL S) (hinv : rxIRPW_1 S0 ws S)  : rxPOBW S [480, 32] ∧ ∀ (S_p : Nat → Int → Int), rxPSOBW S [480, 32] S_p none → bx_Inv rxL S_p → bx_same rxL (bx_mdl rxCOBW.2.2.1) S S_p → rxIRPW_2 S0 ws S_p ∧ rxmRPW_2 S0 ws S_p < rxmRPW_1 S0 ws S := by
  obtain ⟨hI, hx⟩ := hinv
  have g_ := rxkRP_1 hP hin I0 hI
  exact ⟨g_.1, fun S_p hq I1 hsm => ⟨⟨(g_.2 S_p hq.2.1 I1 hsm).1, (fun c hD tst s rest r h4 hn h40 => by
    have e := hI.1
    subst e
    have g := hq.2.2 hD
    refine rzTn_sq hD (hx hD) r h4 hn h40 ⟨fun z => ?_, g.2⟩
    obtain ⟨a, b, p, op, hw, ho⟩ := g.1 z
    have he : (32 : Int) = op := Option.some.inj (congrArg (fun l : List Int => l[1]?) hw)
    exact ⟨a, b, p, by omega⟩)⟩, (g_.2 S_p hq.2.1 I1 hsm).2⟩⟩
theorem rxsRPW_1 {X : (Nat → Int → Int) → Prop} {S0 : Nat → Int → Int} {ws : List Int} (hP : rxPRPW S0 ws) : rx_obK X S0 rxCRPW.2.2.1 rxCOBW.2.2.1 (rxIRPW S0 ws) (rxmRPW S0 ws) 1 2 rxzRPW_1 rxzRPW_2 [.inr (3, (0, 480)), .inr (0, (0, 32))] none rxPOBW rxPSOBW := by
  intro S r hinv hXS I0 hin hs_ hf_
  have b_ := bx_bds_sat hs_
  have f_ := bx_fcl_ok hs_.1 hf_
  have g := rxkRPW_1 hP hin I0 hinv 
  have ea : List.map (bx_num r) [.inr (3, (0, 480)), .inr (0, (0, 32))] = [480, 32] := by
    simp only [List.map_cons, List.map_nil, bx_xv_ok hs_.1]
    rfl
  rw [ea]
  refine ⟨g.1, fun S_p w r_p hPS hX_p I1 hsm hr hw hs_p => ?_⟩
  have hw : w = none := hPS.1
  subst hw
  have g2 := g.2 S_p hPS I1 hsm
  show rxIRPW_2 S0 ws S_p ∧ rxmRPW_2 S0 ws S_p < _
  exact g2
theorem rxkRPW_3 {S0 : Nat → Int → Int} {ws : List Int} {S : Nat → Int → Int} (hP : rxPRPW S0 ws) (hin : bx_same rxL (bx_mdl rxCRPW.2.2.1) S0 S) (I0 : bx_Inv rxL S) (hinv : rxIRPW_3 S0 ws S)  : rxPPPW S [480] ∧ ∀ (S_p : Nat → Int → Int) (its : Int), (-1) ≤ its → its ≤ 8 → rxPSPPW S [480] S_p (some its) → bx_Inv rxL S_p → bx_same rxL (bx_mdl rxCPPW.2.2.1) S S_p → rxIRPW_4 S0 ws S_p its ∧ rxmRPW_4 S0 ws S_p its < rxmRPW_3 S0 ws S := by
  obtain ⟨hI, hx⟩ := hinv
  have g_ := rxkRP_3 hP hin I0 hI
  exact ⟨g_.1, fun S_p its l_ u_ hq I1 hsm => ⟨⟨(g_.2 S_p its l_ u_ hq.1 I1 hsm).1, (fun c hD => by
    have e : S = S0 := hI
    subst e
    obtain ⟨e2, -⟩ := hq.1
    subst e2
    refine ⟨hx.2 hD, ?_⟩
    obtain ⟨its2, w1, w2⟩ := hq.2 c hD
    have w1 := Option.some.inj w1
    rw [← w1] at w2
    rw [hx.1]
    exact w2)⟩, (g_.2 S_p its l_ u_ hq.1 I1 hsm).2⟩⟩
theorem rxsRPW_3 {X : (Nat → Int → Int) → Prop} {S0 : Nat → Int → Int} {ws : List Int} (hP : rxPRPW S0 ws) : rx_obK X S0 rxCRPW.2.2.1 rxCPPW.2.2.1 (rxIRPW S0 ws) (rxmRPW S0 ws) 3 4 rxzRPW_3 rxzRPW_4 [.inr (3, (0, 480))] (some 8) rxPPPW rxPSPPW := by
  intro S r hinv hXS I0 hin hs_ hf_
  have b_ := bx_bds_sat hs_
  have f_ := bx_fcl_ok hs_.1 hf_
  have g := rxkRPW_3 hP hin I0 hinv 
  have ea : List.map (bx_num r) [.inr (3, (0, 480))] = [480] := by
    simp only [List.map_cons, List.map_nil, bx_xv_ok hs_.1]
    rfl
  rw [ea]
  refine ⟨g.1, fun S_p w r_p hPS hX_p I1 hsm hr hw hs_p => ?_⟩
  have hw := hw _ rfl
  subst hw
  have b_p := hs_p.2.2 8 _ _ rfl
  have g2 := g.2 S_p (r_p 8) b_p.1 b_p.2 hPS I1 hsm
  show rxIRPW_4 S0 ws S_p (r_p 8) ∧ rxmRPW_4 S0 ws S_p (r_p 8) < _
  exact g2
theorem rxkRPW_5 {S0 : Nat → Int → Int} {ws : List Int} {S : Nat → Int → Int} (hP : rxPRPW S0 ws) (hin : bx_same rxL (bx_mdl rxCRPW.2.2.1) S0 S) (I0 : bx_Inv rxL S) (hinv : rxIRPW_5 S0 ws S)  : rxPPAW S [480] ∧ ∀ (S_p : Nat → Int → Int) (its : Int), (-1) ≤ its → its ≤ 8 → rxPSPAW S [480] S_p (some its) → bx_Inv rxL S_p → bx_same rxL (bx_mdl rxCPAW.2.2.1) S S_p → rxIRPW_6 S0 ws S_p its ∧ rxmRPW_6 S0 ws S_p its < rxmRPW_5 S0 ws S := by
  obtain ⟨hI, hx⟩ := hinv
  have g_ := rxkRP_5 hP hin I0 hI
  exact ⟨g_.1, fun S_p its l_ u_ hq I1 hsm => ⟨⟨(g_.2 S_p its l_ u_ hq.1 I1 hsm).1, (fun c hD => by
    have e : S = S0 := hI
    subst e
    obtain ⟨e2, -⟩ := hq.1
    subst e2
    refine ⟨hx.2 hD, ?_⟩
    obtain ⟨its2, w1, w2⟩ := hq.2 c hD
    have w1 := Option.some.inj w1
    rw [← w1] at w2
    rw [hx.1]
    exact w2)⟩, (g_.2 S_p its l_ u_ hq.1 I1 hsm).2⟩⟩
theorem rxsRPW_5 {X : (Nat → Int → Int) → Prop} {S0 : Nat → Int → Int} {ws : List Int} (hP : rxPRPW S0 ws) : rx_obK X S0 rxCRPW.2.2.1 rxCPAW.2.2.1 (rxIRPW S0 ws) (rxmRPW S0 ws) 5 6 rxzRPW_5 rxzRPW_6 [.inr (3, (0, 480))] (some 8) rxPPAW rxPSPAW := by
  intro S r hinv hXS I0 hin hs_ hf_
  have b_ := bx_bds_sat hs_
  have f_ := bx_fcl_ok hs_.1 hf_
  have g := rxkRPW_5 hP hin I0 hinv 
  have ea : List.map (bx_num r) [.inr (3, (0, 480))] = [480] := by
    simp only [List.map_cons, List.map_nil, bx_xv_ok hs_.1]
    rfl
  rw [ea]
  refine ⟨g.1, fun S_p w r_p hPS hX_p I1 hsm hr hw hs_p => ?_⟩
  have hw := hw _ rfl
  subst hw
  have b_p := hs_p.2.2 8 _ _ rfl
  have g2 := g.2 S_p (r_p 8) b_p.1 b_p.2 hPS I1 hsm
  show rxIRPW_6 S0 ws S_p (r_p 8) ∧ rxmRPW_6 S0 ws S_p (r_p 8) < _
  exact g2
theorem rxkRPW_8 {S0 : Nat → Int → Int} {ws : List Int} {S : Nat → Int → Int} {is op arg : Int} (hP : rxPRPW S0 ws) (hin : bx_same rxL (bx_mdl rxCRPW.2.2.1) S0 S) (I0 : bx_Inv rxL S) (hinv : rxIRPW_8 S0 ws S is op arg) (l8 : 0 ≤ is) (u8 : is ≤ 1) (l9 : 0 ≤ op) (u9 : op ≤ 8) (l10 : 0 ≤ arg) (u10 : arg ≤ 1000) : rxPLFW S [480, is, op, arg] ∧ ∀ (S_p : Nat → Int → Int), rxPSLFW S [480, is, op, arg] S_p none → bx_Inv rxL S_p → bx_same rxL (bx_mdl rxCLFW.2.2.1) S S_p → rxIRPW_9 S0 ws S_p is op arg ∧ rxmRPW_9 S0 ws S_p is op arg < rxmRPW_8 S0 ws S is op arg := by
  obtain ⟨hI, hx⟩ := hinv
  have g_ := rxkRP_8 hP hin I0 hI l8 u8 l9 u9 l10 u10
  exact ⟨g_.1, fun S_p hq I1 hsm => ⟨⟨(g_.2 S_p hq.2.1 I1 hsm).1, (fun c hD tst s rest r h4 hn h40 => by
    have e := hI.1
    subst e
    obtain ⟨g91, hc⟩ := hx c hD
    refine rzTn_lf hD g91 r h4 hn h40 ?_ (hq.2.2 hD)
    rw [rzLf_iff rfl]
    constructor
    · intro g
      rcases hc with z | z
      · exact ⟨z.2, g.2⟩
      · omega
    · intro g
      rcases hc with z | z
      · exact ⟨z.1, g.2⟩
      · exact absurd g.1 z.2)⟩, (g_.2 S_p hq.2.1 I1 hsm).2⟩⟩
theorem rxsRPW_8 {X : (Nat → Int → Int) → Prop} {S0 : Nat → Int → Int} {ws : List Int} (hP : rxPRPW S0 ws) : rx_obK X S0 rxCRPW.2.2.1 rxCLFW.2.2.1 (rxIRPW S0 ws) (rxmRPW S0 ws) 8 9 rxzRPW_8 rxzRPW_9 [.inr (3, (0, 480)), .inr (0, (8, 0)), .inr (0, (9, 0)), .inr (0, (10, 0))] none rxPLFW rxPSLFW := by
  intro S r hinv hXS I0 hin hs_ hf_
  have b_ := bx_bds_sat hs_
  have f_ := bx_fcl_ok hs_.1 hf_
  obtain ⟨⟨l8, u8⟩, ⟨l9, u9⟩, ⟨l10, u10⟩, -⟩ := b_
  have g := rxkRPW_8 hP hin I0 hinv l8 u8 l9 u9 l10 u10
  have ea : List.map (bx_num r) [.inr (3, (0, 480)), .inr (0, (8, 0)), .inr (0, (9, 0)), .inr (0, (10, 0))] = [480, (r 8), (r 9), (r 10)] := by
    simp only [List.map_cons, List.map_nil, bx_xv_ok hs_.1]
    rfl
  rw [ea]
  refine ⟨g.1, fun S_p w r_p hPS hX_p I1 hsm hr hw hs_p => ?_⟩
  have hw : w = none := hPS.1
  subst hw
  have g2 := g.2 S_p hPS I1 hsm
  show rxIRPW_9 S0 ws S_p (r_p 8) (r_p 9) (r_p 10) ∧ rxmRPW_9 S0 ws S_p (r_p 8) (r_p 9) (r_p 10) < _
  rw [hr 8 (by decide), hr 9 (by decide), hr 10 (by decide)]
  exact g2
theorem rxcRPW_0_0 {S0 : Nat → Int → Int} {ws : List Int} {S : Nat → Int → Int} {x8 x9 : Int} (hP : rxPRPW S0 ws) (hin : bx_same rxL (bx_mdl rxCRPW.2.2.1) S0 S) (I0 : bx_Inv rxL S) (hinv : rxIRPW_0 S0 ws S) (l8 : 0 ≤ x8) (u8 : x8 ≤ 2) (l9 : 1 ≤ x9) (u9 : x9 ≤ 1) (f0 : x9 ≠ 0) (f1 : x8 ≠ 3) (e1 : S 480 11 = x8) (e0 : S 480 15 = x9) : (True) ∧ (True) ∧ rxIRPW_3 S0 ws S ∧ rxmRPW_3 S0 ws S < rxmRPW_0 S0 ws S := by
  obtain ⟨hI, hx⟩ := hinv
  obtain ⟨a_, b_, c_, d_⟩ := rxcRP_0_0 hP hin I0 hI l8 u8 l9 u9 f0 f1 e1 e0
  exact ⟨a_, b_, ⟨c_, (by
    have e := hI.1
    subst e
    exact ⟨if_pos (by omega), fun hD => rzDq_ns hD (by decide) (by decide) (by omega)⟩)⟩, d_⟩
theorem rxgRPW_0_0 {X : (Nat → Int → Int) → Prop} {S0 : Nat → Int → Int} {ws : List Int} (hP : rxPRPW S0 ws) : bx_obC rxL X S0 rxCRPW.2.2.1 (rxIRPW S0 ws) (rxmRPW S0 ws) 0 rxzRPW_0 rxoRPW_0_0 := by
  intro S S_p r r_p hinv hX hin hsm_ hseg
  obtain ⟨I0, I1, h0_, hr_, b_, f_, d_⟩ := bx_cl (evs := [(0, (0, 480), (0, 15), .inr (0, (9, 0))), (0, (0, 480), (0, 11), .inr (0, (8, 0)))]) (fvs := [(3, (9, 0), (0, 0), (0, 0)), (3, (8, 0), (0, 3), (0, 0))]) hseg (by decide +kernel) (by decide +kernel)
  have hinv : rxIRPW_0 S0 ws S := hinv
  obtain ⟨⟨l8, u8⟩, ⟨l9, u9⟩, -⟩ := b_
  obtain ⟨f0, f1, -⟩ := f_
  obtain ⟨e0, ⟨e1, w_⟩⟩ := d_
  subst w_
  have g := rxcRPW_0_0 hP hin I0 hinv l8 u8 l9 u9 f0 f1 e1 e0
  refine ⟨bx_narP_ok (l := []) g.1, bx_nfP_ok h0_ (fvs := []) (by decide +kernel) g.2.1, ?_, ?_⟩
  · show rxIRPW_3 S0 ws S_p
    exact g.2.2.1
  · show rxmRPW_3 S0 ws S_p < rxmRPW_0 S0 ws S_p
    exact g.2.2.2
theorem rxcRPW_0_1 {S0 : Nat → Int → Int} {ws : List Int} {S : Nat → Int → Int} {x8 x9 : Int} (hP : rxPRPW S0 ws) (hin : bx_same rxL (bx_mdl rxCRPW.2.2.1) S0 S) (I0 : bx_Inv rxL S) (hinv : rxIRPW_0 S0 ws S) (l8 : 0 ≤ x8) (u8 : x8 ≤ 2) (l9 : 0 ≤ x9) (u9 : x9 ≤ 0) (f0 : x8 ≠ 3) (e1 : S 480 11 = x8) (e0 : S 480 15 = x9) : (True) ∧ (True) ∧ rxIRPW_5 S0 ws S ∧ rxmRPW_5 S0 ws S < rxmRPW_0 S0 ws S := by
  obtain ⟨hI, hx⟩ := hinv
  obtain ⟨a_, b_, c_, d_⟩ := rxcRP_0_1 hP hin I0 hI l8 u8 l9 u9 f0 e1 e0
  exact ⟨a_, b_, ⟨c_, (by
    have e := hI.1
    subst e
    exact ⟨if_neg (by omega), fun hD => rzDq_ns hD (by decide) (by decide) (by omega)⟩)⟩, d_⟩
theorem rxgRPW_0_1 {X : (Nat → Int → Int) → Prop} {S0 : Nat → Int → Int} {ws : List Int} (hP : rxPRPW S0 ws) : bx_obC rxL X S0 rxCRPW.2.2.1 (rxIRPW S0 ws) (rxmRPW S0 ws) 0 rxzRPW_0 rxoRPW_0_1 := by
  intro S S_p r r_p hinv hX hin hsm_ hseg
  obtain ⟨I0, I1, h0_, hr_, b_, f_, d_⟩ := bx_cl (evs := [(0, (0, 480), (0, 15), .inr (0, (9, 0))), (0, (0, 480), (0, 11), .inr (0, (8, 0)))]) (fvs := [(3, (8, 0), (0, 3), (0, 0))]) hseg (by decide +kernel) (by decide +kernel)
  have hinv : rxIRPW_0 S0 ws S := hinv
  obtain ⟨⟨l8, u8⟩, ⟨l9, u9⟩, -⟩ := b_
  obtain ⟨f0, -⟩ := f_
  obtain ⟨e0, ⟨e1, w_⟩⟩ := d_
  subst w_
  have g := rxcRPW_0_1 hP hin I0 hinv l8 u8 l9 u9 f0 e1 e0
  refine ⟨bx_narP_ok (l := []) g.1, bx_nfP_ok h0_ (fvs := []) (by decide +kernel) g.2.1, ?_, ?_⟩
  · show rxIRPW_5 S0 ws S_p
    exact g.2.2.1
  · show rxmRPW_5 S0 ws S_p < rxmRPW_0 S0 ws S_p
    exact g.2.2.2
theorem rxcRPW_0_2 {S0 : Nat → Int → Int} {ws : List Int} {S : Nat → Int → Int} {x8 x9 x10 : Int} (hP : rxPRPW S0 ws) (hin : bx_same rxL (bx_mdl rxCRPW.2.2.1) S0 S) (I0 : bx_Inv rxL S) (hinv : rxIRPW_0 S0 ws S) (l8 : 3 ≤ x8) (u8 : x8 ≤ 3) (l9 : (-9223372036854775808) ≤ x9) (u9 : x9 ≤ 9223372036854775807) (l10 : 1 ≤ x10) (u10 : x10 ≤ 1) (f0 : x10 ≠ 0) (f1 : x9 ≠ 91) (e2 : S 480 11 = x8) (e1 : S 480 12 = x9) (e0 : S 480 15 = x10) : (True) ∧ (True) ∧ rxIRPW_3 S0 ws S ∧ rxmRPW_3 S0 ws S < rxmRPW_0 S0 ws S := by
  obtain ⟨hI, hx⟩ := hinv
  obtain ⟨a_, b_, c_, d_⟩ := rxcRP_0_2 hP hin I0 hI l8 u8 l9 u9 l10 u10 f0 f1 e2 e1 e0
  exact ⟨a_, b_, ⟨c_, (by
    have e := hI.1
    subst e
    exact ⟨if_pos (by omega), fun hD => rzDq_ns hD (by decide) (by decide) (by omega)⟩)⟩, d_⟩
theorem rxgRPW_0_2 {X : (Nat → Int → Int) → Prop} {S0 : Nat → Int → Int} {ws : List Int} (hP : rxPRPW S0 ws) : bx_obC rxL X S0 rxCRPW.2.2.1 (rxIRPW S0 ws) (rxmRPW S0 ws) 0 rxzRPW_0 rxoRPW_0_2 := by
  intro S S_p r r_p hinv hX hin hsm_ hseg
  obtain ⟨I0, I1, h0_, hr_, b_, f_, d_⟩ := bx_cl (evs := [(0, (0, 480), (0, 15), .inr (0, (10, 0))), (0, (0, 480), (0, 12), .inr (1, (9, 0))), (0, (0, 480), (0, 11), .inr (0, (8, 0)))]) (fvs := [(3, (10, 0), (0, 0), (0, 0)), (3, (9, 0), (0, 91), (0, 0))]) hseg (by decide +kernel) (by decide +kernel)
  have hinv : rxIRPW_0 S0 ws S := hinv
  obtain ⟨⟨l8, u8⟩, ⟨l9, u9⟩, ⟨l10, u10⟩, -⟩ := b_
  obtain ⟨f0, f1, -⟩ := f_
  obtain ⟨e0, ⟨e1, ⟨e2, w_⟩⟩⟩ := d_
  subst w_
  have g := rxcRPW_0_2 hP hin I0 hinv l8 u8 l9 u9 l10 u10 f0 f1 e2 e1 e0
  refine ⟨bx_narP_ok (l := []) g.1, bx_nfP_ok h0_ (fvs := []) (by decide +kernel) g.2.1, ?_, ?_⟩
  · show rxIRPW_3 S0 ws S_p
    exact g.2.2.1
  · show rxmRPW_3 S0 ws S_p < rxmRPW_0 S0 ws S_p
    exact g.2.2.2
theorem rxcRPW_0_3 {S0 : Nat → Int → Int} {ws : List Int} {S : Nat → Int → Int} {x8 x9 x10 : Int} (hP : rxPRPW S0 ws) (hin : bx_same rxL (bx_mdl rxCRPW.2.2.1) S0 S) (I0 : bx_Inv rxL S) (hinv : rxIRPW_0 S0 ws S) (l8 : 3 ≤ x8) (u8 : x8 ≤ 3) (l9 : (-9223372036854775808) ≤ x9) (u9 : x9 ≤ 9223372036854775807) (l10 : 0 ≤ x10) (u10 : x10 ≤ 0) (f0 : x9 ≠ 91) (e2 : S 480 11 = x8) (e1 : S 480 12 = x9) (e0 : S 480 15 = x10) : (True) ∧ (True) ∧ rxIRPW_5 S0 ws S ∧ rxmRPW_5 S0 ws S < rxmRPW_0 S0 ws S := by
  obtain ⟨hI, hx⟩ := hinv
  obtain ⟨a_, b_, c_, d_⟩ := rxcRP_0_3 hP hin I0 hI l8 u8 l9 u9 l10 u10 f0 e2 e1 e0
  exact ⟨a_, b_, ⟨c_, (by
    have e := hI.1
    subst e
    exact ⟨if_neg (by omega), fun hD => rzDq_ns hD (by decide) (by decide) (by omega)⟩)⟩, d_⟩
theorem rxgRPW_0_3 {X : (Nat → Int → Int) → Prop} {S0 : Nat → Int → Int} {ws : List Int} (hP : rxPRPW S0 ws) : bx_obC rxL X S0 rxCRPW.2.2.1 (rxIRPW S0 ws) (rxmRPW S0 ws) 0 rxzRPW_0 rxoRPW_0_3 := by
  intro S S_p r r_p hinv hX hin hsm_ hseg
  obtain ⟨I0, I1, h0_, hr_, b_, f_, d_⟩ := bx_cl (evs := [(0, (0, 480), (0, 15), .inr (0, (10, 0))), (0, (0, 480), (0, 12), .inr (1, (9, 0))), (0, (0, 480), (0, 11), .inr (0, (8, 0)))]) (fvs := [(3, (9, 0), (0, 91), (0, 0))]) hseg (by decide +kernel) (by decide +kernel)
  have hinv : rxIRPW_0 S0 ws S := hinv
  obtain ⟨⟨l8, u8⟩, ⟨l9, u9⟩, ⟨l10, u10⟩, -⟩ := b_
  obtain ⟨f0, -⟩ := f_
  obtain ⟨e0, ⟨e1, ⟨e2, w_⟩⟩⟩ := d_
  subst w_
  have g := rxcRPW_0_3 hP hin I0 hinv l8 u8 l9 u9 l10 u10 f0 e2 e1 e0
  refine ⟨bx_narP_ok (l := []) g.1, bx_nfP_ok h0_ (fvs := []) (by decide +kernel) g.2.1, ?_, ?_⟩
  · show rxIRPW_5 S0 ws S_p
    exact g.2.2.1
  · show rxmRPW_5 S0 ws S_p < rxmRPW_0 S0 ws S_p
    exact g.2.2.2
theorem rxcRPW_0_4 {S0 : Nat → Int → Int} {ws : List Int} {S : Nat → Int → Int} {x8 x9 : Int} (hP : rxPRPW S0 ws) (hin : bx_same rxL (bx_mdl rxCRPW.2.2.1) S0 S) (I0 : bx_Inv rxL S) (hinv : rxIRPW_0 S0 ws S) (l8 : 3 ≤ x8) (u8 : x8 ≤ 3) (l9 : 91 ≤ x9) (u9 : x9 ≤ 91) (e1 : S 480 11 = x8) (e0 : S 480 12 = x9) : (True) ∧ (True) ∧ rxIRPW_1 S0 ws S ∧ rxmRPW_1 S0 ws S < rxmRPW_0 S0 ws S := by
  obtain ⟨hI, hx⟩ := hinv
  obtain ⟨a_, b_, c_, d_⟩ := rxcRP_0_4 hP hin I0 hI l8 u8 l9 u9 e1 e0
  exact ⟨a_, b_, ⟨c_, (fun hD => by
    have e := hI.1
    subst e
    exact (rzDq_sg hD (by decide) (by decide)).mp ⟨by omega, by omega⟩)⟩, d_⟩
theorem rxgRPW_0_4 {X : (Nat → Int → Int) → Prop} {S0 : Nat → Int → Int} {ws : List Int} (hP : rxPRPW S0 ws) : bx_obC rxL X S0 rxCRPW.2.2.1 (rxIRPW S0 ws) (rxmRPW S0 ws) 0 rxzRPW_0 rxoRPW_0_4 := by
  intro S S_p r r_p hinv hX hin hsm_ hseg
  obtain ⟨I0, I1, h0_, hr_, b_, f_, d_⟩ := bx_cl (evs := [(0, (0, 480), (0, 12), .inr (1, (9, 0))), (0, (0, 480), (0, 11), .inr (0, (8, 0)))]) (fvs := []) hseg (by decide +kernel) (by decide +kernel)
  have hinv : rxIRPW_0 S0 ws S := hinv
  obtain ⟨⟨l8, u8⟩, ⟨l9, u9⟩, -⟩ := b_
  obtain ⟨e0, ⟨e1, w_⟩⟩ := d_
  subst w_
  have g := rxcRPW_0_4 hP hin I0 hinv l8 u8 l9 u9 e1 e0
  refine ⟨bx_narP_ok (l := []) g.1, bx_nfP_ok h0_ (fvs := []) (by decide +kernel) g.2.1, ?_, ?_⟩
  · show rxIRPW_1 S0 ws S_p
    exact g.2.2.1
  · show rxmRPW_1 S0 ws S_p < rxmRPW_0 S0 ws S_p
    exact g.2.2.2
theorem rxdRPW_2_0 {S0 : Nat → Int → Int} {ws : List Int} {S : Nat → Int → Int} (hP : rxPRPW S0 ws) (hin : bx_same rxL (bx_mdl rxCRPW.2.2.1) S0 S) (hin2 : bx_same rxL (bx_mdl rxCRPW.2.2.1) S S) (I0 : bx_Inv rxL S) (I1 : bx_Inv rxL S) (hinv : rxIRPW_2 S0 ws S)  : (True) ∧ rxPSRPW S0 ws S (some 1) := by
  obtain ⟨hI, hx⟩ := hinv
  obtain ⟨a_, c_⟩ := rxdRP_2_0 hP hin hin2 I0 I1 hI
  exact ⟨a_, c_, hx⟩
theorem rxfRPW_2_0 {X : (Nat → Int → Int) → Prop} {S0 : Nat → Int → Int} {ws : List Int} (hP : rxPRPW S0 ws) : bx_obE rxL X S0 rxCRPW.2.2.1 (rxIRPW S0 ws) (rxPSRPW S0 ws) 2 rxzRPW_2 rxeRPW_2_0 := by
  intro S S_p r r_p hinv hX hin hsm_ hseg
  obtain ⟨I0, I1, h0_, hr_, b_, f_, d_⟩ := bx_cl (evs := []) (fvs := []) hseg (by decide +kernel) (by decide +kernel)
  have hinv : rxIRPW_2 S0 ws S := hinv
  have w_ := d_
  subst w_
  have g := rxdRPW_2_0 hP hin hsm_ I0 I1 hinv 
  refine ⟨bx_narP_ok (l := []) g.1, ?_⟩
  show rxPSRPW S0 ws S_p (some (bx_num r_p (.inr (0, (0, 1)))))
  rw [bx_xv_ok h0_]
  exact g.2
theorem rxcRPW_4_0 {S0 : Nat → Int → Int} {ws : List Int} {S : Nat → Int → Int} {its x9 x10 : Int} (hP : rxPRPW S0 ws) (hin : bx_same rxL (bx_mdl rxCRPW.2.2.1) S0 S) (I0 : bx_Inv rxL S) (hinv : rxIRPW_4 S0 ws S its) (l8 : (-1) ≤ its) (u8 : its ≤ (-1)) (l9 : 2 ≤ x9) (u9 : x9 ≤ 2) (l10 : (-9223372036854775808) ≤ x10) (u10 : x10 ≤ 1000) (e1 : S 480 11 = x9) (e0 : S 480 12 = x10) : ((0 ≤ x10 ∧ x10 ≤ 1000) ∧ True) ∧ (True) ∧ rxIRPW_7 S0 ws S 1 0 x10 ∧ rxmRPW_7 S0 ws S 1 0 x10 < rxmRPW_4 S0 ws S its := by
  obtain ⟨hI, hx⟩ := hinv
  obtain ⟨a_, b_, c_, d_⟩ := rxcRP_4_0 hP hin I0 hI l8 u8 l9 u9 l10 u10 e1 e0
  exact ⟨a_, b_, ⟨c_, (fun c hD => by
    have e := hI.1
    subst e
    obtain ⟨g91, hits⟩ := hx c hD
    refine ⟨g91, ?_⟩
    have q := rzDq_nm hD (by omega)
    have q2 := q.2.1 (by omega)
    exact Or.inl ⟨rfl, Or.inl ((rzDq_dg hD).mp (by omega)), by omega⟩)⟩, d_⟩
theorem rxgRPW_4_0 {X : (Nat → Int → Int) → Prop} {S0 : Nat → Int → Int} {ws : List Int} (hP : rxPRPW S0 ws) : bx_obC rxL X S0 rxCRPW.2.2.1 (rxIRPW S0 ws) (rxmRPW S0 ws) 4 rxzRPW_4 rxoRPW_4_0 := by
  intro S S_p r r_p hinv hX hin hsm_ hseg
  obtain ⟨I0, I1, h0_, hr_, b_, f_, d_⟩ := bx_cl (evs := [(0, (0, 480), (0, 12), .inr (1, (10, 0))), (0, (0, 480), (0, 11), .inr (0, (9, 0)))]) (fvs := []) hseg (by decide +kernel) (by decide +kernel)
  have hinv : rxIRPW_4 S0 ws S (r 8) := hinv
  rw [← hr_ 8 (by decide)] at hinv
  obtain ⟨⟨l8, u8⟩, ⟨l9, u9⟩, ⟨l10, u10⟩, -⟩ := b_
  obtain ⟨e0, ⟨e1, w_⟩⟩ := d_
  subst w_
  have g := rxcRPW_4_0 hP hin I0 hinv l8 u8 l9 u9 l10 u10 e1 e0
  refine ⟨bx_narP_ok (l := [(10, 0, 1000)]) g.1, bx_nfP_ok h0_ (fvs := []) (by decide +kernel) g.2.1, ?_, ?_⟩
  · show rxIRPW_7 S0 ws S_p (bx_val [(0, 0), (0, 0), (0, 0), (0, 0), (0, 0), (0, 0), (0, 0), (0, 0), (0, 1), (0, 0), (10, 0)] r_p 8) (bx_val [(0, 0), (0, 0), (0, 0), (0, 0), (0, 0), (0, 0), (0, 0), (0, 0), (0, 1), (0, 0), (10, 0)] r_p 9) (bx_val [(0, 0), (0, 0), (0, 0), (0, 0), (0, 0), (0, 0), (0, 0), (0, 0), (0, 1), (0, 0), (10, 0)] r_p 10)
    rw [bx_val_x (n := 8) (e := (0, 1)) h0_ rfl, bx_val_x (n := 9) (e := (0, 0)) h0_ rfl, bx_val_x (n := 10) (e := (10, 0)) h0_ rfl]
    exact g.2.2.1
  · show rxmRPW_7 S0 ws S_p (bx_val [(0, 0), (0, 0), (0, 0), (0, 0), (0, 0), (0, 0), (0, 0), (0, 0), (0, 1), (0, 0), (10, 0)] r_p 8) (bx_val [(0, 0), (0, 0), (0, 0), (0, 0), (0, 0), (0, 0), (0, 0), (0, 0), (0, 1), (0, 0), (10, 0)] r_p 9) (bx_val [(0, 0), (0, 0), (0, 0), (0, 0), (0, 0), (0, 0), (0, 0), (0, 0), (0, 1), (0, 0), (10, 0)] r_p 10) < rxmRPW_4 S0 ws S_p (r 8)
    rw [bx_val_x (n := 8) (e := (0, 1)) h0_ rfl, bx_val_x (n := 9) (e := (0, 0)) h0_ rfl, bx_val_x (n := 10) (e := (10, 0)) h0_ rfl, ← hr_ 8 (by decide)]
    exact g.2.2.2
theorem rxcRPW_4_1 {S0 : Nat → Int → Int} {ws : List Int} {S : Nat → Int → Int} {its x9 x10 : Int} (hP : rxPRPW S0 ws) (hin : bx_same rxL (bx_mdl rxCRPW.2.2.1) S0 S) (I0 : bx_Inv rxL S) (hinv : rxIRPW_4 S0 ws S its) (l8 : 0 ≤ its) (u8 : its ≤ 8) (l9 : 2 ≤ x9) (u9 : x9 ≤ 2) (l10 : (-9223372036854775808) ≤ x10) (u10 : x10 ≤ 1000) (f0 : its ≠ (-1)) (f1 : its ≠ (-1)) (e1 : S 480 11 = x9) (e0 : S 480 12 = x10) : ((0 ≤ x10 ∧ x10 ≤ 1000) ∧ True) ∧ (True) ∧ rxIRPW_7 S0 ws S 1 its x10 ∧ rxmRPW_7 S0 ws S 1 its x10 < rxmRPW_4 S0 ws S its := by
  obtain ⟨hI, hx⟩ := hinv
  obtain ⟨a_, b_, c_, d_⟩ := rxcRP_4_1 hP hin I0 hI l8 u8 l9 u9 l10 u10 f0 f1 e1 e0
  exact ⟨a_, b_, ⟨c_, (fun c hD => by
    have e := hI.1
    subst e
    obtain ⟨g91, hits⟩ := hx c hD
    refine ⟨g91, ?_⟩
    exfalso
    have q := hI.2.2 (by omega)
    omega)⟩, d_⟩
theorem rxgRPW_4_1 {X : (Nat → Int → Int) → Prop} {S0 : Nat → Int → Int} {ws : List Int} (hP : rxPRPW S0 ws) : bx_obC rxL X S0 rxCRPW.2.2.1 (rxIRPW S0 ws) (rxmRPW S0 ws) 4 rxzRPW_4 rxoRPW_4_1 := by
  intro S S_p r r_p hinv hX hin hsm_ hseg
  obtain ⟨I0, I1, h0_, hr_, b_, f_, d_⟩ := bx_cl (evs := [(0, (0, 480), (0, 12), .inr (1, (10, 0))), (0, (0, 480), (0, 11), .inr (0, (9, 0)))]) (fvs := [(3, (8, 0), (0, (-1)), (0, 0)), (3, (8, 0), (0, (-1)), (0, 0))]) hseg (by decide +kernel) (by decide +kernel)
  have hinv : rxIRPW_4 S0 ws S (r 8) := hinv
  rw [← hr_ 8 (by decide)] at hinv
  obtain ⟨⟨l8, u8⟩, ⟨l9, u9⟩, ⟨l10, u10⟩, -⟩ := b_
  obtain ⟨f0, f1, -⟩ := f_
  obtain ⟨e0, ⟨e1, w_⟩⟩ := d_
  subst w_
  have g := rxcRPW_4_1 hP hin I0 hinv l8 u8 l9 u9 l10 u10 f0 f1 e1 e0
  refine ⟨bx_narP_ok (l := [(10, 0, 1000)]) g.1, bx_nfP_ok h0_ (fvs := []) (by decide +kernel) g.2.1, ?_, ?_⟩
  · show rxIRPW_7 S0 ws S_p (bx_val [(0, 0), (0, 0), (0, 0), (0, 0), (0, 0), (0, 0), (0, 0), (0, 0), (0, 1), (8, 0), (10, 0)] r_p 8) (bx_val [(0, 0), (0, 0), (0, 0), (0, 0), (0, 0), (0, 0), (0, 0), (0, 0), (0, 1), (8, 0), (10, 0)] r_p 9) (bx_val [(0, 0), (0, 0), (0, 0), (0, 0), (0, 0), (0, 0), (0, 0), (0, 0), (0, 1), (8, 0), (10, 0)] r_p 10)
    rw [bx_val_x (n := 8) (e := (0, 1)) h0_ rfl, bx_val_x (n := 9) (e := (8, 0)) h0_ rfl, bx_val_x (n := 10) (e := (10, 0)) h0_ rfl]
    exact g.2.2.1
  · show rxmRPW_7 S0 ws S_p (bx_val [(0, 0), (0, 0), (0, 0), (0, 0), (0, 0), (0, 0), (0, 0), (0, 0), (0, 1), (8, 0), (10, 0)] r_p 8) (bx_val [(0, 0), (0, 0), (0, 0), (0, 0), (0, 0), (0, 0), (0, 0), (0, 0), (0, 1), (8, 0), (10, 0)] r_p 9) (bx_val [(0, 0), (0, 0), (0, 0), (0, 0), (0, 0), (0, 0), (0, 0), (0, 0), (0, 1), (8, 0), (10, 0)] r_p 10) < rxmRPW_4 S0 ws S_p (r 8)
    rw [bx_val_x (n := 8) (e := (0, 1)) h0_ rfl, bx_val_x (n := 9) (e := (8, 0)) h0_ rfl, bx_val_x (n := 10) (e := (10, 0)) h0_ rfl, ← hr_ 8 (by decide)]
    exact g.2.2.2
theorem rxcRPW_4_2 {S0 : Nat → Int → Int} {ws : List Int} {S : Nat → Int → Int} {its x9 x10 : Int} (hP : rxPRPW S0 ws) (hin : bx_same rxL (bx_mdl rxCRPW.2.2.1) S0 S) (I0 : bx_Inv rxL S) (hinv : rxIRPW_4 S0 ws S its) (l8 : (-1) ≤ its) (u8 : its ≤ (-1)) (l9 : 2 ≤ x9) (u9 : x9 ≤ 2) (l10 : 1001 ≤ x10) (u10 : x10 ≤ 9223372036854775807) (e1 : S 480 11 = x9) (e0 : S 480 12 = x10) : (True) ∧ (True) ∧ rxIRPW_8 S0 ws S 0 0 0 ∧ rxmRPW_8 S0 ws S 0 0 0 < rxmRPW_4 S0 ws S its := by
  obtain ⟨hI, hx⟩ := hinv
  obtain ⟨a_, b_, c_, d_⟩ := rxcRP_4_2 hP hin I0 hI l8 u8 l9 u9 l10 u10 e1 e0
  exact ⟨a_, b_, ⟨c_, (fun c hD => by
    have e := hI.1
    subst e
    obtain ⟨g91, hits⟩ := hx c hD
    refine ⟨g91, ?_⟩
    have q := rzDq_nm hD (by omega)
    have q2 := q.2.2 (by omega)
    exact Or.inr ⟨rfl, fun g => by have := g.2; omega⟩)⟩, d_⟩
theorem rxgRPW_4_2 {X : (Nat → Int → Int) → Prop} {S0 : Nat → Int → Int} {ws : List Int} (hP : rxPRPW S0 ws) : bx_obC rxL X S0 rxCRPW.2.2.1 (rxIRPW S0 ws) (rxmRPW S0 ws) 4 rxzRPW_4 rxoRPW_4_2 := by
  intro S S_p r r_p hinv hX hin hsm_ hseg
  obtain ⟨I0, I1, h0_, hr_, b_, f_, d_⟩ := bx_cl (evs := [(0, (0, 480), (0, 12), .inr (1, (10, 0))), (0, (0, 480), (0, 11), .inr (0, (9, 0)))]) (fvs := []) hseg (by decide +kernel) (by decide +kernel)
  have hinv : rxIRPW_4 S0 ws S (r 8) := hinv
  rw [← hr_ 8 (by decide)] at hinv
  obtain ⟨⟨l8, u8⟩, ⟨l9, u9⟩, ⟨l10, u10⟩, -⟩ := b_
  obtain ⟨e0, ⟨e1, w_⟩⟩ := d_
  subst w_
  have g := rxcRPW_4_2 hP hin I0 hinv l8 u8 l9 u9 l10 u10 e1 e0
  refine ⟨bx_narP_ok (l := []) g.1, bx_nfP_ok h0_ (fvs := []) (by decide +kernel) g.2.1, ?_, ?_⟩
  · show rxIRPW_8 S0 ws S_p (bx_val [(0, 0), (0, 0), (0, 0), (0, 0), (0, 0), (0, 0), (0, 0), (0, 0), (0, 0), (0, 0), (0, 0)] r_p 8) (bx_val [(0, 0), (0, 0), (0, 0), (0, 0), (0, 0), (0, 0), (0, 0), (0, 0), (0, 0), (0, 0), (0, 0)] r_p 9) (bx_val [(0, 0), (0, 0), (0, 0), (0, 0), (0, 0), (0, 0), (0, 0), (0, 0), (0, 0), (0, 0), (0, 0)] r_p 10)
    rw [bx_val_x (n := 8) (e := (0, 0)) h0_ rfl, bx_val_x (n := 9) (e := (0, 0)) h0_ rfl, bx_val_x (n := 10) (e := (0, 0)) h0_ rfl]
    exact g.2.2.1
  · show rxmRPW_8 S0 ws S_p (bx_val [(0, 0), (0, 0), (0, 0), (0, 0), (0, 0), (0, 0), (0, 0), (0, 0), (0, 0), (0, 0), (0, 0)] r_p 8) (bx_val [(0, 0), (0, 0), (0, 0), (0, 0), (0, 0), (0, 0), (0, 0), (0, 0), (0, 0), (0, 0), (0, 0)] r_p 9) (bx_val [(0, 0), (0, 0), (0, 0), (0, 0), (0, 0), (0, 0), (0, 0), (0, 0), (0, 0), (0, 0), (0, 0)] r_p 10) < rxmRPW_4 S0 ws S_p (r 8)
    rw [bx_val_x (n := 8) (e := (0, 0)) h0_ rfl, bx_val_x (n := 9) (e := (0, 0)) h0_ rfl, bx_val_x (n := 10) (e := (0, 0)) h0_ rfl, ← hr_ 8 (by decide)]
    exact g.2.2.2
theorem rxcRPW_4_3 {S0 : Nat → Int → Int} {ws : List Int} {S : Nat → Int → Int} {its x9 x10 : Int} (hP : rxPRPW S0 ws) (hin : bx_same rxL (bx_mdl rxCRPW.2.2.1) S0 S) (I0 : bx_Inv rxL S) (hinv : rxIRPW_4 S0 ws S its) (l8 : 0 ≤ its) (u8 : its ≤ 8) (l9 : 2 ≤ x9) (u9 : x9 ≤ 2) (l10 : 1001 ≤ x10) (u10 : x10 ≤ 9223372036854775807) (f0 : its ≠ (-1)) (f1 : its ≠ (-1)) (e1 : S 480 11 = x9) (e0 : S 480 12 = x10) : (True) ∧ (True) ∧ rxIRPW_8 S0 ws S 1 its 0 ∧ rxmRPW_8 S0 ws S 1 its 0 < rxmRPW_4 S0 ws S its := by
  obtain ⟨hI, hx⟩ := hinv
  obtain ⟨a_, b_, c_, d_⟩ := rxcRP_4_3 hP hin I0 hI l8 u8 l9 u9 l10 u10 f0 f1 e1 e0
  exact ⟨a_, b_, ⟨c_, (fun c hD => by
    have e := hI.1
    subst e
    obtain ⟨g91, hits⟩ := hx c hD
    refine ⟨g91, ?_⟩
    exfalso
    have q := hI.2.2 (by omega)
    omega)⟩, d_⟩
theorem rxgRPW_4_3 {X : (Nat → Int → Int) → Prop} {S0 : Nat → Int → Int} {ws : List Int} (hP : rxPRPW S0 ws) : bx_obC rxL X S0 rxCRPW.2.2.1 (rxIRPW S0 ws) (rxmRPW S0 ws) 4 rxzRPW_4 rxoRPW_4_3 := by
  intro S S_p r r_p hinv hX hin hsm_ hseg
  obtain ⟨I0, I1, h0_, hr_, b_, f_, d_⟩ := bx_cl (evs := [(0, (0, 480), (0, 12), .inr (1, (10, 0))), (0, (0, 480), (0, 11), .inr (0, (9, 0)))]) (fvs := [(3, (8, 0), (0, (-1)), (0, 0)), (3, (8, 0), (0, (-1)), (0, 0))]) hseg (by decide +kernel) (by decide +kernel)
  have hinv : rxIRPW_4 S0 ws S (r 8) := hinv
  rw [← hr_ 8 (by decide)] at hinv
  obtain ⟨⟨l8, u8⟩, ⟨l9, u9⟩, ⟨l10, u10⟩, -⟩ := b_
  obtain ⟨f0, f1, -⟩ := f_
  obtain ⟨e0, ⟨e1, w_⟩⟩ := d_
  subst w_
  have g := rxcRPW_4_3 hP hin I0 hinv l8 u8 l9 u9 l10 u10 f0 f1 e1 e0
  refine ⟨bx_narP_ok (l := []) g.1, bx_nfP_ok h0_ (fvs := []) (by decide +kernel) g.2.1, ?_, ?_⟩
  · show rxIRPW_8 S0 ws S_p (bx_val [(0, 0), (0, 0), (0, 0), (0, 0), (0, 0), (0, 0), (0, 0), (0, 0), (0, 1), (8, 0), (0, 0)] r_p 8) (bx_val [(0, 0), (0, 0), (0, 0), (0, 0), (0, 0), (0, 0), (0, 0), (0, 0), (0, 1), (8, 0), (0, 0)] r_p 9) (bx_val [(0, 0), (0, 0), (0, 0), (0, 0), (0, 0), (0, 0), (0, 0), (0, 0), (0, 1), (8, 0), (0, 0)] r_p 10)
    rw [bx_val_x (n := 8) (e := (0, 1)) h0_ rfl, bx_val_x (n := 9) (e := (8, 0)) h0_ rfl, bx_val_x (n := 10) (e := (0, 0)) h0_ rfl]
    exact g.2.2.1
  · show rxmRPW_8 S0 ws S_p (bx_val [(0, 0), (0, 0), (0, 0), (0, 0), (0, 0), (0, 0), (0, 0), (0, 0), (0, 1), (8, 0), (0, 0)] r_p 8) (bx_val [(0, 0), (0, 0), (0, 0), (0, 0), (0, 0), (0, 0), (0, 0), (0, 0), (0, 1), (8, 0), (0, 0)] r_p 9) (bx_val [(0, 0), (0, 0), (0, 0), (0, 0), (0, 0), (0, 0), (0, 0), (0, 0), (0, 1), (8, 0), (0, 0)] r_p 10) < rxmRPW_4 S0 ws S_p (r 8)
    rw [bx_val_x (n := 8) (e := (0, 1)) h0_ rfl, bx_val_x (n := 9) (e := (8, 0)) h0_ rfl, bx_val_x (n := 10) (e := (0, 0)) h0_ rfl, ← hr_ 8 (by decide)]
    exact g.2.2.2
theorem rxcRPW_4_4 {S0 : Nat → Int → Int} {ws : List Int} {S : Nat → Int → Int} {its x9 : Int} (hP : rxPRPW S0 ws) (hin : bx_same rxL (bx_mdl rxCRPW.2.2.1) S0 S) (I0 : bx_Inv rxL S) (hinv : rxIRPW_4 S0 ws S its) (l8 : (-1) ≤ its) (u8 : its ≤ (-1)) (l9 : 0 ≤ x9) (u9 : x9 ≤ 3) (f0 : x9 ≠ 2) (e0 : S 480 11 = x9) : (True) ∧ (True) ∧ rxIRPW_8 S0 ws S 0 0 0 ∧ rxmRPW_8 S0 ws S 0 0 0 < rxmRPW_4 S0 ws S its := by
  obtain ⟨hI, hx⟩ := hinv
  obtain ⟨a_, b_, c_, d_⟩ := rxcRP_4_4 hP hin I0 hI l8 u8 l9 u9 f0 e0
  exact ⟨a_, b_, ⟨c_, (fun c hD => by
    have e := hI.1
    subst e
    obtain ⟨g91, hits⟩ := hx c hD
    refine ⟨g91, ?_⟩
    refine Or.inr ⟨rfl, fun g => ?_⟩
    rcases g.1 with z | z
    · have := (rzDq_dg hD).mpr z
      omega
    · rw [if_pos z] at hits
      omega)⟩, d_⟩
theorem rxgRPW_4_4 {X : (Nat → Int → Int) → Prop} {S0 : Nat → Int → Int} {ws : List Int} (hP : rxPRPW S0 ws) : bx_obC rxL X S0 rxCRPW.2.2.1 (rxIRPW S0 ws) (rxmRPW S0 ws) 4 rxzRPW_4 rxoRPW_4_4 := by
  intro S S_p r r_p hinv hX hin hsm_ hseg
  obtain ⟨I0, I1, h0_, hr_, b_, f_, d_⟩ := bx_cl (evs := [(0, (0, 480), (0, 11), .inr (0, (9, 0)))]) (fvs := [(3, (9, 0), (0, 2), (0, 0))]) hseg (by decide +kernel) (by decide +kernel)
  have hinv : rxIRPW_4 S0 ws S (r 8) := hinv
  rw [← hr_ 8 (by decide)] at hinv
  obtain ⟨⟨l8, u8⟩, ⟨l9, u9⟩, -⟩ := b_
  obtain ⟨f0, -⟩ := f_
  obtain ⟨e0, w_⟩ := d_
  subst w_
  have g := rxcRPW_4_4 hP hin I0 hinv l8 u8 l9 u9 f0 e0
  refine ⟨bx_narP_ok (l := []) g.1, bx_nfP_ok h0_ (fvs := []) (by decide +kernel) g.2.1, ?_, ?_⟩
  · show rxIRPW_8 S0 ws S_p (bx_val [(0, 0), (0, 0), (0, 0), (0, 0), (0, 0), (0, 0), (0, 0), (0, 0), (0, 0), (0, 0), (0, 0)] r_p 8) (bx_val [(0, 0), (0, 0), (0, 0), (0, 0), (0, 0), (0, 0), (0, 0), (0, 0), (0, 0), (0, 0), (0, 0)] r_p 9) (bx_val [(0, 0), (0, 0), (0, 0), (0, 0), (0, 0), (0, 0), (0, 0), (0, 0), (0, 0), (0, 0), (0, 0)] r_p 10)
    rw [bx_val_x (n := 8) (e := (0, 0)) h0_ rfl, bx_val_x (n := 9) (e := (0, 0)) h0_ rfl, bx_val_x (n := 10) (e := (0, 0)) h0_ rfl]
    exact g.2.2.1
  · show rxmRPW_8 S0 ws S_p (bx_val [(0, 0), (0, 0), (0, 0), (0, 0), (0, 0), (0, 0), (0, 0), (0, 0), (0, 0), (0, 0), (0, 0)] r_p 8) (bx_val [(0, 0), (0, 0), (0, 0), (0, 0), (0, 0), (0, 0), (0, 0), (0, 0), (0, 0), (0, 0), (0, 0)] r_p 9) (bx_val [(0, 0), (0, 0), (0, 0), (0, 0), (0, 0), (0, 0), (0, 0), (0, 0), (0, 0), (0, 0), (0, 0)] r_p 10) < rxmRPW_4 S0 ws S_p (r 8)
    rw [bx_val_x (n := 8) (e := (0, 0)) h0_ rfl, bx_val_x (n := 9) (e := (0, 0)) h0_ rfl, bx_val_x (n := 10) (e := (0, 0)) h0_ rfl, ← hr_ 8 (by decide)]
    exact g.2.2.2
theorem rxcRPW_4_5 {S0 : Nat → Int → Int} {ws : List Int} {S : Nat → Int → Int} {its x9 : Int} (hP : rxPRPW S0 ws) (hin : bx_same rxL (bx_mdl rxCRPW.2.2.1) S0 S) (I0 : bx_Inv rxL S) (hinv : rxIRPW_4 S0 ws S its) (l8 : 0 ≤ its) (u8 : its ≤ 8) (l9 : 0 ≤ x9) (u9 : x9 ≤ 3) (f0 : its ≠ (-1)) (f1 : its ≠ (-1)) (f2 : x9 ≠ 2) (e0 : S 480 11 = x9) : (True) ∧ (True) ∧ rxIRPW_8 S0 ws S 1 its 0 ∧ rxmRPW_8 S0 ws S 1 its 0 < rxmRPW_4 S0 ws S its := by
  obtain ⟨hI, hx⟩ := hinv
  obtain ⟨a_, b_, c_, d_⟩ := rxcRP_4_5 hP hin I0 hI l8 u8 l9 u9 f0 f1 f2 e0
  exact ⟨a_, b_, ⟨c_, (fun c hD => by
    have e := hI.1
    subst e
    obtain ⟨g91, hits⟩ := hx c hD
    refine ⟨g91, ?_⟩
    have hi : 0 ≤ rzIxn (rzCut (S 485)) (S 480 8) (S 480 9) (rzWr S) 0 := by
      by_cases z : 0 ≤ rzIxn (rzCut (S 485)) (S 480 8) (S 480 9) (rzWr S) 0
      · exact z
      · rw [if_neg z] at hits
        omega
    have hno : rzNo (rzCut (S 485)) (S 480 8) (S 480 9) = -1 := if_neg fun g => by
      have := (rzDq_dg hD).mpr g
      omega
    exact Or.inl ⟨rfl, Or.inr hi, by omega⟩)⟩, d_⟩
theorem rxgRPW_4_5 {X : (Nat → Int → Int) → Prop} {S0 : Nat → Int → Int} {ws : List Int} (hP : rxPRPW S0 ws) : bx_obC rxL X S0 rxCRPW.2.2.1 (rxIRPW S0 ws) (rxmRPW S0 ws) 4 rxzRPW_4 rxoRPW_4_5 := by
  intro S S_p r r_p hinv hX hin hsm_ hseg
  obtain ⟨I0, I1, h0_, hr_, b_, f_, d_⟩ := bx_cl (evs := [(0, (0, 480), (0, 11), .inr (0, (9, 0)))]) (fvs := [(3, (8, 0), (0, (-1)), (0, 0)), (3, (8, 0), (0, (-1)), (0, 0)), (3, (9, 0), (0, 2), (0, 0))]) hseg (by decide +kernel) (by decide +kernel)
  have hinv : rxIRPW_4 S0 ws S (r 8) := hinv
  rw [← hr_ 8 (by decide)] at hinv
  obtain ⟨⟨l8, u8⟩, ⟨l9, u9⟩, -⟩ := b_
  obtain ⟨f0, f1, f2, -⟩ := f_
  obtain ⟨e0, w_⟩ := d_
  subst w_
  have g := rxcRPW_4_5 hP hin I0 hinv l8 u8 l9 u9 f0 f1 f2 e0
  refine ⟨bx_narP_ok (l := []) g.1, bx_nfP_ok h0_ (fvs := []) (by decide +kernel) g.2.1, ?_, ?_⟩
  · show rxIRPW_8 S0 ws S_p (bx_val [(0, 0), (0, 0), (0, 0), (0, 0), (0, 0), (0, 0), (0, 0), (0, 0), (0, 1), (8, 0), (0, 0)] r_p 8) (bx_val [(0, 0), (0, 0), (0, 0), (0, 0), (0, 0), (0, 0), (0, 0), (0, 0), (0, 1), (8, 0), (0, 0)] r_p 9) (bx_val [(0, 0), (0, 0), (0, 0), (0, 0), (0, 0), (0, 0), (0, 0), (0, 0), (0, 1), (8, 0), (0, 0)] r_p 10)
    rw [bx_val_x (n := 8) (e := (0, 1)) h0_ rfl, bx_val_x (n := 9) (e := (8, 0)) h0_ rfl, bx_val_x (n := 10) (e := (0, 0)) h0_ rfl]
    exact g.2.2.1
  · show rxmRPW_8 S0 ws S_p (bx_val [(0, 0), (0, 0), (0, 0), (0, 0), (0, 0), (0, 0), (0, 0), (0, 0), (0, 1), (8, 0), (0, 0)] r_p 8) (bx_val [(0, 0), (0, 0), (0, 0), (0, 0), (0, 0), (0, 0), (0, 0), (0, 0), (0, 1), (8, 0), (0, 0)] r_p 9) (bx_val [(0, 0), (0, 0), (0, 0), (0, 0), (0, 0), (0, 0), (0, 0), (0, 0), (0, 1), (8, 0), (0, 0)] r_p 10) < rxmRPW_4 S0 ws S_p (r 8)
    rw [bx_val_x (n := 8) (e := (0, 1)) h0_ rfl, bx_val_x (n := 9) (e := (8, 0)) h0_ rfl, bx_val_x (n := 10) (e := (0, 0)) h0_ rfl, ← hr_ 8 (by decide)]
    exact g.2.2.2
theorem rxcRPW_6_0 {S0 : Nat → Int → Int} {ws : List Int} {S : Nat → Int → Int} {its x9 x10 : Int} (hP : rxPRPW S0 ws) (hin : bx_same rxL (bx_mdl rxCRPW.2.2.1) S0 S) (I0 : bx_Inv rxL S) (hinv : rxIRPW_6 S0 ws S its) (l8 : (-1) ≤ its) (u8 : its ≤ (-1)) (l9 : 2 ≤ x9) (u9 : x9 ≤ 2) (l10 : (-9223372036854775808) ≤ x10) (u10 : x10 ≤ 1000) (e1 : S 480 11 = x9) (e0 : S 480 12 = x10) : ((0 ≤ x10 ∧ x10 ≤ 1000) ∧ True) ∧ (True) ∧ rxIRPW_7 S0 ws S 1 0 x10 ∧ rxmRPW_7 S0 ws S 1 0 x10 < rxmRPW_6 S0 ws S its := by
  obtain ⟨hI, hx⟩ := hinv
  obtain ⟨a_, b_, c_, d_⟩ := rxcRP_6_0 hP hin I0 hI l8 u8 l9 u9 l10 u10 e1 e0
  exact ⟨a_, b_, ⟨c_, (fun c hD => by
    have e := hI.1
    subst e
    obtain ⟨g91, hits⟩ := hx c hD
    refine ⟨g91, ?_⟩
    have q := rzDq_nm hD (by omega)
    have q2 := q.2.1 (by omega)
    exact Or.inl ⟨rfl, Or.inl ((rzDq_dg hD).mp (by omega)), by omega⟩)⟩, d_⟩
theorem rxgRPW_6_0 {X : (Nat → Int → Int) → Prop} {S0 : Nat → Int → Int} {ws : List Int} (hP : rxPRPW S0 ws) : bx_obC rxL X S0 rxCRPW.2.2.1 (rxIRPW S0 ws) (rxmRPW S0 ws) 6 rxzRPW_6 rxoRPW_6_0 := by
  intro S S_p r r_p hinv hX hin hsm_ hseg
  obtain ⟨I0, I1, h0_, hr_, b_, f_, d_⟩ := bx_cl (evs := [(0, (0, 480), (0, 12), .inr (1, (10, 0))), (0, (0, 480), (0, 11), .inr (0, (9, 0)))]) (fvs := []) hseg (by decide +kernel) (by decide +kernel)
  have hinv : rxIRPW_6 S0 ws S (r 8) := hinv
  rw [← hr_ 8 (by decide)] at hinv
  obtain ⟨⟨l8, u8⟩, ⟨l9, u9⟩, ⟨l10, u10⟩, -⟩ := b_
  obtain ⟨e0, ⟨e1, w_⟩⟩ := d_
  subst w_
  have g := rxcRPW_6_0 hP hin I0 hinv l8 u8 l9 u9 l10 u10 e1 e0
  refine ⟨bx_narP_ok (l := [(10, 0, 1000)]) g.1, bx_nfP_ok h0_ (fvs := []) (by decide +kernel) g.2.1, ?_, ?_⟩
  · show rxIRPW_7 S0 ws S_p (bx_val [(0, 0), (0, 0), (0, 0), (0, 0), (0, 0), (0, 0), (0, 0), (0, 0), (0, 1), (0, 0), (10, 0)] r_p 8) (bx_val [(0, 0), (0, 0), (0, 0), (0, 0), (0, 0), (0, 0), (0, 0), (0, 0), (0, 1), (0, 0), (10, 0)] r_p 9) (bx_val [(0, 0), (0, 0), (0, 0), (0, 0), (0, 0), (0, 0), (0, 0), (0, 0), (0, 1), (0, 0), (10, 0)] r_p 10)
    rw [bx_val_x (n := 8) (e := (0, 1)) h0_ rfl, bx_val_x (n := 9) (e := (0, 0)) h0_ rfl, bx_val_x (n := 10) (e := (10, 0)) h0_ rfl]
    exact g.2.2.1
  · show rxmRPW_7 S0 ws S_p (bx_val [(0, 0), (0, 0), (0, 0), (0, 0), (0, 0), (0, 0), (0, 0), (0, 0), (0, 1), (0, 0), (10, 0)] r_p 8) (bx_val [(0, 0), (0, 0), (0, 0), (0, 0), (0, 0), (0, 0), (0, 0), (0, 0), (0, 1), (0, 0), (10, 0)] r_p 9) (bx_val [(0, 0), (0, 0), (0, 0), (0, 0), (0, 0), (0, 0), (0, 0), (0, 0), (0, 1), (0, 0), (10, 0)] r_p 10) < rxmRPW_6 S0 ws S_p (r 8)
    rw [bx_val_x (n := 8) (e := (0, 1)) h0_ rfl, bx_val_x (n := 9) (e := (0, 0)) h0_ rfl, bx_val_x (n := 10) (e := (10, 0)) h0_ rfl, ← hr_ 8 (by decide)]
    exact g.2.2.2
theorem rxcRPW_6_1 {S0 : Nat → Int → Int} {ws : List Int} {S : Nat → Int → Int} {its x9 x10 : Int} (hP : rxPRPW S0 ws) (hin : bx_same rxL (bx_mdl rxCRPW.2.2.1) S0 S) (I0 : bx_Inv rxL S) (hinv : rxIRPW_6 S0 ws S its) (l8 : 0 ≤ its) (u8 : its ≤ 8) (l9 : 2 ≤ x9) (u9 : x9 ≤ 2) (l10 : (-9223372036854775808) ≤ x10) (u10 : x10 ≤ 1000) (f0 : its ≠ (-1)) (f1 : its ≠ (-1)) (e1 : S 480 11 = x9) (e0 : S 480 12 = x10) : ((0 ≤ x10 ∧ x10 ≤ 1000) ∧ True) ∧ (True) ∧ rxIRPW_7 S0 ws S 1 its x10 ∧ rxmRPW_7 S0 ws S 1 its x10 < rxmRPW_6 S0 ws S its := by
  obtain ⟨hI, hx⟩ := hinv
  obtain ⟨a_, b_, c_, d_⟩ := rxcRP_6_1 hP hin I0 hI l8 u8 l9 u9 l10 u10 f0 f1 e1 e0
  exact ⟨a_, b_, ⟨c_, (fun c hD => by
    have e := hI.1
    subst e
    obtain ⟨g91, hits⟩ := hx c hD
    refine ⟨g91, ?_⟩
    exfalso
    have q := hI.2.2 (by omega)
    omega)⟩, d_⟩
theorem rxgRPW_6_1 {X : (Nat → Int → Int) → Prop} {S0 : Nat → Int → Int} {ws : List Int} (hP : rxPRPW S0 ws) : bx_obC rxL X S0 rxCRPW.2.2.1 (rxIRPW S0 ws) (rxmRPW S0 ws) 6 rxzRPW_6 rxoRPW_6_1 := by
  intro S S_p r r_p hinv hX hin hsm_ hseg
  obtain ⟨I0, I1, h0_, hr_, b_, f_, d_⟩ := bx_cl (evs := [(0, (0, 480), (0, 12), .inr (1, (10, 0))), (0, (0, 480), (0, 11), .inr (0, (9, 0)))]) (fvs := [(3, (8, 0), (0, (-1)), (0, 0)), (3, (8, 0), (0, (-1)), (0, 0))]) hseg (by decide +kernel) (by decide +kernel)
  have hinv : rxIRPW_6 S0 ws S (r 8) := hinv
  rw [← hr_ 8 (by decide)] at hinv
  obtain ⟨⟨l8, u8⟩, ⟨l9, u9⟩, ⟨l10, u10⟩, -⟩ := b_
  obtain ⟨f0, f1, -⟩ := f_
  obtain ⟨e0, ⟨e1, w_⟩⟩ := d_
  subst w_
  have g := rxcRPW_6_1 hP hin I0 hinv l8 u8 l9 u9 l10 u10 f0 f1 e1 e0
  refine ⟨bx_narP_ok (l := [(10, 0, 1000)]) g.1, bx_nfP_ok h0_ (fvs := []) (by decide +kernel) g.2.1, ?_, ?_⟩
  · show rxIRPW_7 S0 ws S_p (bx_val [(0, 0), (0, 0), (0, 0), (0, 0), (0, 0), (0, 0), (0, 0), (0, 0), (0, 1), (8, 0), (10, 0)] r_p 8) (bx_val [(0, 0), (0, 0), (0, 0), (0, 0), (0, 0), (0, 0), (0, 0), (0, 0), (0, 1), (8, 0), (10, 0)] r_p 9) (bx_val [(0, 0), (0, 0), (0, 0), (0, 0), (0, 0), (0, 0), (0, 0), (0, 0), (0, 1), (8, 0), (10, 0)] r_p 10)
    rw [bx_val_x (n := 8) (e := (0, 1)) h0_ rfl, bx_val_x (n := 9) (e := (8, 0)) h0_ rfl, bx_val_x (n := 10) (e := (10, 0)) h0_ rfl]
    exact g.2.2.1
  · show rxmRPW_7 S0 ws S_p (bx_val [(0, 0), (0, 0), (0, 0), (0, 0), (0, 0), (0, 0), (0, 0), (0, 0), (0, 1), (8, 0), (10, 0)] r_p 8) (bx_val [(0, 0), (0, 0), (0, 0), (0, 0), (0, 0), (0, 0), (0, 0), (0, 0), (0, 1), (8, 0), (10, 0)] r_p 9) (bx_val [(0, 0), (0, 0), (0, 0), (0, 0), (0, 0), (0, 0), (0, 0), (0, 0), (0, 1), (8, 0), (10, 0)] r_p 10) < rxmRPW_6 S0 ws S_p (r 8)
    rw [bx_val_x (n := 8) (e := (0, 1)) h0_ rfl, bx_val_x (n := 9) (e := (8, 0)) h0_ rfl, bx_val_x (n := 10) (e := (10, 0)) h0_ rfl, ← hr_ 8 (by decide)]
    exact g.2.2.2
theorem rxcRPW_6_2 {S0 : Nat → Int → Int} {ws : List Int} {S : Nat → Int → Int} {its x9 x10 : Int} (hP : rxPRPW S0 ws) (hin : bx_same rxL (bx_mdl rxCRPW.2.2.1) S0 S) (I0 : bx_Inv rxL S) (hinv : rxIRPW_6 S0 ws S its) (l8 : (-1) ≤ its) (u8 : its ≤ (-1)) (l9 : 2 ≤ x9) (u9 : x9 ≤ 2) (l10 : 1001 ≤ x10) (u10 : x10 ≤ 9223372036854775807) (e1 : S 480 11 = x9) (e0 : S 480 12 = x10) : (True) ∧ (True) ∧ rxIRPW_8 S0 ws S 0 0 0 ∧ rxmRPW_8 S0 ws S 0 0 0 < rxmRPW_6 S0 ws S its := by
  obtain ⟨hI, hx⟩ := hinv
  obtain ⟨a_, b_, c_, d_⟩ := rxcRP_6_2 hP hin I0 hI l8 u8 l9 u9 l10 u10 e1 e0
  exact ⟨a_, b_, ⟨c_, (fun c hD => by
    have e := hI.1
    subst e
    obtain ⟨g91, hits⟩ := hx c hD
    refine ⟨g91, ?_⟩
    have q := rzDq_nm hD (by omega)
    have q2 := q.2.2 (by omega)
    exact Or.inr ⟨rfl, fun g => by have := g.2; omega⟩)⟩, d_⟩
theorem rxgRPW_6_2 {X : (Nat → Int → Int) → Prop} {S0 : Nat → Int → Int} {ws : List Int} (hP : rxPRPW S0 ws) : bx_obC rxL X S0 rxCRPW.2.2.1 (rxIRPW S0 ws) (rxmRPW S0 ws) 6 rxzRPW_6 rxoRPW_6_2 := by
  intro S S_p r r_p hinv hX hin hsm_ hseg
  obtain ⟨I0, I1, h0_, hr_, b_, f_, d_⟩ := bx_cl (evs := [(0, (0, 480), (0, 12), .inr (1, (10, 0))), (0, (0, 480), (0, 11), .inr (0, (9, 0)))]) (fvs := []) hseg (by decide +kernel) (by decide +kernel)
  have hinv : rxIRPW_6 S0 ws S (r 8) := hinv
  rw [← hr_ 8 (by decide)] at hinv
  obtain ⟨⟨l8, u8⟩, ⟨l9, u9⟩, ⟨l10, u10⟩, -⟩ := b_
  obtain ⟨e0, ⟨e1, w_⟩⟩ := d_
  subst w_
  have g := rxcRPW_6_2 hP hin I0 hinv l8 u8 l9 u9 l10 u10 e1 e0
  refine ⟨bx_narP_ok (l := []) g.1, bx_nfP_ok h0_ (fvs := []) (by decide +kernel) g.2.1, ?_, ?_⟩
  · show rxIRPW_8 S0 ws S_p (bx_val [(0, 0), (0, 0), (0, 0), (0, 0), (0, 0), (0, 0), (0, 0), (0, 0), (0, 0), (0, 0), (0, 0)] r_p 8) (bx_val [(0, 0), (0, 0), (0, 0), (0, 0), (0, 0), (0, 0), (0, 0), (0, 0), (0, 0), (0, 0), (0, 0)] r_p 9) (bx_val [(0, 0), (0, 0), (0, 0), (0, 0), (0, 0), (0, 0), (0, 0), (0, 0), (0, 0), (0, 0), (0, 0)] r_p 10)
    rw [bx_val_x (n := 8) (e := (0, 0)) h0_ rfl, bx_val_x (n := 9) (e := (0, 0)) h0_ rfl, bx_val_x (n := 10) (e := (0, 0)) h0_ rfl]
    exact g.2.2.1
  · show rxmRPW_8 S0 ws S_p (bx_val [(0, 0), (0, 0), (0, 0), (0, 0), (0, 0), (0, 0), (0, 0), (0, 0), (0, 0), (0, 0), (0, 0)] r_p 8) (bx_val [(0, 0), (0, 0), (0, 0), (0, 0), (0, 0), (0, 0), (0, 0), (0, 0), (0, 0), (0, 0), (0, 0)] r_p 9) (bx_val [(0, 0), (0, 0), (0, 0), (0, 0), (0, 0), (0, 0), (0, 0), (0, 0), (0, 0), (0, 0), (0, 0)] r_p 10) < rxmRPW_6 S0 ws S_p (r 8)
    rw [bx_val_x (n := 8) (e := (0, 0)) h0_ rfl, bx_val_x (n := 9) (e := (0, 0)) h0_ rfl, bx_val_x (n := 10) (e := (0, 0)) h0_ rfl, ← hr_ 8 (by decide)]
    exact g.2.2.2
theorem rxcRPW_6_3 {S0 : Nat → Int → Int} {ws : List Int} {S : Nat → Int → Int} {its x9 x10 : Int} (hP : rxPRPW S0 ws) (hin : bx_same rxL (bx_mdl rxCRPW.2.2.1) S0 S) (I0 : bx_Inv rxL S) (hinv : rxIRPW_6 S0 ws S its) (l8 : 0 ≤ its) (u8 : its ≤ 8) (l9 : 2 ≤ x9) (u9 : x9 ≤ 2) (l10 : 1001 ≤ x10) (u10 : x10 ≤ 9223372036854775807) (f0 : its ≠ (-1)) (f1 : its ≠ (-1)) (e1 : S 480 11 = x9) (e0 : S 480 12 = x10) : (True) ∧ (True) ∧ rxIRPW_8 S0 ws S 1 its 0 ∧ rxmRPW_8 S0 ws S 1 its 0 < rxmRPW_6 S0 ws S its := by
  obtain ⟨hI, hx⟩ := hinv
  obtain ⟨a_, b_, c_, d_⟩ := rxcRP_6_3 hP hin I0 hI l8 u8 l9 u9 l10 u10 f0 f1 e1 e0
  exact ⟨a_, b_, ⟨c_, (fun c hD => by
    have e := hI.1
    subst e
    obtain ⟨g91, hits⟩ := hx c hD
    refine ⟨g91, ?_⟩
    exfalso
    have q := hI.2.2 (by omega)
    omega)⟩, d_⟩
theorem rxgRPW_6_3 {X : (Nat → Int → Int) → Prop} {S0 : Nat → Int → Int} {ws : List Int} (hP : rxPRPW S0 ws) : bx_obC rxL X S0 rxCRPW.2.2.1 (rxIRPW S0 ws) (rxmRPW S0 ws) 6 rxzRPW_6 rxoRPW_6_3 := by
  intro S S_p r r_p hinv hX hin hsm_ hseg
  obtain ⟨I0, I1, h0_, hr_, b_, f_, d_⟩ := bx_cl (evs := [(0, (0, 480), (0, 12), .inr (1, (10, 0))), (0, (0, 480), (0, 11), .inr (0, (9, 0)))]) (fvs := [(3, (8, 0), (0, (-1)), (0, 0)), (3, (8, 0), (0, (-1)), (0, 0))]) hseg (by decide +kernel) (by decide +kernel)
  have hinv : rxIRPW_6 S0 ws S (r 8) := hinv
  rw [← hr_ 8 (by decide)] at hinv
  obtain ⟨⟨l8, u8⟩, ⟨l9, u9⟩, ⟨l10, u10⟩, -⟩ := b_
  obtain ⟨f0, f1, -⟩ := f_
  obtain ⟨e0, ⟨e1, w_⟩⟩ := d_
  subst w_
  have g := rxcRPW_6_3 hP hin I0 hinv l8 u8 l9 u9 l10 u10 f0 f1 e1 e0
  refine ⟨bx_narP_ok (l := []) g.1, bx_nfP_ok h0_ (fvs := []) (by decide +kernel) g.2.1, ?_, ?_⟩
  · show rxIRPW_8 S0 ws S_p (bx_val [(0, 0), (0, 0), (0, 0), (0, 0), (0, 0), (0, 0), (0, 0), (0, 0), (0, 1), (8, 0), (0, 0)] r_p 8) (bx_val [(0, 0), (0, 0), (0, 0), (0, 0), (0, 0), (0, 0), (0, 0), (0, 0), (0, 1), (8, 0), (0, 0)] r_p 9) (bx_val [(0, 0), (0, 0), (0, 0), (0, 0), (0, 0), (0, 0), (0, 0), (0, 0), (0, 1), (8, 0), (0, 0)] r_p 10)
    rw [bx_val_x (n := 8) (e := (0, 1)) h0_ rfl, bx_val_x (n := 9) (e := (8, 0)) h0_ rfl, bx_val_x (n := 10) (e := (0, 0)) h0_ rfl]
    exact g.2.2.1
  · show rxmRPW_8 S0 ws S_p (bx_val [(0, 0), (0, 0), (0, 0), (0, 0), (0, 0), (0, 0), (0, 0), (0, 0), (0, 1), (8, 0), (0, 0)] r_p 8) (bx_val [(0, 0), (0, 0), (0, 0), (0, 0), (0, 0), (0, 0), (0, 0), (0, 0), (0, 1), (8, 0), (0, 0)] r_p 9) (bx_val [(0, 0), (0, 0), (0, 0), (0, 0), (0, 0), (0, 0), (0, 0), (0, 0), (0, 1), (8, 0), (0, 0)] r_p 10) < rxmRPW_6 S0 ws S_p (r 8)
    rw [bx_val_x (n := 8) (e := (0, 1)) h0_ rfl, bx_val_x (n := 9) (e := (8, 0)) h0_ rfl, bx_val_x (n := 10) (e := (0, 0)) h0_ rfl, ← hr_ 8 (by decide)]
    exact g.2.2.2
theorem rxcRPW_6_4 {S0 : Nat → Int → Int} {ws : List Int} {S : Nat → Int → Int} {its x9 : Int} (hP : rxPRPW S0 ws) (hin : bx_same rxL (bx_mdl rxCRPW.2.2.1) S0 S) (I0 : bx_Inv rxL S) (hinv : rxIRPW_6 S0 ws S its) (l8 : (-1) ≤ its) (u8 : its ≤ (-1)) (l9 : 0 ≤ x9) (u9 : x9 ≤ 3) (f0 : x9 ≠ 2) (e0 : S 480 11 = x9) : (True) ∧ (True) ∧ rxIRPW_8 S0 ws S 0 0 0 ∧ rxmRPW_8 S0 ws S 0 0 0 < rxmRPW_6 S0 ws S its := by
  obtain ⟨hI, hx⟩ := hinv
  obtain ⟨a_, b_, c_, d_⟩ := rxcRP_6_4 hP hin I0 hI l8 u8 l9 u9 f0 e0
  exact ⟨a_, b_, ⟨c_, (fun c hD => by
    have e := hI.1
    subst e
    obtain ⟨g91, hits⟩ := hx c hD
    refine ⟨g91, ?_⟩
    refine Or.inr ⟨rfl, fun g => ?_⟩
    rcases g.1 with z | z
    · have := (rzDq_dg hD).mpr z
      omega
    · rw [if_pos z] at hits
      omega)⟩, d_⟩
theorem rxgRPW_6_4 {X : (Nat → Int → Int) → Prop} {S0 : Nat → Int → Int} {ws : List Int} (hP : rxPRPW S0 ws) : bx_obC rxL X S0 rxCRPW.2.2.1 (rxIRPW S0 ws) (rxmRPW S0 ws) 6 rxzRPW_6 rxoRPW_6_4 := by
  intro S S_p r r_p hinv hX hin hsm_ hseg
  obtain ⟨I0, I1, h0_, hr_, b_, f_, d_⟩ := bx_cl (evs := [(0, (0, 480), (0, 11), .inr (0, (9, 0)))]) (fvs := [(3, (9, 0), (0, 2), (0, 0))]) hseg (by decide +kernel) (by decide +kernel)
  have hinv : rxIRPW_6 S0 ws S (r 8) := hinv
  rw [← hr_ 8 (by decide)] at hinv
  obtain ⟨⟨l8, u8⟩, ⟨l9, u9⟩, -⟩ := b_
  obtain ⟨f0, -⟩ := f_
  obtain ⟨e0, w_⟩ := d_
  subst w_
  have g := rxcRPW_6_4 hP hin I0 hinv l8 u8 l9 u9 f0 e0
  refine ⟨bx_narP_ok (l := []) g.1, bx_nfP_ok h0_ (fvs := []) (by decide +kernel) g.2.1, ?_, ?_⟩
  · show rxIRPW_8 S0 ws S_p (bx_val [(0, 0), (0, 0), (0, 0), (0, 0), (0, 0), (0, 0), (0, 0), (0, 0), (0, 0), (0, 0), (0, 0)] r_p 8) (bx_val [(0, 0), (0, 0), (0, 0), (0, 0), (0, 0), (0, 0), (0, 0), (0, 0), (0, 0), (0, 0), (0, 0)] r_p 9) (bx_val [(0, 0), (0, 0), (0, 0), (0, 0), (0, 0), (0, 0), (0, 0), (0, 0), (0, 0), (0, 0), (0, 0)] r_p 10)
    rw [bx_val_x (n := 8) (e := (0, 0)) h0_ rfl, bx_val_x (n := 9) (e := (0, 0)) h0_ rfl, bx_val_x (n := 10) (e := (0, 0)) h0_ rfl]
    exact g.2.2.1
  · show rxmRPW_8 S0 ws S_p (bx_val [(0, 0), (0, 0), (0, 0), (0, 0), (0, 0), (0, 0), (0, 0), (0, 0), (0, 0), (0, 0), (0, 0)] r_p 8) (bx_val [(0, 0), (0, 0), (0, 0), (0, 0), (0, 0), (0, 0), (0, 0), (0, 0), (0, 0), (0, 0), (0, 0)] r_p 9) (bx_val [(0, 0), (0, 0), (0, 0), (0, 0), (0, 0), (0, 0), (0, 0), (0, 0), (0, 0), (0, 0), (0, 0)] r_p 10) < rxmRPW_6 S0 ws S_p (r 8)
    rw [bx_val_x (n := 8) (e := (0, 0)) h0_ rfl, bx_val_x (n := 9) (e := (0, 0)) h0_ rfl, bx_val_x (n := 10) (e := (0, 0)) h0_ rfl, ← hr_ 8 (by decide)]
    exact g.2.2.2
theorem rxcRPW_6_5 {S0 : Nat → Int → Int} {ws : List Int} {S : Nat → Int → Int} {its x9 : Int} (hP : rxPRPW S0 ws) (hin : bx_same rxL (bx_mdl rxCRPW.2.2.1) S0 S) (I0 : bx_Inv rxL S) (hinv : rxIRPW_6 S0 ws S its) (l8 : 0 ≤ its) (u8 : its ≤ 8) (l9 : 0 ≤ x9) (u9 : x9 ≤ 3) (f0 : its ≠ (-1)) (f1 : its ≠ (-1)) (f2 : x9 ≠ 2) (e0 : S 480 11 = x9) : (True) ∧ (True) ∧ rxIRPW_8 S0 ws S 1 its 0 ∧ rxmRPW_8 S0 ws S 1 its 0 < rxmRPW_6 S0 ws S its := by
  obtain ⟨hI, hx⟩ := hinv
  obtain ⟨a_, b_, c_, d_⟩ := rxcRP_6_5 hP hin I0 hI l8 u8 l9 u9 f0 f1 f2 e0
  exact ⟨a_, b_, ⟨c_, (fun c hD => by
    have e := hI.1
    subst e
    obtain ⟨g91, hits⟩ := hx c hD
    refine ⟨g91, ?_⟩
    have hi : 0 ≤ rzIxn (rzCut (S 485)) (S 480 8) (S 480 9) (rzWr S) 0 := by
      by_cases z : 0 ≤ rzIxn (rzCut (S 485)) (S 480 8) (S 480 9) (rzWr S) 0
      · exact z
      · rw [if_neg z] at hits
        omega
    have hno : rzNo (rzCut (S 485)) (S 480 8) (S 480 9) = -1 := if_neg fun g => by
      have := (rzDq_dg hD).mpr g
      omega
    exact Or.inl ⟨rfl, Or.inr hi, by omega⟩)⟩, d_⟩
theorem rxgRPW_6_5 {X : (Nat → Int → Int) → Prop} {S0 : Nat → Int → Int} {ws : List Int} (hP : rxPRPW S0 ws) : bx_obC rxL X S0 rxCRPW.2.2.1 (rxIRPW S0 ws) (rxmRPW S0 ws) 6 rxzRPW_6 rxoRPW_6_5 := by
  intro S S_p r r_p hinv hX hin hsm_ hseg
  obtain ⟨I0, I1, h0_, hr_, b_, f_, d_⟩ := bx_cl (evs := [(0, (0, 480), (0, 11), .inr (0, (9, 0)))]) (fvs := [(3, (8, 0), (0, (-1)), (0, 0)), (3, (8, 0), (0, (-1)), (0, 0)), (3, (9, 0), (0, 2), (0, 0))]) hseg (by decide +kernel) (by decide +kernel)
  have hinv : rxIRPW_6 S0 ws S (r 8) := hinv
  rw [← hr_ 8 (by decide)] at hinv
  obtain ⟨⟨l8, u8⟩, ⟨l9, u9⟩, -⟩ := b_
  obtain ⟨f0, f1, f2, -⟩ := f_
  obtain ⟨e0, w_⟩ := d_
  subst w_
  have g := rxcRPW_6_5 hP hin I0 hinv l8 u8 l9 u9 f0 f1 f2 e0
  refine ⟨bx_narP_ok (l := []) g.1, bx_nfP_ok h0_ (fvs := []) (by decide +kernel) g.2.1, ?_, ?_⟩
  · show rxIRPW_8 S0 ws S_p (bx_val [(0, 0), (0, 0), (0, 0), (0, 0), (0, 0), (0, 0), (0, 0), (0, 0), (0, 1), (8, 0), (0, 0)] r_p 8) (bx_val [(0, 0), (0, 0), (0, 0), (0, 0), (0, 0), (0, 0), (0, 0), (0, 0), (0, 1), (8, 0), (0, 0)] r_p 9) (bx_val [(0, 0), (0, 0), (0, 0), (0, 0), (0, 0), (0, 0), (0, 0), (0, 0), (0, 1), (8, 0), (0, 0)] r_p 10)
    rw [bx_val_x (n := 8) (e := (0, 1)) h0_ rfl, bx_val_x (n := 9) (e := (8, 0)) h0_ rfl, bx_val_x (n := 10) (e := (0, 0)) h0_ rfl]
    exact g.2.2.1
  · show rxmRPW_8 S0 ws S_p (bx_val [(0, 0), (0, 0), (0, 0), (0, 0), (0, 0), (0, 0), (0, 0), (0, 0), (0, 1), (8, 0), (0, 0)] r_p 8) (bx_val [(0, 0), (0, 0), (0, 0), (0, 0), (0, 0), (0, 0), (0, 0), (0, 0), (0, 1), (8, 0), (0, 0)] r_p 9) (bx_val [(0, 0), (0, 0), (0, 0), (0, 0), (0, 0), (0, 0), (0, 0), (0, 0), (0, 1), (8, 0), (0, 0)] r_p 10) < rxmRPW_6 S0 ws S_p (r 8)
    rw [bx_val_x (n := 8) (e := (0, 1)) h0_ rfl, bx_val_x (n := 9) (e := (8, 0)) h0_ rfl, bx_val_x (n := 10) (e := (0, 0)) h0_ rfl, ← hr_ 8 (by decide)]
    exact g.2.2.2
theorem rxcRPW_7_0 {S0 : Nat → Int → Int} {ws : List Int} {S : Nat → Int → Int} {is op w_ : Int} (hP : rxPRPW S0 ws) (hin : bx_same rxL (bx_mdl rxCRPW.2.2.1) S0 S) (I0 : bx_Inv rxL S) (hinv : rxIRPW_7 S0 ws S is op w_) (l8 : 0 ≤ is) (u8 : is ≤ 1) (l9 : 0 ≤ op) (u9 : op ≤ 8) (l10 : 0 ≤ w_) (u10 : w_ ≤ 1000) : (True) ∧ (True) ∧ rxIRPW_8 S0 ws S is op w_ ∧ rxmRPW_8 S0 ws S is op w_ < rxmRPW_7 S0 ws S is op w_ := by
  obtain ⟨hI, hx⟩ := hinv
  obtain ⟨a_, b_, c_, d_⟩ := rxcRP_7_0 hP hin I0 hI l8 u8 l9 u9 l10 u10
  exact ⟨a_, b_, ⟨c_, hx⟩, d_⟩
theorem rxgRPW_7_0 {X : (Nat → Int → Int) → Prop} {S0 : Nat → Int → Int} {ws : List Int} (hP : rxPRPW S0 ws) : bx_obC rxL X S0 rxCRPW.2.2.1 (rxIRPW S0 ws) (rxmRPW S0 ws) 7 rxzRPW_7 rxoRPW_7_0 := by
  intro S S_p r r_p hinv hX hin hsm_ hseg
  obtain ⟨I0, I1, h0_, hr_, b_, f_, d_⟩ := bx_cl (evs := []) (fvs := []) hseg (by decide +kernel) (by decide +kernel)
  have hinv : rxIRPW_7 S0 ws S (r 8) (r 9) (r 10) := hinv
  rw [← hr_ 8 (by decide), ← hr_ 9 (by decide), ← hr_ 10 (by decide)] at hinv
  obtain ⟨⟨l8, u8⟩, ⟨l9, u9⟩, ⟨l10, u10⟩, -⟩ := b_
  have w_ := d_
  subst w_
  have g := rxcRPW_7_0 hP hin I0 hinv l8 u8 l9 u9 l10 u10
  refine ⟨bx_narP_ok (l := []) g.1, bx_nfP_ok h0_ (fvs := []) (by decide +kernel) g.2.1, ?_, ?_⟩
  · show rxIRPW_8 S0 ws S_p (bx_val [(0, 0), (0, 0), (0, 0), (0, 0), (0, 0), (0, 0), (0, 0), (0, 0), (8, 0), (9, 0), (10, 0)] r_p 8) (bx_val [(0, 0), (0, 0), (0, 0), (0, 0), (0, 0), (0, 0), (0, 0), (0, 0), (8, 0), (9, 0), (10, 0)] r_p 9) (bx_val [(0, 0), (0, 0), (0, 0), (0, 0), (0, 0), (0, 0), (0, 0), (0, 0), (8, 0), (9, 0), (10, 0)] r_p 10)
    rw [bx_val_x (n := 8) (e := (8, 0)) h0_ rfl, bx_val_x (n := 9) (e := (9, 0)) h0_ rfl, bx_val_x (n := 10) (e := (10, 0)) h0_ rfl]
    exact g.2.2.1
  · show rxmRPW_8 S0 ws S_p (bx_val [(0, 0), (0, 0), (0, 0), (0, 0), (0, 0), (0, 0), (0, 0), (0, 0), (8, 0), (9, 0), (10, 0)] r_p 8) (bx_val [(0, 0), (0, 0), (0, 0), (0, 0), (0, 0), (0, 0), (0, 0), (0, 0), (8, 0), (9, 0), (10, 0)] r_p 9) (bx_val [(0, 0), (0, 0), (0, 0), (0, 0), (0, 0), (0, 0), (0, 0), (0, 0), (8, 0), (9, 0), (10, 0)] r_p 10) < rxmRPW_7 S0 ws S_p (r 8) (r 9) (r 10)
    rw [bx_val_x (n := 8) (e := (8, 0)) h0_ rfl, bx_val_x (n := 9) (e := (9, 0)) h0_ rfl, bx_val_x (n := 10) (e := (10, 0)) h0_ rfl, ← hr_ 8 (by decide), ← hr_ 9 (by decide), ← hr_ 10 (by decide)]
    exact g.2.2.2
theorem rxdRPW_9_0 {S0 : Nat → Int → Int} {ws : List Int} {S : Nat → Int → Int} {is op arg : Int} (hP : rxPRPW S0 ws) (hin : bx_same rxL (bx_mdl rxCRPW.2.2.1) S0 S) (hin2 : bx_same rxL (bx_mdl rxCRPW.2.2.1) S S) (I0 : bx_Inv rxL S) (I1 : bx_Inv rxL S) (hinv : rxIRPW_9 S0 ws S is op arg) (l8 : 0 ≤ is) (u8 : is ≤ 1) (l9 : 0 ≤ op) (u9 : op ≤ 8) (l10 : 0 ≤ arg) (u10 : arg ≤ 1000) : (True) ∧ rxPSRPW S0 ws S (some 3) := by
  obtain ⟨hI, hx⟩ := hinv
  obtain ⟨a_, c_⟩ := rxdRP_9_0 hP hin hin2 I0 I1 hI l8 u8 l9 u9 l10 u10
  exact ⟨a_, c_, hx⟩
theorem rxfRPW_9_0 {X : (Nat → Int → Int) → Prop} {S0 : Nat → Int → Int} {ws : List Int} (hP : rxPRPW S0 ws) : bx_obE rxL X S0 rxCRPW.2.2.1 (rxIRPW S0 ws) (rxPSRPW S0 ws) 9 rxzRPW_9 rxeRPW_9_0 := by
  intro S S_p r r_p hinv hX hin hsm_ hseg
  obtain ⟨I0, I1, h0_, hr_, b_, f_, d_⟩ := bx_cl (evs := []) (fvs := []) hseg (by decide +kernel) (by decide +kernel)
  have hinv : rxIRPW_9 S0 ws S (r 8) (r 9) (r 10) := hinv
  rw [← hr_ 8 (by decide), ← hr_ 9 (by decide), ← hr_ 10 (by decide)] at hinv
  obtain ⟨⟨l8, u8⟩, ⟨l9, u9⟩, ⟨l10, u10⟩, -⟩ := b_
  have w_ := d_
  subst w_
  have g := rxdRPW_9_0 hP hin hsm_ I0 I1 hinv l8 u8 l9 u9 l10 u10
  refine ⟨bx_narP_ok (l := []) g.1, ?_⟩
  show rxPSRPW S0 ws S_p (some (bx_num r_p (.inr (0, (0, 3)))))
  rw [bx_xv_ok h0_]
  exact g.2
theorem rxgCRPW {X : (Nat → Int → Int) → Prop} {S0 : Nat → Int → Int} {ws : List Int} (hP : rxPRPW S0 ws) : bx_allI (fun i q => rxURPW q = true ∨ bx_allP (fun o => bx_obC rxL X S0 rxCRPW.2.2.1 (rxIRPW S0 ws) (rxmRPW S0 ws) i q.1 o) q.2.1) 0 rxYRPW := ⟨Or.inr ⟨rxgRPW_0_0 hP, rxgRPW_0_1 hP, rxgRPW_0_2 hP, rxgRPW_0_3 hP, rxgRPW_0_4 hP, trivial⟩, Or.inl rfl, Or.inr trivial, Or.inl rfl, Or.inr ⟨rxgRPW_4_0 hP, rxgRPW_4_1 hP, rxgRPW_4_2 hP, rxgRPW_4_3 hP, rxgRPW_4_4 hP, rxgRPW_4_5 hP, trivial⟩, Or.inl rfl, Or.inr ⟨rxgRPW_6_0 hP, rxgRPW_6_1 hP, rxgRPW_6_2 hP, rxgRPW_6_3 hP, rxgRPW_6_4 hP, rxgRPW_6_5 hP, trivial⟩, Or.inr ⟨rxgRPW_7_0 hP, trivial⟩, Or.inl rfl, Or.inr trivial, trivial⟩
theorem rxgERPW {X : (Nat → Int → Int) → Prop} {S0 : Nat → Int → Int} {ws : List Int} (hP : rxPRPW S0 ws) : bx_allI (fun i q => rxURPW q = true ∨ bx_allP (fun E => bx_obE rxL X S0 rxCRPW.2.2.1 (rxIRPW S0 ws) (rxPSRPW S0 ws) i q.1 E) q.2.2) 0 rxYRPW := ⟨Or.inr trivial, Or.inl rfl, Or.inr ⟨rxfRPW_2_0 hP, trivial⟩, Or.inl rfl, Or.inr trivial, Or.inl rfl, Or.inr trivial, Or.inr trivial, Or.inl rfl, Or.inr ⟨rxfRPW_9_0 hP, trivial⟩, trivial⟩
theorem rxuRPW {PX : State → Prop} {Dg : va_G} {A : Nat → Prop} {ad xa : Nat → Nat} {l : Launch} {X : (Nat → Int → Int) → Prop} (hPX : rx_PXOK rxNW A PX) (hX : ∀ S S1 : Nat → Int → Int, X S → bx_same rxL (bx_mdl rxCRPW.2.2.1) S S1 → X S1) (hQOBW : bx_ConP rxG rxNW rxAO PX Dg rxL X vwCl A ad l rxM270 rxCOBW rxPOBW rxPSOBW) (hQPPW : bx_ConP rxG rxNW rxAO PX Dg rxL X vwCl A ad l rxM271 rxCPPW rxPPPW rxPSPPW) (hQPAW : bx_ConP rxG rxNW rxAO PX Dg rxL X vwCl A ad l rxM272 rxCPAW rxPPAW rxPSPAW) (hQLFW : bx_ConP rxG rxNW rxAO PX Dg rxL X vwCl A ad l rxM273 rxCLFW rxPLFW rxPSLFW) {S0 : Nat → Int → Int} {ws : List Int} (hP : rxPRPW S0 ws) : ∀ (i : Nat) (q : bx_HE), rxYRPW[i]? = some q → rxURPW q = true → ∀ {p : Program} {e : Env} {R : Room} {s : State} {m : MethodId} {args : Array Value} {below : List Frame} {meth : Method} {c : Code} {Q : State → Prop} {H0 : Heap}, rx_Fr rxG rxNW rxAO PX p s m args meth c rxM274 → (∀ q, H0.size ≤ q → A q) → H0 = s.heap → rxM274.2.2.2.2.2.2.1 ≤ R.cells → rxM274.2.2.2.2.2.2.2 ≤ R.slots → rxCRPW.2.2.2.1 ≤ R.frames → rxCRPW.2.2.2.1 * 40 ≤ R.locals → bx_Step p l e R s m args below meth c Q Dg rxL X vwCl A xa H0 ad rxM274 rxYRPW (rxIRPW S0 ws) (rxmRPW S0 ws) S0 rxCRPW.2.2.1 i q := by
  intro i q hq hus p e R s m args below meth c Q H0 hF hA hH0 hmc hms hd hdl
  match i, hq with
  | 0, hq =>
    cases hq
    exact absurd (show false = true from hus) Bool.false_ne_true
  | 1, hq =>
    cases hq
    exact rx_stepC (ins := .invokevirtual 323) (len := 3) (i_p := 2) (M_p := rxM270) (d := rxCRPW.2.2.2.1) (as := [.inr (3, (0, 480)), .inr (0, (0, 32))]) (t := []) (ct := rxCOBW) hPX hF rfl hA hH0 hmc hms hd hdl (by decide +kernel) rfl rfl (by decide +kernel) (by decide +kernel) hQOBW (by decide +kernel) rfl (Or.inl ⟨rfl, rfl, rfl⟩) (rxsRPW_1 hP)
  | 2, hq =>
    cases hq
    exact absurd (show false = true from hus) Bool.false_ne_true
  | 3, hq =>
    cases hq
    exact rx_stepC (ins := .invokevirtual 329) (len := 3) (i_p := 4) (M_p := rxM271) (d := rxCRPW.2.2.2.1) (as := [.inr (3, (0, 480))]) (t := []) (ct := rxCPPW) hPX hF rfl hA hH0 hmc hms hd hdl (by decide +kernel) rfl rfl (by decide +kernel) (by decide +kernel) hQPPW (by decide +kernel) rfl (Or.inr ⟨_, _, _, 1, rfl, rfl, by omega, rfl, rfl, rfl⟩) (rxsRPW_3 hP)
  | 4, hq =>
    cases hq
    exact absurd (show false = true from hus) Bool.false_ne_true
  | 5, hq =>
    cases hq
    exact rx_stepC (ins := .invokevirtual 333) (len := 3) (i_p := 6) (M_p := rxM272) (d := rxCRPW.2.2.2.1) (as := [.inr (3, (0, 480))]) (t := []) (ct := rxCPAW) hPX hF rfl hA hH0 hmc hms hd hdl (by decide +kernel) rfl rfl (by decide +kernel) (by decide +kernel) hQPAW (by decide +kernel) rfl (Or.inr ⟨_, _, _, 1, rfl, rfl, by omega, rfl, rfl, rfl⟩) (rxsRPW_5 hP)
  | 6, hq =>
    cases hq
    exact absurd (show false = true from hus) Bool.false_ne_true
  | 7, hq =>
    cases hq
    exact absurd (show false = true from hus) Bool.false_ne_true
  | 8, hq =>
    cases hq
    exact rx_stepC (ins := .invokevirtual 338) (len := 3) (i_p := 9) (M_p := rxM273) (d := rxCRPW.2.2.2.1) (as := [.inr (3, (0, 480)), .inr (0, (8, 0)), .inr (0, (9, 0)), .inr (0, (10, 0))]) (t := []) (ct := rxCLFW) hPX hF rfl hA hH0 hmc hms hd hdl (by decide +kernel) rfl rfl (by decide +kernel) (by decide +kernel) hQLFW (by decide +kernel) rfl (Or.inl ⟨rfl, rfl, rfl⟩) (rxsRPW_8 hP)
  | 9, hq =>
    cases hq
    exact absurd (show false = true from hus) Bool.false_ne_true
  | n + 10, hq => cases hq
theorem rxQRPW {PX : State → Prop} {Dg : va_G} {A : Nat → Prop} {ad xa : Nat → Nat} {l : Launch} {X : (Nat → Int → Int) → Prop} (hPX : rx_PXOK rxNW A PX) (hsl : ∀ s : State, PX s → ∀ o idx n : Nat, rxSl o idx = some n → ∃ tx : String, vk_R (rxNm o) idx tx (ad n) s)
    (hX : ∀ S S_p : Nat → Int → Int, X S → bx_same rxL (bx_mdl rxCRPW.2.2.1) S S_p → X S_p)
    (ih : ∀ (j2 : Nat) (ct2 : bx_Ct) (M2 : rx_Mt), ct2 ∈ rxCnE j2 → ct2.2.2.2.1 + 1 ≤ rxCRPW.2.2.2.1 → rxT.2.2.2.2.2 j2 = some M2 → bx_Con rxG rxNW rxAO PX Dg rxL X vwCl A ad l M2 ct2) (hQOBW : bx_ConP rxG rxNW rxAO PX Dg rxL X vwCl A ad l rxM270 rxCOBW rxPOBW rxPSOBW) (hQPPW : bx_ConP rxG rxNW rxAO PX Dg rxL X vwCl A ad l rxM271 rxCPPW rxPPPW rxPSPPW) (hQPAW : bx_ConP rxG rxNW rxAO PX Dg rxL X vwCl A ad l rxM272 rxCPAW rxPPAW rxPSPAW) (hQLFW : bx_ConP rxG rxNW rxAO PX Dg rxL X vwCl A ad l rxM273 rxCLFW rxPLFW rxPSLFW) : bx_ConP rxG rxNW rxAO PX Dg rxL X vwCl A ad l rxM274 rxCRPW rxPRPW rxPSRPW :=
  rxQof (xa := xa) (Cn := rxCnE) (f := 30000) (j := 274) (tab := rxYRPW) (us := rxURPW) hPX hsl hX ih rfl rxYcRPW rxIRPW rxmRPW
    (fun S0 ws r I0 I ht0 ht as he he1 hX0 hI0 hP hs ha => by
      have e := he.symm.trans (show bx_ent0 rxNP rxCRPW.1 bx_I0 [] = some ([(0, 0), (0, 0), (0, 0), (0, 0), (0, 0), (0, 0), (0, 0), (0, 0)], [], [.inr (3, (0, 480))]) from rfl)
      cases e
      subst ha
      have h0 : r 0 = 0 := hs.1
      show rxIRPW_0 S0 _ S0
      refine ⟨⟨rfl, ?_⟩, trivial⟩
      simp only [List.map_cons, List.map_nil, bx_xv_ok h0]
      rfl)
    (fun S0 ws hP => rxuRPW (xa := xa) hPX hX hQOBW hQPPW hQPAW hQLFW hP) (fun S0 ws hP => rxgCRPW hP) (fun S0 ws hP => rxgERPW hP)

theorem rzTn_not {S0 S : Nat → Int → Int} {tst : Int} {rest : List Int} (hD : rzDq S0) (hn : rzIs (rzCut (S0 485)) (S0 480 8) rzW_not (S0 480 9) = true) (r : rzSr S0 tst (1 :: rest)) (h14 : S 480 14 = 0) (nw : rzNw S0 S) (p : rzPl S0 S 1 0 0) (hp : S 489 (S0 480 24) = 28) : rzTn S0 S tst (1 :: rest) false (some 0) := by
  have np := rzIs_np (S := S0) (w := rzW_not) (by decide) (by decide) ⟨by decide, by decide⟩ hn
  obtain ⟨p1, p2, p3, p4⟩ := p
  have r1 : rzSr S tst (1 :: rest) := by
    refine ⟨?_, by have := r.2.1; omega, by have := r.2.2; omega⟩
    rw [p1]
    exact rzBr_not r.2.2 r.1 p4 hp
  refine rzTn_y (t := 0) h14 rfl nw r1 (Or.inl ⟨rfl, rfl⟩) ?_
  rw [rzStep_0, if_neg np, if_pos ⟨rfl, hn⟩, show S 480 21 = S0 480 21 by omega]
  simp
theorem rzTn_ro {S0 S : Nat → Int → Int} {tst : Int} {rest : List Int} (hD : rzDq S0) (hn : rzIs (rzCut (S0 485)) (S0 480 8) rzW_not (S0 480 9) = false) (h40 : rzSg (rzCut (S0 485)) (S0 480 8) 40 (S0 480 9) = true) (r : rzSr S0 tst (1 :: rest))
    (h : (S 480 14 = 0 → S0 480 25 < 8 ∧ rzNw S0 S ∧ rzPl S0 S 1 1 0 ∧ S 489 (S0 480 24) = 31) ∧ (S 480 14 ≠ 0 → ¬ S0 480 25 < 8 ∧ S 480 13 = S0 480 9)) : rzTn S0 S tst (1 :: rest) false (some 0) := by
  have hl := rzLenr r
  have np := rzSg_np (S := S0) (c := 40) (by decide) (by decide) h40
  have hn2 : ¬ ((1 : Int) = 1 ∧ rzIs (rzCut (S0 485)) (S0 480 8) rzW_not (S0 480 9) = true) := fun g => by
    rw [hn] at g
    exact absurd g.2 (by decide)
  by_cases hb : S 480 14 = 0
  · obtain ⟨h8, nw, p, hp⟩ := h.1 hb
    obtain ⟨p1, p2, p3, p4⟩ := p
    have r1 : rzSr S tst (1 :: 1 :: rest) := by
      refine ⟨?_, ?_, by have := r.2.2; omega⟩
      · rw [p1]
        exact rzBr_ro r.2.2 r.1 p4 hp
      · simp only [List.length_cons]
        omega
    refine rzTn_y (t := 0) hb rfl nw r1 (Or.inl ⟨rfl, rfl⟩) ?_
    rw [rzStep_0, if_neg np, if_neg hn2, if_pos ⟨rfl, h40⟩, if_pos (by omega), show S 480 21 = S0 480 21 by omega]
    simp
  · obtain ⟨h8, h13⟩ := h.2 hb
    refine rzTn_n (f_p := S0 480 9) (lv_p := 1 :: rest) (pr_p := false) (lf_p := S0 480 21) hb h13 ?_
    rw [rzStep_0, if_neg np, if_neg hn2, if_pos ⟨rfl, h40⟩]
    exact if_neg (by omega)
noncomputable def rxCRNW : bx_Ct := ([(3, (1, 480, 0))], some (0, (0, 0, 3)), [(12, 9), (12, 10), (12, 11), (12, 12), (12, 13), (12, 14), (12, 18), (12, 21), (12, 24), (12, 25), (1068, 0), (1069, 0), (1070, 0), (1071, 0)], 5, [])
noncomputable def rxIRNW_0 (S0 : Nat → Int → Int) (ws : List Int) (S : Nat → Int → Int) : Prop := rxIRN_0 S0 ws S ∧ True
noncomputable def rxmRNW_0 (S0 : Nat → Int → Int) (ws : List Int) (S : Nat → Int → Int) : Nat := rxmRN_0 S0 ws S
noncomputable def rxzRNW_0 : rx_Z := ([(0, 0), (0, 0), (0, 0), (0, 0), (0, 0), (0, 0), (0, 0), (0, 0)], [], [], 0, 0, 0, [(0, .inr (3, (0, 480)))], [])
noncomputable def rxIRNW_1 (S0 : Nat → Int → Int) (ws : List Int) (S : Nat → Int → Int) : Prop := rxIRN_1 S0 ws S ∧ (rzDq S0 → rzIs (rzCut (S0 485)) (S0 480 8) rzW_not (S0 480 9) = true)
noncomputable def rxmRNW_1 (S0 : Nat → Int → Int) (ws : List Int) (S : Nat → Int → Int) : Nat := rxmRN_1 S0 ws S
noncomputable def rxzRNW_1 : rx_Z := ([(0, 0), (0, 0), (0, 0), (0, 0), (0, 0), (0, 0), (0, 0), (0, 0)], [], [], 0, 0, 14, [(0, .inr (3, (0, 480)))], [.inr (0, (0, 0)), .inr (0, (0, 28)), .inr (3, (0, 480))])
noncomputable def rxIRNW_2 (S0 : Nat → Int → Int) (ws : List Int) (S : Nat → Int → Int) : Prop := rxIRN_2 S0 ws S ∧ (rzDq S0 → rzIs (rzCut (S0 485)) (S0 480 8) rzW_not (S0 480 9) = true)
noncomputable def rxmRNW_2 (S0 : Nat → Int → Int) (ws : List Int) (S : Nat → Int → Int) : Nat := rxmRN_2 S0 ws S
noncomputable def rxzRNW_2 : rx_Z := ([(0, 0), (0, 0), (0, 0), (0, 0), (0, 0), (0, 0), (0, 0), (0, 0)], [], [], 0, 0, 17, [(0, .inr (3, (0, 480)))], [])
noncomputable def rxIRNW_3 (S0 : Nat → Int → Int) (ws : List Int) (S : Nat → Int → Int) : Prop := rxIRN_3 S0 ws S ∧ (rzDq S0 → rzIs (rzCut (S0 485)) (S0 480 8) rzW_not (S0 480 9) = true)
noncomputable def rxmRNW_3 (S0 : Nat → Int → Int) (ws : List Int) (S : Nat → Int → Int) : Nat := rxmRN_3 S0 ws S
noncomputable def rxzRNW_3 : rx_Z := ([(0, 0), (0, 0), (0, 0), (0, 0), (0, 0), (0, 0), (0, 0), (0, 0)], [], [], 0, 0, 18, [(0, .inr (3, (0, 480)))], [.inr (3, (0, 480))])
noncomputable def rxIRNW_4 (S0 : Nat → Int → Int) (ws : List Int) (S : Nat → Int → Int) : Prop := rxIRN_4 S0 ws S ∧ (rzCk S0 → rzDq S0 → ∀ (tst : Int) (rest : List Int), rzSr S0 tst (1 :: rest) → rzTn S0 S tst (1 :: rest) false (some 0))
noncomputable def rxmRNW_4 (S0 : Nat → Int → Int) (ws : List Int) (S : Nat → Int → Int) : Nat := rxmRN_4 S0 ws S
noncomputable def rxzRNW_4 : rx_Z := ([(0, 0), (0, 0), (0, 0), (0, 0), (0, 0), (0, 0), (0, 0), (0, 0)], [], [], 0, 0, 21, [(0, .inr (3, (0, 480)))], [])
noncomputable def rxIRNW_5 (S0 : Nat → Int → Int) (ws : List Int) (S : Nat → Int → Int) : Prop := rxIRN_5 S0 ws S ∧ (rzDq S0 → rzIs (rzCut (S0 485)) (S0 480 8) rzW_not (S0 480 9) = false ∧ rzSg (rzCut (S0 485)) (S0 480 8) 40 (S0 480 9) = true)
noncomputable def rxmRNW_5 (S0 : Nat → Int → Int) (ws : List Int) (S : Nat → Int → Int) : Nat := rxmRN_5 S0 ws S
noncomputable def rxzRNW_5 : rx_Z := ([(0, 0), (0, 0), (0, 0), (0, 0), (0, 0), (0, 0), (0, 0), (0, 0)], [], [], 0, 0, 35, [(0, .inr (3, (0, 480)))], [.inr (0, (0, 31)), .inr (3, (0, 480))])
noncomputable def rxIRNW_6 (S0 : Nat → Int → Int) (ws : List Int) (S : Nat → Int → Int) : Prop := rxIRN_6 S0 ws S ∧ (rzCk S0 → rzDq S0 → ∀ (tst : Int) (rest : List Int), rzSr S0 tst (1 :: rest) → rzTn S0 S tst (1 :: rest) false (some 0))
noncomputable def rxmRNW_6 (S0 : Nat → Int → Int) (ws : List Int) (S : Nat → Int → Int) : Nat := rxmRN_6 S0 ws S
noncomputable def rxzRNW_6 : rx_Z := ([(0, 0), (0, 0), (0, 0), (0, 0), (0, 0), (0, 0), (0, 0), (0, 0)], [], [], 0, 0, 38, [(0, .inr (3, (0, 480)))], [])
noncomputable def rxIRNW_7 (S0 : Nat → Int → Int) (ws : List Int) (S : Nat → Int → Int) : Prop := rxIRN_7 S0 ws S ∧ (rzDq S0 → rzIs (rzCut (S0 485)) (S0 480 8) rzW_not (S0 480 9) = false ∧ rzSg (rzCut (S0 485)) (S0 480 8) 40 (S0 480 9) = false)
noncomputable def rxmRNW_7 (S0 : Nat → Int → Int) (ws : List Int) (S : Nat → Int → Int) : Nat := rxmRN_7 S0 ws S
noncomputable def rxzRNW_7 : rx_Z := ([(0, 0), (0, 0), (0, 0), (0, 0), (0, 0), (0, 0), (0, 0), (0, 0)], [], [], 0, 0, 41, [(0, .inr (3, (0, 480)))], [.inr (3, (0, 480))])
noncomputable def rxIRNW_8 (S0 : Nat → Int → Int) (ws : List Int) (S : Nat → Int → Int) (t : Int) : Prop := rxIRN_8 S0 ws S t ∧ (rzCk S0 → rzDq S0 → ∀ (tst : Int) (rest : List Int), rzSr S0 tst (1 :: rest) → rzTn S0 S tst (1 :: rest) false (some t))
noncomputable def rxmRNW_8 (S0 : Nat → Int → Int) (ws : List Int) (S : Nat → Int → Int) (t : Int) : Nat := rxmRN_8 S0 ws S t
noncomputable def rxzRNW_8 : rx_Z := ([(0, 0), (0, 0), (0, 0), (0, 0), (0, 0), (0, 0), (0, 0), (0, 0), (0, 3)], [], [], 0, 0, 44, [(0, .inr (3, (0, 480)))], [.inr (0, (8, 0))])
noncomputable def rxoRNW_0_0 : bx_HO := (([(0, 0), (0, 0), (0, 0), (0, 0), (0, 0), (0, 0), (0, 0), (0, 0), (0, 2)], [(3, (8, 0), (0, 3)), (3, (8, 0), (0, 1))], [(((0, 0), 1851192626986356799632114105031551009123054124018230966928539648000000), .inr (0, (8, 0))), (((0, 480), 11), .inr (0, (8, 0)))], 0, 0, 41, [(0, .inr (3, (0, 480)))], [.inr (3, (0, 480))]), [], [], [(0, 0), (0, 0), (0, 0), (0, 0), (0, 0), (0, 0), (0, 0), (0, 0)], 7)
noncomputable def rxoRNW_0_1 : bx_HO := (([(0, 0), (0, 0), (0, 0), (0, 0), (0, 0), (0, 0), (0, 0), (0, 0), (3, 3), ((-9223372036854775808), 9223372036854775807)], [(3, (9, 0), (0, 40)), (3, (8, 0), (0, 1))], [(((0, 0), 1851192626986356799832820811818326617396875588472066220482363392000000), .inr (1, (9, 0))), (((0, 480), 12), .inr (1, (9, 0))), (((0, 0), 1851192626986356799632114105031551009123054124018230966928539648000000), .inr (0, (8, 0))), (((0, 480), 11), .inr (0, (8, 0)))], 0, 0, 41, [(0, .inr (3, (0, 480)))], [.inr (3, (0, 480))]), [], [], [(0, 0), (0, 0), (0, 0), (0, 0), (0, 0), (0, 0), (0, 0), (0, 0)], 7)
noncomputable def rxoRNW_0_2 : bx_HO := (([(0, 0), (0, 0), (0, 0), (0, 0), (0, 0), (0, 0), (0, 0), (0, 0), (3, 3), (40, 40)], [(3, (8, 0), (0, 1))], [(((0, 0), 1851192626986356799832820811818326617396875588472066220482363392000000), .inr (1, (9, 0))), (((0, 480), 12), .inr (1, (9, 0))), (((0, 0), 1851192626986356799632114105031551009123054124018230966928539648000000), .inr (0, (8, 0))), (((0, 480), 11), .inr (0, (8, 0)))], 0, 0, 35, [(0, .inr (3, (0, 480)))], [.inr (0, (0, 31)), .inr (3, (0, 480))]), [], [], [(0, 0), (0, 0), (0, 0), (0, 0), (0, 0), (0, 0), (0, 0), (0, 0)], 5)
noncomputable def rxoRNW_0_3 : bx_HO := (([(0, 0), (0, 0), (0, 0), (0, 0), (0, 0), (0, 0), (0, 0), (0, 0), (1, 1), ((-9223372036854775808), 9223372036854775807)], [(3, (9, 0), (0, 14836))], [(((0, 0), 1851192626986356799832820811818326617396875588472066220482363392000000), .inr (1, (9, 0))), (((0, 480), 12), .inr (1, (9, 0))), (((0, 0), 1851192626986356799632114105031551009123054124018230966928539648000000), .inr (0, (8, 0))), (((0, 480), 11), .inr (0, (8, 0)))], 0, 0, 41, [(0, .inr (3, (0, 480)))], [.inr (3, (0, 480))]), [], [], [(0, 0), (0, 0), (0, 0), (0, 0), (0, 0), (0, 0), (0, 0), (0, 0)], 7)
noncomputable def rxoRNW_0_4 : bx_HO := (([(0, 0), (0, 0), (0, 0), (0, 0), (0, 0), (0, 0), (0, 0), (0, 0), (1, 1), (14836, 14836)], [], [(((0, 0), 1851192626986356799832820811818326617396875588472066220482363392000000), .inr (1, (9, 0))), (((0, 480), 12), .inr (1, (9, 0))), (((0, 0), 1851192626986356799632114105031551009123054124018230966928539648000000), .inr (0, (8, 0))), (((0, 480), 11), .inr (0, (8, 0)))], 0, 0, 14, [(0, .inr (3, (0, 480)))], [.inr (0, (0, 0)), .inr (0, (0, 28)), .inr (3, (0, 480))]), [], [], [(0, 0), (0, 0), (0, 0), (0, 0), (0, 0), (0, 0), (0, 0), (0, 0)], 1)
noncomputable def rxoRNW_2_0 : bx_HO := (([(0, 0), (0, 0), (0, 0), (0, 0), (0, 0), (0, 0), (0, 0), (0, 0)], [], [], 0, 0, 18, [(0, .inr (3, (0, 480)))], [.inr (3, (0, 480))]), [], [], [(0, 0), (0, 0), (0, 0), (0, 0), (0, 0), (0, 0), (0, 0), (0, 0)], 3)
noncomputable def rxeRNW_4_0 : rx_End × List (Nat × Int × Int) := (([(0, 0), (0, 0), (0, 0), (0, 0), (0, 0), (0, 0), (0, 0), (0, 0)], [], [], some (.inr (0, (0, 0)))), [])
noncomputable def rxeRNW_6_0 : rx_End × List (Nat × Int × Int) := (([(0, 0), (0, 0), (0, 0), (0, 0), (0, 0), (0, 0), (0, 0), (0, 0)], [], [], some (.inr (0, (0, 0)))), [])
noncomputable def rxeRNW_8_0 : rx_End × List (Nat × Int × Int) := (([(0, 0), (0, 0), (0, 0), (0, 0), (0, 0), (0, 0), (0, 0), (0, 0), (0, 3)], [], [], some (.inr (0, (8, 0)))), [])
noncomputable def rxYRNW : List bx_HE := [(rxzRNW_0, [rxoRNW_0_0, rxoRNW_0_1, rxoRNW_0_2, rxoRNW_0_3, rxoRNW_0_4], []), (rxzRNW_1, [], []), (rxzRNW_2, [rxoRNW_2_0], []), (rxzRNW_3, [], []), (rxzRNW_4, [], [rxeRNW_4_0]), (rxzRNW_5, [], []), (rxzRNW_6, [], [rxeRNW_6_0]), (rxzRNW_7, [], []), (rxzRNW_8, [], [rxeRNW_8_0])]
noncomputable def rxURNW (q : bx_HE) : Bool := Nat.beq (rx_zpc q.1) 14 || Nat.beq (rx_zpc q.1) 18 || Nat.beq (rx_zpc q.1) 35 || Nat.beq (rx_zpc q.1) 41
noncomputable def rxYBRNW : bx_B := (rxV, rxNP, rxDmf, bx_mdH rxCRNW.2.2.1)
set_option maxRecDepth 100000 in
theorem rxYcRNW : bx_chkH rxYBRNW rxM278 rxCRNW rxYRNW (rxURNW, fun cut z => rx_ex2 (rxCT rxYBRNW rxCnE) cut 30000 rxCRNW.2.2.2.1 278 z) = true := by decide +kernel
noncomputable def rxIRNW (S0 : Nat → Int → Int) (ws : List Int) (i : Nat) : bx_SP := fun S r => match i with | 0 => rxIRNW_0 S0 ws S | 1 => rxIRNW_1 S0 ws S | 2 => rxIRNW_2 S0 ws S | 3 => rxIRNW_3 S0 ws S | 4 => rxIRNW_4 S0 ws S | 5 => rxIRNW_5 S0 ws S | 6 => rxIRNW_6 S0 ws S | 7 => rxIRNW_7 S0 ws S | 8 => rxIRNW_8 S0 ws S (r 8) | _ => False
noncomputable def rxmRNW (S0 : Nat → Int → Int) (ws : List Int) (i : Nat) (S : Nat → Int → Int) (r : Nat → Int) : Nat := match i with | 0 => rxmRNW_0 S0 ws S | 1 => rxmRNW_1 S0 ws S | 2 => rxmRNW_2 S0 ws S | 3 => rxmRNW_3 S0 ws S | 4 => rxmRNW_4 S0 ws S | 5 => rxmRNW_5 S0 ws S | 6 => rxmRNW_6 S0 ws S | 7 => rxmRNW_7 S0 ws S | 8 => rxmRNW_8 S0 ws S (r 8) | _ => 0
noncomputable def rxPRNW (S0 : Nat → Int → Int) (ws : List Int) : Prop := rxPRN S0 ws
noncomputable def rxPSRNW (S0 : Nat → Int → Int) (ws : List Int) (S : Nat → Int → Int) (w : Option Int) : Prop := rxPSRN S0 ws S w ∧ (rzCk S0 → rzDq S0 → ∀ (tst : Int) (rest : List Int), rzSr S0 tst (1 :: rest) → rzTn S0 S tst (1 :: rest) false w)
theorem rxkRNW_1 {S0 : Nat → Int → Int} {ws : List Int} {S : Nat → Int → Int} (hP : rxPRNW S0 ws) (hin : bx_same rxL (bx_mdl rxCRNW.2.2.1) S0 S) (I0 : bx_Inv rxL S) (hinv : rxIRNW_1 S0 ws S)  : rxPPU S [480, 28, 0] ∧ ∀ (S_p : Nat → Int → Int), rxPSPU S [480, 28, 0] S_p none → bx_Inv rxL S_p → bx_same rxL (bx_mdl rxCPU.2.2.1) S S_p → rxIRNW_2 S0 ws S_p ∧ rxmRNW_2 S0 ws S_p < rxmRNW_1 S0 ws S := by
  obtain ⟨hI, hx⟩ := hinv
  have g_ := rxkRN_1 hP hin I0 hI
  exact ⟨g_.1, fun S_p hq I1 hsm => ⟨⟨(g_.2 S_p hq I1 hsm).1, (fun hD => hx (by exact hD))⟩, (g_.2 S_p hq I1 hsm).2⟩⟩
theorem rxsRNW_1 {X : (Nat → Int → Int) → Prop} {S0 : Nat → Int → Int} {ws : List Int} (hP : rxPRNW S0 ws) : rx_obK X S0 rxCRNW.2.2.1 rxCPU.2.2.1 (rxIRNW S0 ws) (rxmRNW S0 ws) 1 2 rxzRNW_1 rxzRNW_2 [.inr (3, (0, 480)), .inr (0, (0, 28)), .inr (0, (0, 0))] none rxPPU rxPSPU := by
  intro S r hinv hXS I0 hin hs_ hf_
  have b_ := bx_bds_sat hs_
  have f_ := bx_fcl_ok hs_.1 hf_
  have g := rxkRNW_1 hP hin I0 hinv 
  have ea : List.map (bx_num r) [.inr (3, (0, 480)), .inr (0, (0, 28)), .inr (0, (0, 0))] = [480, 28, 0] := by
    simp only [List.map_cons, List.map_nil, bx_xv_ok hs_.1]
    rfl
  rw [ea]
  refine ⟨g.1, fun S_p w r_p hPS hX_p I1 hsm hr hw hs_p => ?_⟩
  have hw : w = none := hPS.1
  subst hw
  have g2 := g.2 S_p hPS I1 hsm
  show rxIRNW_2 S0 ws S_p ∧ rxmRNW_2 S0 ws S_p < _
  exact g2
theorem rxkRNW_3 {S0 : Nat → Int → Int} {ws : List Int} {S : Nat → Int → Int} (hP : rxPRNW S0 ws) (hin : bx_same rxL (bx_mdl rxCRNW.2.2.1) S0 S) (I0 : bx_Inv rxL S) (hinv : rxIRNW_3 S0 ws S)  : rxPNXX S [480] ∧ ∀ (S_p : Nat → Int → Int), rxPSNXX S [480] S_p none → bx_Inv rxL S_p → bx_same rxL (bx_mdl rxCNXX.2.2.1) S S_p → rxIRNW_4 S0 ws S_p ∧ rxmRNW_4 S0 ws S_p < rxmRNW_3 S0 ws S := by
  obtain ⟨hI, hx⟩ := hinv
  have g_ := rxkRN_3 hP hin I0 hI
  exact ⟨g_.1, fun S_p hq I1 hsm => ⟨⟨(g_.2 S_p hq.2.1 I1 hsm).1, (fun c hD tst rest r => by
    have e := hI.1
    have pp := rzPl_pu (S := S0) (o := 28) (a := 0)
    have e : S = bx_up (bx_up (bx_up S0 489 (S0 480 24) 28) 490 (S0 480 24) 0) 480 24 (S0 480 24 + 1) := e
    rw [← e] at pp
    have k0 : rzKr S0 S := by
      rw [e]
      exact ⟨congrArg rzCut (funext fun _ => (bx_up_ne (by omega)).trans ((bx_up_ne (by omega)).trans ((bx_up_ne (by omega))))), (bx_up_ne (by omega)).trans ((bx_up_ne (by omega)).trans ((bx_up_ne (by omega)))), (bx_up_ne (by omega)).trans ((bx_up_ne (by omega)).trans ((bx_up_ne (by omega)))), (bx_up_ne (by omega)).trans ((bx_up_ne (by omega)).trans ((bx_up_ne (by omega)))), fun c => rzCk_c c (funext fun _ => (bx_up_ne (by omega)).trans ((bx_up_ne (by omega)).trans ((bx_up_ne (by omega))))) (funext fun _ => (bx_up_ne (by omega)).trans ((bx_up_ne (by omega)).trans ((bx_up_ne (by omega)))))⟩
    have t0 : rzTs S0 S := by
      rw [e]
      exact ⟨(bx_up_ne (by omega)).trans ((bx_up_ne (by omega)).trans ((bx_up_ne (by omega)))), (bx_up_ne (by omega)).trans ((bx_up_ne (by omega)).trans ((bx_up_ne (by omega)))), (bx_up_ne (by omega)).trans ((bx_up_ne (by omega)).trans ((bx_up_ne (by omega)))), (bx_up_ne (by omega)).trans ((bx_up_ne (by omega)).trans ((bx_up_ne (by omega))))⟩
    have h14 : S_p 480 14 = 0 := (hsm 480 14 (by decide) (by decide) (by decide +kernel)).trans (pp.2.2.trans hP.2.1)
    have p := pp.1.tr (rzPl_of hsm (rxBox24 I0).2 (by decide +kernel)) (by omega)
    refine rzTn_not hD (hx hD) r h14 (rzNw_b k0 t0 (rzNw_nx (rzDq_c hD k0 t0) (rzKr_of hsm (by decide +kernel)) hq.2.2.1 hq.2.2.2)) p ?_
    have b := rxBox24 I0
    have p1 := pp.1.1
    have p0 := r.2.2
    rw [rz_fd hsm (p := 489) (n := 400) (c := 1070) (k := 0) (by decide +kernel) (by decide) (by decide +kernel) _ p0 (by omega)]
    exact pp.2.1)⟩, (g_.2 S_p hq.2.1 I1 hsm).2⟩⟩
theorem rxsRNW_3 {X : (Nat → Int → Int) → Prop} {S0 : Nat → Int → Int} {ws : List Int} (hP : rxPRNW S0 ws) : rx_obK X S0 rxCRNW.2.2.1 rxCNXX.2.2.1 (rxIRNW S0 ws) (rxmRNW S0 ws) 3 4 rxzRNW_3 rxzRNW_4 [.inr (3, (0, 480))] none rxPNXX rxPSNXX := by
  intro S r hinv hXS I0 hin hs_ hf_
  have b_ := bx_bds_sat hs_
  have f_ := bx_fcl_ok hs_.1 hf_
  have g := rxkRNW_3 hP hin I0 hinv 
  have ea : List.map (bx_num r) [.inr (3, (0, 480))] = [480] := by
    simp only [List.map_cons, List.map_nil, bx_xv_ok hs_.1]
    rfl
  rw [ea]
  refine ⟨g.1, fun S_p w r_p hPS hX_p I1 hsm hr hw hs_p => ?_⟩
  have hw : w = none := hPS.1
  subst hw
  have g2 := g.2 S_p hPS I1 hsm
  show rxIRNW_4 S0 ws S_p ∧ rxmRNW_4 S0 ws S_p < _
  exact g2
theorem rxkRNW_5 {S0 : Nat → Int → Int} {ws : List Int} {S : Nat → Int → Int} (hP : rxPRNW S0 ws) (hin : bx_same rxL (bx_mdl rxCRNW.2.2.1) S0 S) (I0 : bx_Inv rxL S) (hinv : rxIRNW_5 S0 ws S)  : rxPOBW S [480, 31] ∧ ∀ (S_p : Nat → Int → Int), rxPSOBW S [480, 31] S_p none → bx_Inv rxL S_p → bx_same rxL (bx_mdl rxCOBW.2.2.1) S S_p → rxIRNW_6 S0 ws S_p ∧ rxmRNW_6 S0 ws S_p < rxmRNW_5 S0 ws S := by
  obtain ⟨hI, hx⟩ := hinv
  have g_ := rxkRN_5 hP hin I0 hI
  exact ⟨g_.1, fun S_p hq I1 hsm => ⟨⟨(g_.2 S_p hq.2.1 I1 hsm).1, (fun c hD tst rest r => by
    have e := hI.1
    subst e
    have g := hq.2.2 hD
    refine rzTn_ro hD (hx hD).1 (hx hD).2 r ⟨fun z => ?_, g.2⟩
    obtain ⟨a, b, p, op, hw, ho⟩ := g.1 z
    have he : (31 : Int) = op := Option.some.inj (congrArg (fun l : List Int => l[1]?) hw)
    exact ⟨a, b, p, by omega⟩)⟩, (g_.2 S_p hq.2.1 I1 hsm).2⟩⟩
theorem rxsRNW_5 {X : (Nat → Int → Int) → Prop} {S0 : Nat → Int → Int} {ws : List Int} (hP : rxPRNW S0 ws) : rx_obK X S0 rxCRNW.2.2.1 rxCOBW.2.2.1 (rxIRNW S0 ws) (rxmRNW S0 ws) 5 6 rxzRNW_5 rxzRNW_6 [.inr (3, (0, 480)), .inr (0, (0, 31))] none rxPOBW rxPSOBW := by
  intro S r hinv hXS I0 hin hs_ hf_
  have b_ := bx_bds_sat hs_
  have f_ := bx_fcl_ok hs_.1 hf_
  have g := rxkRNW_5 hP hin I0 hinv 
  have ea : List.map (bx_num r) [.inr (3, (0, 480)), .inr (0, (0, 31))] = [480, 31] := by
    simp only [List.map_cons, List.map_nil, bx_xv_ok hs_.1]
    rfl
  rw [ea]
  refine ⟨g.1, fun S_p w r_p hPS hX_p I1 hsm hr hw hs_p => ?_⟩
  have hw : w = none := hPS.1
  subst hw
  have g2 := g.2 S_p hPS I1 hsm
  show rxIRNW_6 S0 ws S_p ∧ rxmRNW_6 S0 ws S_p < _
  exact g2
theorem rxkRNW_7 {S0 : Nat → Int → Int} {ws : List Int} {S : Nat → Int → Int} (hP : rxPRNW S0 ws) (hin : bx_same rxL (bx_mdl rxCRNW.2.2.1) S0 S) (I0 : bx_Inv rxL S) (hinv : rxIRNW_7 S0 ws S)  : rxPRPW S [480] ∧ ∀ (S_p : Nat → Int → Int) (t : Int), 0 ≤ t → t ≤ 3 → rxPSRPW S [480] S_p (some t) → bx_Inv rxL S_p → bx_same rxL (bx_mdl rxCRPW.2.2.1) S S_p → rxIRNW_8 S0 ws S_p t ∧ rxmRNW_8 S0 ws S_p t < rxmRNW_7 S0 ws S := by
  obtain ⟨hI, hx⟩ := hinv
  have g_ := rxkRN_7 hP hin I0 hI
  exact ⟨g_.1, fun S_p t l_ u_ hq I1 hsm => ⟨⟨(g_.2 S_p t l_ u_ hq.1 I1 hsm).1, (fun c hD tst rest r => by
    have e : S = S0 := hI
    subst e
    refine hq.2 c hD tst 1 rest r (by decide) (fun g => ?_) fun g => ?_
    · rw [(hx hD).1] at g
      exact absurd g.2 (by decide)
    · rw [(hx hD).2] at g
      exact absurd g.2 (by decide))⟩, (g_.2 S_p t l_ u_ hq.1 I1 hsm).2⟩⟩
theorem rxsRNW_7 {X : (Nat → Int → Int) → Prop} {S0 : Nat → Int → Int} {ws : List Int} (hP : rxPRNW S0 ws) : rx_obK X S0 rxCRNW.2.2.1 rxCRPW.2.2.1 (rxIRNW S0 ws) (rxmRNW S0 ws) 7 8 rxzRNW_7 rxzRNW_8 [.inr (3, (0, 480))] (some 8) rxPRPW rxPSRPW := by
  intro S r hinv hXS I0 hin hs_ hf_
  have b_ := bx_bds_sat hs_
  have f_ := bx_fcl_ok hs_.1 hf_
  have g := rxkRNW_7 hP hin I0 hinv 
  have ea : List.map (bx_num r) [.inr (3, (0, 480))] = [480] := by
    simp only [List.map_cons, List.map_nil, bx_xv_ok hs_.1]
    rfl
  rw [ea]
  refine ⟨g.1, fun S_p w r_p hPS hX_p I1 hsm hr hw hs_p => ?_⟩
  have hw := hw _ rfl
  subst hw
  have b_p := hs_p.2.2 8 _ _ rfl
  have g2 := g.2 S_p (r_p 8) b_p.1 b_p.2 hPS I1 hsm
  show rxIRNW_8 S0 ws S_p (r_p 8) ∧ rxmRNW_8 S0 ws S_p (r_p 8) < _
  exact g2
theorem rxcRNW_0_0 {S0 : Nat → Int → Int} {ws : List Int} {S : Nat → Int → Int} {x8 : Int} (hP : rxPRNW S0 ws) (hin : bx_same rxL (bx_mdl rxCRNW.2.2.1) S0 S) (I0 : bx_Inv rxL S) (hinv : rxIRNW_0 S0 ws S) (l8 : 0 ≤ x8) (u8 : x8 ≤ 2) (f0 : x8 ≠ 3) (f1 : x8 ≠ 1) (e0 : S 480 11 = x8) : (True) ∧ (True) ∧ rxIRNW_7 S0 ws S ∧ rxmRNW_7 S0 ws S < rxmRNW_0 S0 ws S := by
  obtain ⟨hI, hx⟩ := hinv
  obtain ⟨a_, b_, c_, d_⟩ := rxcRN_0_0 hP hin I0 hI l8 u8 f0 f1 e0
  exact ⟨a_, b_, ⟨c_, (fun hD => by
    have e := hI.1
    subst e
    exact ⟨rzDq_no hD (w := rzW_not) (v := 14836) (by decide) (by decide) (by omega), rzDq_ns hD (by decide) (by decide) (by omega)⟩)⟩, d_⟩
theorem rxgRNW_0_0 {X : (Nat → Int → Int) → Prop} {S0 : Nat → Int → Int} {ws : List Int} (hP : rxPRNW S0 ws) : bx_obC rxL X S0 rxCRNW.2.2.1 (rxIRNW S0 ws) (rxmRNW S0 ws) 0 rxzRNW_0 rxoRNW_0_0 := by
  intro S S_p r r_p hinv hX hin hsm_ hseg
  obtain ⟨I0, I1, h0_, hr_, b_, f_, d_⟩ := bx_cl (evs := [(0, (0, 480), (0, 11), .inr (0, (8, 0)))]) (fvs := [(3, (8, 0), (0, 3), (0, 0)), (3, (8, 0), (0, 1), (0, 0))]) hseg (by decide +kernel) (by decide +kernel)
  have hinv : rxIRNW_0 S0 ws S := hinv
  obtain ⟨⟨l8, u8⟩, -⟩ := b_
  obtain ⟨f0, f1, -⟩ := f_
  obtain ⟨e0, w_⟩ := d_
  subst w_
  have g := rxcRNW_0_0 hP hin I0 hinv l8 u8 f0 f1 e0
  refine ⟨bx_narP_ok (l := []) g.1, bx_nfP_ok h0_ (fvs := []) (by decide +kernel) g.2.1, ?_, ?_⟩
  · show rxIRNW_7 S0 ws S_p
    exact g.2.2.1
  · show rxmRNW_7 S0 ws S_p < rxmRNW_0 S0 ws S_p
    exact g.2.2.2
theorem rxcRNW_0_1 {S0 : Nat → Int → Int} {ws : List Int} {S : Nat → Int → Int} {x8 x9 : Int} (hP : rxPRNW S0 ws) (hin : bx_same rxL (bx_mdl rxCRNW.2.2.1) S0 S) (I0 : bx_Inv rxL S) (hinv : rxIRNW_0 S0 ws S) (l8 : 3 ≤ x8) (u8 : x8 ≤ 3) (l9 : (-9223372036854775808) ≤ x9) (u9 : x9 ≤ 9223372036854775807) (f0 : x9 ≠ 40) (f1 : x8 ≠ 1) (e1 : S 480 11 = x8) (e0 : S 480 12 = x9) : (True) ∧ (True) ∧ rxIRNW_7 S0 ws S ∧ rxmRNW_7 S0 ws S < rxmRNW_0 S0 ws S := by
  obtain ⟨hI, hx⟩ := hinv
  obtain ⟨a_, b_, c_, d_⟩ := rxcRN_0_1 hP hin I0 hI l8 u8 l9 u9 f0 f1 e1 e0
  exact ⟨a_, b_, ⟨c_, (fun hD => by
    have e := hI.1
    subst e
    exact ⟨rzDq_no hD (w := rzW_not) (v := 14836) (by decide) (by decide) (by omega), rzDq_ns hD (by decide) (by decide) (by omega)⟩)⟩, d_⟩
theorem rxgRNW_0_1 {X : (Nat → Int → Int) → Prop} {S0 : Nat → Int → Int} {ws : List Int} (hP : rxPRNW S0 ws) : bx_obC rxL X S0 rxCRNW.2.2.1 (rxIRNW S0 ws) (rxmRNW S0 ws) 0 rxzRNW_0 rxoRNW_0_1 := by
  intro S S_p r r_p hinv hX hin hsm_ hseg
  obtain ⟨I0, I1, h0_, hr_, b_, f_, d_⟩ := bx_cl (evs := [(0, (0, 480), (0, 12), .inr (1, (9, 0))), (0, (0, 480), (0, 11), .inr (0, (8, 0)))]) (fvs := [(3, (9, 0), (0, 40), (0, 0)), (3, (8, 0), (0, 1), (0, 0))]) hseg (by decide +kernel) (by decide +kernel)
  have hinv : rxIRNW_0 S0 ws S := hinv
  obtain ⟨⟨l8, u8⟩, ⟨l9, u9⟩, -⟩ := b_
  obtain ⟨f0, f1, -⟩ := f_
  obtain ⟨e0, ⟨e1, w_⟩⟩ := d_
  subst w_
  have g := rxcRNW_0_1 hP hin I0 hinv l8 u8 l9 u9 f0 f1 e1 e0
  refine ⟨bx_narP_ok (l := []) g.1, bx_nfP_ok h0_ (fvs := []) (by decide +kernel) g.2.1, ?_, ?_⟩
  · show rxIRNW_7 S0 ws S_p
    exact g.2.2.1
  · show rxmRNW_7 S0 ws S_p < rxmRNW_0 S0 ws S_p
    exact g.2.2.2
theorem rxcRNW_0_2 {S0 : Nat → Int → Int} {ws : List Int} {S : Nat → Int → Int} {x8 x9 : Int} (hP : rxPRNW S0 ws) (hin : bx_same rxL (bx_mdl rxCRNW.2.2.1) S0 S) (I0 : bx_Inv rxL S) (hinv : rxIRNW_0 S0 ws S) (l8 : 3 ≤ x8) (u8 : x8 ≤ 3) (l9 : 40 ≤ x9) (u9 : x9 ≤ 40) (f0 : x8 ≠ 1) (e1 : S 480 11 = x8) (e0 : S 480 12 = x9) : (True) ∧ (True) ∧ rxIRNW_5 S0 ws S ∧ rxmRNW_5 S0 ws S < rxmRNW_0 S0 ws S := by
  obtain ⟨hI, hx⟩ := hinv
  obtain ⟨a_, b_, c_, d_⟩ := rxcRN_0_2 hP hin I0 hI l8 u8 l9 u9 f0 e1 e0
  exact ⟨a_, b_, ⟨c_, (fun hD => by
    have e := hI.1
    subst e
    exact ⟨rzDq_no hD (w := rzW_not) (v := 14836) (by decide) (by decide) (by omega), (rzDq_sg hD (by decide) (by decide)).mp ⟨by omega, by omega⟩⟩)⟩, d_⟩
theorem rxgRNW_0_2 {X : (Nat → Int → Int) → Prop} {S0 : Nat → Int → Int} {ws : List Int} (hP : rxPRNW S0 ws) : bx_obC rxL X S0 rxCRNW.2.2.1 (rxIRNW S0 ws) (rxmRNW S0 ws) 0 rxzRNW_0 rxoRNW_0_2 := by
  intro S S_p r r_p hinv hX hin hsm_ hseg
  obtain ⟨I0, I1, h0_, hr_, b_, f_, d_⟩ := bx_cl (evs := [(0, (0, 480), (0, 12), .inr (1, (9, 0))), (0, (0, 480), (0, 11), .inr (0, (8, 0)))]) (fvs := [(3, (8, 0), (0, 1), (0, 0))]) hseg (by decide +kernel) (by decide +kernel)
  have hinv : rxIRNW_0 S0 ws S := hinv
  obtain ⟨⟨l8, u8⟩, ⟨l9, u9⟩, -⟩ := b_
  obtain ⟨f0, -⟩ := f_
  obtain ⟨e0, ⟨e1, w_⟩⟩ := d_
  subst w_
  have g := rxcRNW_0_2 hP hin I0 hinv l8 u8 l9 u9 f0 e1 e0
  refine ⟨bx_narP_ok (l := []) g.1, bx_nfP_ok h0_ (fvs := []) (by decide +kernel) g.2.1, ?_, ?_⟩
  · show rxIRNW_5 S0 ws S_p
    exact g.2.2.1
  · show rxmRNW_5 S0 ws S_p < rxmRNW_0 S0 ws S_p
    exact g.2.2.2
theorem rxcRNW_0_3 {S0 : Nat → Int → Int} {ws : List Int} {S : Nat → Int → Int} {x8 x9 : Int} (hP : rxPRNW S0 ws) (hin : bx_same rxL (bx_mdl rxCRNW.2.2.1) S0 S) (I0 : bx_Inv rxL S) (hinv : rxIRNW_0 S0 ws S) (l8 : 1 ≤ x8) (u8 : x8 ≤ 1) (l9 : (-9223372036854775808) ≤ x9) (u9 : x9 ≤ 9223372036854775807) (f0 : x9 ≠ 14836) (e1 : S 480 11 = x8) (e0 : S 480 12 = x9) : (True) ∧ (True) ∧ rxIRNW_7 S0 ws S ∧ rxmRNW_7 S0 ws S < rxmRNW_0 S0 ws S := by
  obtain ⟨hI, hx⟩ := hinv
  obtain ⟨a_, b_, c_, d_⟩ := rxcRN_0_3 hP hin I0 hI l8 u8 l9 u9 f0 e1 e0
  exact ⟨a_, b_, ⟨c_, (fun hD => by
    have e := hI.1
    subst e
    exact ⟨rzDq_no hD (w := rzW_not) (v := 14836) (by decide) (by decide) (by omega), rzDq_ns hD (by decide) (by decide) (by omega)⟩)⟩, d_⟩
theorem rxgRNW_0_3 {X : (Nat → Int → Int) → Prop} {S0 : Nat → Int → Int} {ws : List Int} (hP : rxPRNW S0 ws) : bx_obC rxL X S0 rxCRNW.2.2.1 (rxIRNW S0 ws) (rxmRNW S0 ws) 0 rxzRNW_0 rxoRNW_0_3 := by
  intro S S_p r r_p hinv hX hin hsm_ hseg
  obtain ⟨I0, I1, h0_, hr_, b_, f_, d_⟩ := bx_cl (evs := [(0, (0, 480), (0, 12), .inr (1, (9, 0))), (0, (0, 480), (0, 11), .inr (0, (8, 0)))]) (fvs := [(3, (9, 0), (0, 14836), (0, 0))]) hseg (by decide +kernel) (by decide +kernel)
  have hinv : rxIRNW_0 S0 ws S := hinv
  obtain ⟨⟨l8, u8⟩, ⟨l9, u9⟩, -⟩ := b_
  obtain ⟨f0, -⟩ := f_
  obtain ⟨e0, ⟨e1, w_⟩⟩ := d_
  subst w_
  have g := rxcRNW_0_3 hP hin I0 hinv l8 u8 l9 u9 f0 e1 e0
  refine ⟨bx_narP_ok (l := []) g.1, bx_nfP_ok h0_ (fvs := []) (by decide +kernel) g.2.1, ?_, ?_⟩
  · show rxIRNW_7 S0 ws S_p
    exact g.2.2.1
  · show rxmRNW_7 S0 ws S_p < rxmRNW_0 S0 ws S_p
    exact g.2.2.2
theorem rxcRNW_0_4 {S0 : Nat → Int → Int} {ws : List Int} {S : Nat → Int → Int} {x8 x9 : Int} (hP : rxPRNW S0 ws) (hin : bx_same rxL (bx_mdl rxCRNW.2.2.1) S0 S) (I0 : bx_Inv rxL S) (hinv : rxIRNW_0 S0 ws S) (l8 : 1 ≤ x8) (u8 : x8 ≤ 1) (l9 : 14836 ≤ x9) (u9 : x9 ≤ 14836) (e1 : S 480 11 = x8) (e0 : S 480 12 = x9) : (True) ∧ (True) ∧ rxIRNW_1 S0 ws S ∧ rxmRNW_1 S0 ws S < rxmRNW_0 S0 ws S := by
  obtain ⟨hI, hx⟩ := hinv
  obtain ⟨a_, b_, c_, d_⟩ := rxcRN_0_4 hP hin I0 hI l8 u8 l9 u9 e1 e0
  exact ⟨a_, b_, ⟨c_, (fun hD => by
    have e := hI.1
    subst e
    exact (rzDq_is hD (w := rzW_not) (v := 14836) (by decide) (by decide)).mp ⟨by omega, by omega⟩)⟩, d_⟩
theorem rxgRNW_0_4 {X : (Nat → Int → Int) → Prop} {S0 : Nat → Int → Int} {ws : List Int} (hP : rxPRNW S0 ws) : bx_obC rxL X S0 rxCRNW.2.2.1 (rxIRNW S0 ws) (rxmRNW S0 ws) 0 rxzRNW_0 rxoRNW_0_4 := by
  intro S S_p r r_p hinv hX hin hsm_ hseg
  obtain ⟨I0, I1, h0_, hr_, b_, f_, d_⟩ := bx_cl (evs := [(0, (0, 480), (0, 12), .inr (1, (9, 0))), (0, (0, 480), (0, 11), .inr (0, (8, 0)))]) (fvs := []) hseg (by decide +kernel) (by decide +kernel)
  have hinv : rxIRNW_0 S0 ws S := hinv
  obtain ⟨⟨l8, u8⟩, ⟨l9, u9⟩, -⟩ := b_
  obtain ⟨e0, ⟨e1, w_⟩⟩ := d_
  subst w_
  have g := rxcRNW_0_4 hP hin I0 hinv l8 u8 l9 u9 e1 e0
  refine ⟨bx_narP_ok (l := []) g.1, bx_nfP_ok h0_ (fvs := []) (by decide +kernel) g.2.1, ?_, ?_⟩
  · show rxIRNW_1 S0 ws S_p
    exact g.2.2.1
  · show rxmRNW_1 S0 ws S_p < rxmRNW_0 S0 ws S_p
    exact g.2.2.2
theorem rxcRNW_2_0 {S0 : Nat → Int → Int} {ws : List Int} {S : Nat → Int → Int} (hP : rxPRNW S0 ws) (hin : bx_same rxL (bx_mdl rxCRNW.2.2.1) S0 S) (I0 : bx_Inv rxL S) (hinv : rxIRNW_2 S0 ws S)  : (True) ∧ (True) ∧ rxIRNW_3 S0 ws S ∧ rxmRNW_3 S0 ws S < rxmRNW_2 S0 ws S := by
  obtain ⟨hI, hx⟩ := hinv
  obtain ⟨a_, b_, c_, d_⟩ := rxcRN_2_0 hP hin I0 hI
  exact ⟨a_, b_, ⟨c_, hx⟩, d_⟩
theorem rxgRNW_2_0 {X : (Nat → Int → Int) → Prop} {S0 : Nat → Int → Int} {ws : List Int} (hP : rxPRNW S0 ws) : bx_obC rxL X S0 rxCRNW.2.2.1 (rxIRNW S0 ws) (rxmRNW S0 ws) 2 rxzRNW_2 rxoRNW_2_0 := by
  intro S S_p r r_p hinv hX hin hsm_ hseg
  obtain ⟨I0, I1, h0_, hr_, b_, f_, d_⟩ := bx_cl (evs := []) (fvs := []) hseg (by decide +kernel) (by decide +kernel)
  have hinv : rxIRNW_2 S0 ws S := hinv
  have w_ := d_
  subst w_
  have g := rxcRNW_2_0 hP hin I0 hinv 
  refine ⟨bx_narP_ok (l := []) g.1, bx_nfP_ok h0_ (fvs := []) (by decide +kernel) g.2.1, ?_, ?_⟩
  · show rxIRNW_3 S0 ws S_p
    exact g.2.2.1
  · show rxmRNW_3 S0 ws S_p < rxmRNW_2 S0 ws S_p
    exact g.2.2.2
theorem rxdRNW_4_0 {S0 : Nat → Int → Int} {ws : List Int} {S : Nat → Int → Int} (hP : rxPRNW S0 ws) (hin : bx_same rxL (bx_mdl rxCRNW.2.2.1) S0 S) (hin2 : bx_same rxL (bx_mdl rxCRNW.2.2.1) S S) (I0 : bx_Inv rxL S) (I1 : bx_Inv rxL S) (hinv : rxIRNW_4 S0 ws S)  : (True) ∧ rxPSRNW S0 ws S (some 0) := by
  obtain ⟨hI, hx⟩ := hinv
  obtain ⟨a_, c_⟩ := rxdRN_4_0 hP hin hin2 I0 I1 hI
  exact ⟨a_, c_, hx⟩
theorem rxfRNW_4_0 {X : (Nat → Int → Int) → Prop} {S0 : Nat → Int → Int} {ws : List Int} (hP : rxPRNW S0 ws) : bx_obE rxL X S0 rxCRNW.2.2.1 (rxIRNW S0 ws) (rxPSRNW S0 ws) 4 rxzRNW_4 rxeRNW_4_0 := by
  intro S S_p r r_p hinv hX hin hsm_ hseg
  obtain ⟨I0, I1, h0_, hr_, b_, f_, d_⟩ := bx_cl (evs := []) (fvs := []) hseg (by decide +kernel) (by decide +kernel)
  have hinv : rxIRNW_4 S0 ws S := hinv
  have w_ := d_
  subst w_
  have g := rxdRNW_4_0 hP hin hsm_ I0 I1 hinv 
  refine ⟨bx_narP_ok (l := []) g.1, ?_⟩
  show rxPSRNW S0 ws S_p (some (bx_num r_p (.inr (0, (0, 0)))))
  rw [bx_xv_ok h0_]
  exact g.2
theorem rxdRNW_6_0 {S0 : Nat → Int → Int} {ws : List Int} {S : Nat → Int → Int} (hP : rxPRNW S0 ws) (hin : bx_same rxL (bx_mdl rxCRNW.2.2.1) S0 S) (hin2 : bx_same rxL (bx_mdl rxCRNW.2.2.1) S S) (I0 : bx_Inv rxL S) (I1 : bx_Inv rxL S) (hinv : rxIRNW_6 S0 ws S)  : (True) ∧ rxPSRNW S0 ws S (some 0) := by
  obtain ⟨hI, hx⟩ := hinv
  obtain ⟨a_, c_⟩ := rxdRN_6_0 hP hin hin2 I0 I1 hI
  exact ⟨a_, c_, hx⟩
theorem rxfRNW_6_0 {X : (Nat → Int → Int) → Prop} {S0 : Nat → Int → Int} {ws : List Int} (hP : rxPRNW S0 ws) : bx_obE rxL X S0 rxCRNW.2.2.1 (rxIRNW S0 ws) (rxPSRNW S0 ws) 6 rxzRNW_6 rxeRNW_6_0 := by
  intro S S_p r r_p hinv hX hin hsm_ hseg
  obtain ⟨I0, I1, h0_, hr_, b_, f_, d_⟩ := bx_cl (evs := []) (fvs := []) hseg (by decide +kernel) (by decide +kernel)
  have hinv : rxIRNW_6 S0 ws S := hinv
  have w_ := d_
  subst w_
  have g := rxdRNW_6_0 hP hin hsm_ I0 I1 hinv 
  refine ⟨bx_narP_ok (l := []) g.1, ?_⟩
  show rxPSRNW S0 ws S_p (some (bx_num r_p (.inr (0, (0, 0)))))
  rw [bx_xv_ok h0_]
  exact g.2
theorem rxdRNW_8_0 {S0 : Nat → Int → Int} {ws : List Int} {S : Nat → Int → Int} {t : Int} (hP : rxPRNW S0 ws) (hin : bx_same rxL (bx_mdl rxCRNW.2.2.1) S0 S) (hin2 : bx_same rxL (bx_mdl rxCRNW.2.2.1) S S) (I0 : bx_Inv rxL S) (I1 : bx_Inv rxL S) (hinv : rxIRNW_8 S0 ws S t) (l8 : 0 ≤ t) (u8 : t ≤ 3) : (True) ∧ rxPSRNW S0 ws S (some t) := by
  obtain ⟨hI, hx⟩ := hinv
  obtain ⟨a_, c_⟩ := rxdRN_8_0 hP hin hin2 I0 I1 hI l8 u8
  exact ⟨a_, c_, hx⟩
theorem rxfRNW_8_0 {X : (Nat → Int → Int) → Prop} {S0 : Nat → Int → Int} {ws : List Int} (hP : rxPRNW S0 ws) : bx_obE rxL X S0 rxCRNW.2.2.1 (rxIRNW S0 ws) (rxPSRNW S0 ws) 8 rxzRNW_8 rxeRNW_8_0 := by
  intro S S_p r r_p hinv hX hin hsm_ hseg
  obtain ⟨I0, I1, h0_, hr_, b_, f_, d_⟩ := bx_cl (evs := []) (fvs := []) hseg (by decide +kernel) (by decide +kernel)
  have hinv : rxIRNW_8 S0 ws S (r 8) := hinv
  rw [← hr_ 8 (by decide)] at hinv
  obtain ⟨⟨l8, u8⟩, -⟩ := b_
  have w_ := d_
  subst w_
  have g := rxdRNW_8_0 hP hin hsm_ I0 I1 hinv l8 u8
  refine ⟨bx_narP_ok (l := []) g.1, ?_⟩
  show rxPSRNW S0 ws S_p (some (bx_num r_p (.inr (0, (8, 0)))))
  rw [bx_xv_ok h0_]
  exact g.2
theorem rxgCRNW {X : (Nat → Int → Int) → Prop} {S0 : Nat → Int → Int} {ws : List Int} (hP : rxPRNW S0 ws) : bx_allI (fun i q => rxURNW q = true ∨ bx_allP (fun o => bx_obC rxL X S0 rxCRNW.2.2.1 (rxIRNW S0 ws) (rxmRNW S0 ws) i q.1 o) q.2.1) 0 rxYRNW := ⟨Or.inr ⟨rxgRNW_0_0 hP, rxgRNW_0_1 hP, rxgRNW_0_2 hP, rxgRNW_0_3 hP, rxgRNW_0_4 hP, trivial⟩, Or.inl rfl, Or.inr ⟨rxgRNW_2_0 hP, trivial⟩, Or.inl rfl, Or.inr trivial, Or.inl rfl, Or.inr trivial, Or.inl rfl, Or.inr trivial, trivial⟩
theorem rxgERNW {X : (Nat → Int → Int) → Prop} {S0 : Nat → Int → Int} {ws : List Int} (hP : rxPRNW S0 ws) : bx_allI (fun i q => rxURNW q = true ∨ bx_allP (fun E => bx_obE rxL X S0 rxCRNW.2.2.1 (rxIRNW S0 ws) (rxPSRNW S0 ws) i q.1 E) q.2.2) 0 rxYRNW := ⟨Or.inr trivial, Or.inl rfl, Or.inr trivial, Or.inl rfl, Or.inr ⟨rxfRNW_4_0 hP, trivial⟩, Or.inl rfl, Or.inr ⟨rxfRNW_6_0 hP, trivial⟩, Or.inl rfl, Or.inr ⟨rxfRNW_8_0 hP, trivial⟩, trivial⟩
theorem rxuRNW {PX : State → Prop} {Dg : va_G} {A : Nat → Prop} {ad xa : Nat → Nat} {l : Launch} {X : (Nat → Int → Int) → Prop} (hPX : rx_PXOK rxNW A PX) (hX : ∀ S S1 : Nat → Int → Int, X S → bx_same rxL (bx_mdl rxCRNW.2.2.1) S S1 → X S1) (hQPU : bx_ConP rxG rxNW rxAO PX Dg rxL X vwCl A ad l rxM268 rxCPU rxPPU rxPSPU) (hQNXX : bx_ConP rxG rxNW rxAO PX Dg rxL X vwCl A ad l rxM264 rxCNXX rxPNXX rxPSNXX) (hQOBW : bx_ConP rxG rxNW rxAO PX Dg rxL X vwCl A ad l rxM270 rxCOBW rxPOBW rxPSOBW) (hQRPW : bx_ConP rxG rxNW rxAO PX Dg rxL X vwCl A ad l rxM274 rxCRPW rxPRPW rxPSRPW) {S0 : Nat → Int → Int} {ws : List Int} (hP : rxPRNW S0 ws) : ∀ (i : Nat) (q : bx_HE), rxYRNW[i]? = some q → rxURNW q = true → ∀ {p : Program} {e : Env} {R : Room} {s : State} {m : MethodId} {args : Array Value} {below : List Frame} {meth : Method} {c : Code} {Q : State → Prop} {H0 : Heap}, rx_Fr rxG rxNW rxAO PX p s m args meth c rxM278 → (∀ q, H0.size ≤ q → A q) → H0 = s.heap → rxM278.2.2.2.2.2.2.1 ≤ R.cells → rxM278.2.2.2.2.2.2.2 ≤ R.slots → rxCRNW.2.2.2.1 ≤ R.frames → rxCRNW.2.2.2.1 * 40 ≤ R.locals → bx_Step p l e R s m args below meth c Q Dg rxL X vwCl A xa H0 ad rxM278 rxYRNW (rxIRNW S0 ws) (rxmRNW S0 ws) S0 rxCRNW.2.2.1 i q := by
  intro i q hq hus p e R s m args below meth c Q H0 hF hA hH0 hmc hms hd hdl
  match i, hq with
  | 0, hq =>
    cases hq
    exact absurd (show false = true from hus) Bool.false_ne_true
  | 1, hq =>
    cases hq
    exact rx_stepC (ins := .invokevirtual 314) (len := 3) (i_p := 2) (M_p := rxM268) (d := rxCRNW.2.2.2.1) (as := [.inr (3, (0, 480)), .inr (0, (0, 28)), .inr (0, (0, 0))]) (t := []) (ct := rxCPU) hPX hF rfl hA hH0 hmc hms hd hdl (by decide +kernel) rfl rfl (by decide +kernel) (by decide +kernel) hQPU (by decide +kernel) rfl (Or.inl ⟨rfl, rfl, rfl⟩) (rxsRNW_1 hP)
  | 2, hq =>
    cases hq
    exact absurd (show false = true from hus) Bool.false_ne_true
  | 3, hq =>
    cases hq
    exact rx_stepC (ins := .invokevirtual 253) (len := 3) (i_p := 4) (M_p := rxM264) (d := rxCRNW.2.2.2.1) (as := [.inr (3, (0, 480))]) (t := []) (ct := rxCNXX) hPX hF rfl hA hH0 hmc hms hd hdl (by decide +kernel) rfl rfl (by decide +kernel) (by decide +kernel) hQNXX (by decide +kernel) rfl (Or.inl ⟨rfl, rfl, rfl⟩) (rxsRNW_3 hP)
  | 4, hq =>
    cases hq
    exact absurd (show false = true from hus) Bool.false_ne_true
  | 5, hq =>
    cases hq
    exact rx_stepC (ins := .invokevirtual 323) (len := 3) (i_p := 6) (M_p := rxM270) (d := rxCRNW.2.2.2.1) (as := [.inr (3, (0, 480)), .inr (0, (0, 31))]) (t := []) (ct := rxCOBW) hPX hF rfl hA hH0 hmc hms hd hdl (by decide +kernel) rfl rfl (by decide +kernel) (by decide +kernel) hQOBW (by decide +kernel) rfl (Or.inl ⟨rfl, rfl, rfl⟩) (rxsRNW_5 hP)
  | 6, hq =>
    cases hq
    exact absurd (show false = true from hus) Bool.false_ne_true
  | 7, hq =>
    cases hq
    exact rx_stepC (ins := .invokevirtual 344) (len := 3) (i_p := 8) (M_p := rxM274) (d := rxCRNW.2.2.2.1) (as := [.inr (3, (0, 480))]) (t := []) (ct := rxCRPW) hPX hF rfl hA hH0 hmc hms hd hdl (by decide +kernel) rfl rfl (by decide +kernel) (by decide +kernel) hQRPW (by decide +kernel) rfl (Or.inr ⟨_, _, _, 1, rfl, rfl, by omega, rfl, rfl, rfl⟩) (rxsRNW_7 hP)
  | 8, hq =>
    cases hq
    exact absurd (show false = true from hus) Bool.false_ne_true
  | n + 9, hq => cases hq
theorem rxQRNW {PX : State → Prop} {Dg : va_G} {A : Nat → Prop} {ad xa : Nat → Nat} {l : Launch} {X : (Nat → Int → Int) → Prop} (hPX : rx_PXOK rxNW A PX) (hsl : ∀ s : State, PX s → ∀ o idx n : Nat, rxSl o idx = some n → ∃ tx : String, vk_R (rxNm o) idx tx (ad n) s)
    (hX : ∀ S S_p : Nat → Int → Int, X S → bx_same rxL (bx_mdl rxCRNW.2.2.1) S S_p → X S_p)
    (ih : ∀ (j2 : Nat) (ct2 : bx_Ct) (M2 : rx_Mt), ct2 ∈ rxCnE j2 → ct2.2.2.2.1 + 1 ≤ rxCRNW.2.2.2.1 → rxT.2.2.2.2.2 j2 = some M2 → bx_Con rxG rxNW rxAO PX Dg rxL X vwCl A ad l M2 ct2) (hQPU : bx_ConP rxG rxNW rxAO PX Dg rxL X vwCl A ad l rxM268 rxCPU rxPPU rxPSPU) (hQNXX : bx_ConP rxG rxNW rxAO PX Dg rxL X vwCl A ad l rxM264 rxCNXX rxPNXX rxPSNXX) (hQOBW : bx_ConP rxG rxNW rxAO PX Dg rxL X vwCl A ad l rxM270 rxCOBW rxPOBW rxPSOBW) (hQRPW : bx_ConP rxG rxNW rxAO PX Dg rxL X vwCl A ad l rxM274 rxCRPW rxPRPW rxPSRPW) : bx_ConP rxG rxNW rxAO PX Dg rxL X vwCl A ad l rxM278 rxCRNW rxPRNW rxPSRNW :=
  rxQof (xa := xa) (Cn := rxCnE) (f := 30000) (j := 278) (tab := rxYRNW) (us := rxURNW) hPX hsl hX ih rfl rxYcRNW rxIRNW rxmRNW
    (fun S0 ws r I0 I ht0 ht as he he1 hX0 hI0 hP hs ha => by
      have e := he.symm.trans (show bx_ent0 rxNP rxCRNW.1 bx_I0 [] = some ([(0, 0), (0, 0), (0, 0), (0, 0), (0, 0), (0, 0), (0, 0), (0, 0)], [], [.inr (3, (0, 480))]) from rfl)
      cases e
      subst ha
      have h0 : r 0 = 0 := hs.1
      show rxIRNW_0 S0 _ S0
      refine ⟨⟨rfl, ?_⟩, trivial⟩
      simp only [List.map_cons, List.map_nil, bx_xv_ok h0]
      rfl)
    (fun S0 ws hP => rxuRNW (xa := xa) hPX hX hQPU hQNXX hQOBW hQRPW hP) (fun S0 ws hP => rxgCRNW hP) (fun S0 ws hP => rxgERNW hP)
