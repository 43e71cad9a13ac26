section
noncomputable def bx_opvU (_ : Nat) (a _ : Int) : Int := (Int32.ofInt a).toInt
noncomputable def bx_opcU (_ : Nat) (_ _ : Int) : Prop := True
section RXOP
variable {PX : State → Prop} {Dg : va_G} {A : Nat → Prop} {ad xa : Nat → Nat} {l : Launch} {X : (Nat → Int → Int) → Prop}
variable {p : Program} {e : Env} {R : Room} {s : State} {m : MethodId} {args : Array Value} {below : List Frame} {meth : Method} {c : Code} {Q : State → Prop} {H0 : Heap}
noncomputable def rx_obBU (X : (Nat → Int → Int) → Prop) (Sin : Nat → Int → Int) (ms : List (Nat × Nat)) (inv : Nat → bx_SP) (mea : Nat → (Nat → Int → Int) → (Nat → Int) → Nat) (i i_p : Nat) (z : rx_Z) (o : Nat) (a b : rx_E) (lo hi : Int) : Prop :=
  ∀ (S : Nat → Int → Int) (r : Nat → Int), inv i S r → X S → bx_Inv rxL S → bx_same rxL (bx_mdl ms) Sin S → rx_sat z.1 r → rx_facts z.2.1 r →
    bx_opcU o (rx_ev r a) (rx_ev r b) ∧ ∀ r_p : Nat → Int, rx_same z.1.length r r_p → r_p 0 = 0 → r_p z.1.length = bx_opvU o (rx_ev r a) (rx_ev r b) → (lo ≤ r_p z.1.length ∧ r_p z.1.length ≤ hi) ∧ inv i_p S r_p ∧ mea i_p S r_p < mea i S r
theorem rx_stepBU {M : rx_Mt} {tab : List bx_HE} {inv : Nat → bx_SP} {mea : Nat → (Nat → Int → Int) → (Nat → Int) → Nat} {Sin : Nat → Int → Int} {ms : List (Nat × Nat)} {i i_p o : Nat} {ins : Instr} {z : rx_Z} {os : List bx_HO} {es : List (rx_End × List (Nat × Int × Int))} {q_p : bx_HE} {a b : rx_E} {lo hi : Int} {t : List rx_V}
    (hF : rx_Fr rxG rxNW rxAO PX p s m args meth c M) (ho : o = 45 ∧ ins = .l2i) (hdg : decode M.2.1 (rx_zpc z) = .ok (ins, 1)) (hne : bx_noE z.2.2.1 = true) (hst : rx_zst z = .inr (1, a) :: t)
    (htab : tab[i_p]? = some q_p) (hq_p : rx_nxI (z.1 ++ [(lo, hi)]) z 1 (.inr (0, (z.1.length, 0)) :: t) = q_p.1) (hob : rx_obBU X Sin ms inv mea i i_p z o a b lo hi) :
    bx_Step p l e R s m args below meth c Q Dg rxL X vwCl A xa H0 ad M tab inv mea Sin ms i (z, os, es) := by
  intro S r H locs ls hinv hXS hsin hR K
  obtain ⟨Sq, ⟨ws0, tys0, hInv0, hrest0⟩, -, ⟨-, hch0⟩, -⟩ := id hR.2.2.2.1
  have eSq : Sq = S := bx_noE_eq hne (hch0 rfl)
  rw [eSq] at hInv0
  have hInv0 : bx_Inv rxL S := hInv0
  obtain ⟨o1, o2⟩ := hob S r hinv hXS hInv0 hsin hR.1 hR.2.1
  obtain ⟨b1, b2, b3⟩ := o2 (rx_up r z.1.length (Int32.ofInt (rx_ev r a)).toInt) rx_up_same ((rx_up_same 0 (rx_pos hR.1)).trans hR.1.1) rx_up_self
  rw [rx_up_self] at b1
  have hsat := rx_sat_up (lo := lo) (hi := hi) hR.1 b1.1 b1.2
  have hsc := rx_stsc hR
  rw [hst] at hsc
  have ht2 : ∀ v ∈ t, rx_sc z.1.length z.2.2.1.length v := fun v hv => hsc v (List.mem_cons_of_mem _ hv)
  have hlen : z.1.length ≤ (z.1 ++ [(lo, hi)]).length := by simp
  have hN := rx_R_nxI (d := 1) (st := .inr (0, (z.1.length, 0)) :: t) hR hlen rx_up_same hsat (fun v hv => by
    rcases List.mem_cons.mp hv with h | h
    · subst h
      show z.1.length < (z.1 ++ [(lo, hi)]).length
      simp
    · exact rx_sc.mono (ht2 v h) hlen trivial)
  rw [hq_p] at hN
  have k := K i_p q_p S _ H locs ls htab b2 b3 hXS hsin hN
  rw [← hq_p] at k
  have ev : rx_iv (rx_up r z.1.length (Int32.ofInt (rx_ev r a)).toInt) ad xa (.inr (0, (z.1.length, 0))) = Value.int (Int32.ofInt (rx_ev r a)) := by
    show Value.int (Int32.ofInt (rx_ev _ (z.1.length, 0))) = _
    unfold rx_ev
    rw [rx_up_self, Int.add_zero, Int32.ofInt_toInt]
  have et := rx_st_ext (ad := ad) (ad_p := ad) (xa := xa) ht2 (rx_up_same (r := r) (n := z.1.length) (z := (Int32.ofInt (rx_ev r a)).toInt)) rx_sameA.rf
  have row : W p l e R s m args below meth c H locs z.2.2.2.1 z.2.2.2.2.1 Q (F0 m (rx_zpc z + 1) ls (.int (Int32.ofInt (rx_ev r a)) :: t.map (rx_iv r ad xa))) → W p l e R s m args below meth c H locs z.2.2.2.1 z.2.2.2.2.1 Q (F0 m (rx_zpc z) ls (.long (Int64.ofInt (rx_ev r a)) :: t.map (rx_iv r ad xa))) := fun k => by
    obtain ⟨h1, h2⟩ := ho
    subst h1
    subst h2
    exact lv_l2i hF.1 hF.2.1 hdg Int64.toInt32_ofInt k
  rw [hst]
  refine row ?_
  rw [← ev, ← et]
  obtain ⟨zI, zF, zh, zc, zs, zp, zl, zt⟩ := z
  exact k
end RXOP
end
section
noncomputable def bx_opvD (_ : Nat) (a b : Int) : Int := a / b
noncomputable def bx_opcD (_ : Nat) (a b : Int) : Prop := (0 ≤ a ∧ a ≤ 2147483647) ∧ 0 < b ∧ b ≤ 2147483647
theorem bx_opvD_ok {o : Nat} {a b : Int} (_ho : o = 36) (h : bx_opcD o a b) : (rx_op 3 (Int32.ofInt a) (Int32.ofInt b)).toInt = bx_opvD o a b := by
  obtain ⟨ha, hb⟩ := h
  have ea := bx_toI (a := a) (by omega)
  have eb := bx_toI (a := b) (by omega)
  show (Int32.ofInt a / Int32.ofInt b).toInt = a / b
  rw [Int32.toInt_div, ea, eb, Int.tdiv_eq_ediv_of_nonneg ha.1]
  have h1 := Int.ediv_nonneg ha.1 (Int.le_of_lt hb.1)
  have h2 := Int.ediv_le_self b ha.1
  exact rx_bmod0 (by omega) (by omega)
section RXOP
variable {PX : State → Prop} {Dg : va_G} {A : Nat → Prop} {ad xa : Nat → Nat} {l : Launch} {X : (Nat → Int → Int) → Prop}
variable {p : Program} {e : Env} {R : Room} {s : State} {m : MethodId} {args : Array Value} {below : List Frame} {meth : Method} {c : Code} {Q : State → Prop} {H0 : Heap}
noncomputable def rx_obBD (X : (Nat → Int → Int) → Prop) (Sin : Nat → Int → Int) (ms : List (Nat × Nat)) (inv : Nat → bx_SP) (mea : Nat → (Nat → Int → Int) → (Nat → Int) → Nat) (i i_p : Nat) (z : rx_Z) (o : Nat) (a b : rx_E) (lo hi : Int) : Prop :=
  ∀ (S : Nat → Int → Int) (r : Nat → Int), inv i S r → X S → bx_Inv rxL S → bx_same rxL (bx_mdl ms) Sin S → rx_sat z.1 r → rx_facts z.2.1 r →
    bx_opcD o (rx_ev r a) (rx_ev r b) ∧ ∀ r_p : Nat → Int, rx_same z.1.length r r_p → r_p 0 = 0 → r_p z.1.length = bx_opvD o (rx_ev r a) (rx_ev r b) → (lo ≤ r_p z.1.length ∧ r_p z.1.length ≤ hi) ∧ inv i_p S r_p ∧ mea i_p S r_p < mea i S r
theorem rx_stepBD {M : rx_Mt} {tab : List bx_HE} {inv : Nat → bx_SP} {mea : Nat → (Nat → Int → Int) → (Nat → Int) → Nat} {Sin : Nat → Int → Int} {ms : List (Nat × Nat)} {i i_p o : Nat} {ins : Instr} {z : rx_Z} {os : List bx_HO} {es : List (rx_End × List (Nat × Int × Int))} {q_p : bx_HE} {a b : rx_E} {lo hi : Int} {t : List rx_V}
    (hF : rx_Fr rxG rxNW rxAO PX p s m args meth c M) (ho : o = 36 ∧ ins = .idiv) (hdg : decode M.2.1 (rx_zpc z) = .ok (ins, 1)) (hne : bx_noE z.2.2.1 = true) (hst : rx_zst z = .inr (0, b) :: .inr (0, a) :: t)
    (htab : tab[i_p]? = some q_p) (hq_p : rx_nxI (z.1 ++ [(lo, hi)]) z 1 (.inr (0, (z.1.length, 0)) :: t) = q_p.1) (hob : rx_obBD X Sin ms inv mea i i_p z o a b lo hi) :
    bx_Step p l e R s m args below meth c Q Dg rxL X vwCl A xa H0 ad M tab inv mea Sin ms i (z, os, es) := by
  intro S r H locs ls hinv hXS hsin hR K
  obtain ⟨Sq, ⟨ws0, tys0, hInv0, hrest0⟩, -, ⟨-, hch0⟩, -⟩ := id hR.2.2.2.1
  have eSq : Sq = S := bx_noE_eq hne (hch0 rfl)
  rw [eSq] at hInv0
  have hInv0 : bx_Inv rxL S := hInv0
  obtain ⟨o1, o2⟩ := hob S r hinv hXS hInv0 hsin hR.1 hR.2.1
  have hv := bx_opvD_ok ho.1 o1
  have hb0 : ¬ Int32.ofInt (rx_ev r b) = 0 := fun hz => by
    have h1 : 0 < rx_ev r b ∧ rx_ev r b ≤ 2147483647 := o1.2
    have h2 := bx_toI (a := rx_ev r b) (by omega)
    rw [hz] at h2
    have h3 : (0 : Int32).toInt = 0 := rfl
    omega
  obtain ⟨b1, b2, b3⟩ := o2 (rx_up r z.1.length (rx_op (3) (Int32.ofInt (rx_ev r a)) (Int32.ofInt (rx_ev r b))).toInt) rx_up_same ((rx_up_same 0 (rx_pos hR.1)).trans hR.1.1) (rx_up_self.trans hv)
  rw [rx_up_self] at b1
  have hsat := rx_sat_up (lo := lo) (hi := hi) hR.1 b1.1 b1.2
  have hsc := rx_stsc hR
  rw [hst] at hsc
  have ht2 : ∀ v ∈ t, rx_sc z.1.length z.2.2.1.length v := fun v hv => hsc v (List.mem_cons_of_mem _ (List.mem_cons_of_mem _ hv))
  have hlen : z.1.length ≤ (z.1 ++ [(lo, hi)]).length := by simp
  have hN := rx_R_nxI (d := 1) (st := .inr (0, (z.1.length, 0)) :: t) hR hlen rx_up_same hsat (fun v hv => by
    rcases List.mem_cons.mp hv with h | h
    · subst h
      show z.1.length < (z.1 ++ [(lo, hi)]).length
      simp
    · exact rx_sc.mono (ht2 v h) hlen trivial)
  rw [hq_p] at hN
  have k := K i_p q_p S _ H locs ls htab b2 b3 hXS hsin hN
  rw [← hq_p] at k
  have ev : rx_iv (rx_up r z.1.length (rx_op (3) (Int32.ofInt (rx_ev r a)) (Int32.ofInt (rx_ev r b))).toInt) ad xa (.inr (0, (z.1.length, 0))) = Value.int (rx_op (3) (Int32.ofInt (rx_ev r a)) (Int32.ofInt (rx_ev r b))) := by
    show Value.int (Int32.ofInt (rx_ev _ (z.1.length, 0))) = _
    unfold rx_ev
    rw [rx_up_self, Int.add_zero, Int32.ofInt_toInt]
  have et := rx_st_ext (ad := ad) (ad_p := ad) (xa := xa) ht2 (rx_up_same (r := r) (n := z.1.length) (z := (rx_op (3) (Int32.ofInt (rx_ev r a)) (Int32.ofInt (rx_ev r b))).toInt)) rx_sameA.rf
  have row : W p l e R s m args below meth c H locs z.2.2.2.1 z.2.2.2.2.1 Q (F0 m (rx_zpc z + 1) ls (.int (rx_op (3) (Int32.ofInt (rx_ev r a)) (Int32.ofInt (rx_ev r b))) :: t.map (rx_iv r ad xa))) → W p l e R s m args below meth c H locs z.2.2.2.1 z.2.2.2.2.1 Q (F0 m (rx_zpc z) ls (.int (Int32.ofInt (rx_ev r b)) :: .int (Int32.ofInt (rx_ev r a)) :: t.map (rx_iv r ad xa))) := fun k => by
    obtain ⟨h1, h2⟩ := ho
    subst h1
    subst h2
    exact lv_idiv hF.1 hF.2.1 hdg hb0 k
  rw [hst]
  refine row ?_
  rw [← ev, ← et]
  obtain ⟨zI, zF, zh, zc, zs, zp, zl, zt⟩ := z
  exact k
end RXOP
end
section
noncomputable def rjN (m : Int) (c : rkC) : Prop := (∀ j : Int, 0 ≤ j → j < (c.1 : Int) → 20 ≤ rkPo c j) ∧ ∀ i : Int, i < rkM c → (0 ≤ rkFo c i ∧ rkFo c i ≤ m) ∨ 20 ≤ rkFo c i
section RJN
variable {m : Int} {c : rkC}
theorem rjN_0 (hm : 0 ≤ m) : rjN m rkC0 := ⟨fun j a b => by
  have b : j < ((0 : Nat) : Int) := b
  omega, fun i _ => Or.inl ⟨Int.le_refl 0, hm⟩⟩
theorem rjN_emit {op a : Int} (h : rjN m c) (ho : (0 ≤ op ∧ op ≤ m) ∨ 20 ≤ op) : rjN m (rkEmit op a c) := ⟨h.1, fun i b => by
  have b : i < rkM c + 1 := b
  show (0 ≤ rkUp (rkFo c) (rkM c) op i ∧ rkUp (rkFo c) (rkM c) op i ≤ m) ∨ 20 ≤ rkUp (rkFo c) (rkM c) op i
  by_cases e : i = rkM c
  · rw [e, rkUp_at]
    exact ho
  · rw [rkUp_ne e]
    exact h.2 i (by omega)⟩
theorem rjN_push {op a : Int} (h : rjN m c) (ho : 20 ≤ op) : rjN m (rkPush op a c) := ⟨fun j a0 b => by
  have b : j < ((c.1 + 1 : Nat) : Int) := b
  show 20 ≤ rkUp (rkPo c) (c.1 : Int) op j
  by_cases e : j = (c.1 : Int)
  · rw [e, rkUp_at]
    exact ho
  · rw [rkUp_ne e]
    exact h.1 j a0 (by omega), h.2⟩
theorem rjN_pop (h : rjN m c) : rjN m (rkPop c) := ⟨fun j a b => by
  have b : j < ((c.1 - 1 : Nat) : Int) := b
  exact h.1 j a (by omega), h.2⟩
theorem rjN_top (h : rjN m c) (hn : 0 < c.1) : rjN m (rkTop c) := by
  unfold rkTop
  split
  · exact ⟨(rjN_pop h).1, h.2⟩
  · exact rjN_emit (rjN_pop h) (Or.inr (h.1 _ (by omega) (by omega)))
theorem rjN_rd {l : Int} : ∀ (k : Nat) (c : rkC), rjN m c → rjN m (rkRd l k c)
  | 0, _, h => h
  | k + 1, c, h => by
    show rjN m (if 0 < c.1 ∧ l ≤ rkBd (rkPo c ((c.1 : Int) - 1)) then rkRd l k (rkTop c) else c)
    by_cases g : 0 < c.1 ∧ l ≤ rkBd (rkPo c ((c.1 : Int) - 1))
    · rw [if_pos g]
      exact rjN_rd k _ (rjN_top h g.1)
    · rw [if_neg g]
      exact h
theorem rjN_red {l : Int} (h : rjN m c) : rjN m (rkRed l c) := rjN_rd _ _ h
theorem rjN_st {T : Int → Int} {n : Int} {ws : List (List Int)} (hw : (ws.length : Int) ≤ m) {f : Int} {lv : List Int} {pr : Bool} (h : rjN m c) : rjN m (rkSt T n ws f lv pr c) := by
  cases lv with
  | nil => exact h
  | cons s rest =>
    cases pr with
    | false =>
      rw [rkSt_0]
      by_cases h1 : rzDg T n f = true
      · rw [if_pos h1]
        exact rjN_emit h (Or.inl ⟨by omega, by omega⟩)
      rw [if_neg h1]
      by_cases h2 : 0 ≤ rzIxn T n f ws 0
      · rw [if_pos h2]
        have q := rzIxn_le (T := T) (n := n) (f := f) (l := ws) (k := 0) (Int.le_refl 0)
        exact rjN_emit h (Or.inl ⟨by omega, by omega⟩)
      rw [if_neg h2]
      repeat' split
      all_goals exact rjN_push h (by decide)
    | true =>
      rw [rkSt_1]
      repeat' split
      all_goals first
        | exact rjN_pop (rjN_red h)
        | exact rjN_push (rjN_red h) (by decide)
        | exact rjN_push (rjN_emit (rjN_red h) (Or.inr (by decide))) (by decide)
theorem rjN_run {T : Int → Int} {n : Int} {ws : List (List Int)} (hw : (ws.length : Int) ≤ m) {d : rkC} : ∀ (k : Nat) (f : Int) (lv : List Int) (pr : Bool) (lf : Int) (c : rkC), rkRun T n ws k f lv pr lf c = some d → rjN m c → rjN m d
  | 0, f, lv, pr, lf, c, h, _ => by cases h
  | k + 1, f, lv, pr, lf, c, h, hc => by
    have h : (match rzStep T n ws f lv pr lf with
      | (0, f_p, lv_p, pr_p, lf_p) => rkRun T n ws k f_p lv_p pr_p lf_p (rkSt T n ws f lv pr c)
      | (1, _, _, _, _) => some (rkRed 1 c)
      | _ => none) = some d := h
    match hs : rzStep T n ws f lv pr lf, h with
    | (0, f_p, lv_p, pr_p, lf_p), h => exact rjN_run hw k f_p lv_p pr_p lf_p _ h (rjN_st hw hc)
    | (1, _, _, _, _), h =>
      have e : rkRed 1 c = d := Option.some.inj h
      rw [← e]
      exact rjN_red hc
    | (q + 2, _, _, _, _), h => cases h
theorem rjEx_w {T : Int → Int} {n test f lf : Int} {ws : List (List Int)} {d : rkC} (hm : 0 ≤ m) (hw : (ws.length : Int) ≤ m) (h : rkEx T n ws test f lf d) : rjN m d := by
  obtain ⟨k, hk⟩ := h
  exact rjN_run hw k f [test] false lf rkC0 hk (rjN_0 hm)
theorem rkVl_v {d : rkC} {vs vs_p : Int → Int} (hm : m ≤ 8) (hn : rjN m d) (hv : ∀ k : Int, 1 ≤ k → k ≤ m → vs k = vs_p k) {r : Option (List Int)} : ∀ (k : Nat) (i : Int) (st : List Int), rkVl d vs k i st = some r → rkVl d vs_p k i st = some r
  | 0, i, st, h => by cases h
  | k + 1, i, st, h => by
    unfold rkVl at h ⊢
    by_cases h1 : rkM d ≤ i
    · rw [if_pos h1] at h ⊢
      exact h
    rw [if_neg h1] at h ⊢
    by_cases h2 : rkFo d i ≤ 8
    · rw [if_pos h2] at h ⊢
      have e : (if rkFo d i = 0 then rkFa d i else vs (rkFo d i)) = (if rkFo d i = 0 then rkFa d i else vs_p (rkFo d i)) := by
        by_cases z : rkFo d i = 0
        · rw [if_pos z, if_pos z]
        · rw [if_neg z, if_neg z]
          have q := hn.2 i (by omega)
          exact hv _ (by omega) (by omega)
      rw [← e]
      exact rkVl_v hm hn hv k _ _ h
    rw [if_neg h2] at h ⊢
    cases st with
    | nil => exact h
    | cons x st1 =>
      simp only at h ⊢
      by_cases h3 : rkFo d i = 28
      · rw [if_pos h3] at h ⊢
        exact rkVl_v hm hn hv k _ _ h
      rw [if_neg h3] at h ⊢
      by_cases h4 : rkFo d i = 29 ∨ rkFo d i = 30
      · rw [if_pos h4] at h ⊢
        by_cases h5 : x = (if rkFo d i = 30 then 1 else 0)
        · rw [if_pos h5] at h ⊢
          exact rkVl_v hm hn hv k _ _ h
        · rw [if_neg h5] at h ⊢
          exact rkVl_v hm hn hv k _ _ h
      rw [if_neg h4] at h ⊢
      cases st1 with
      | nil => exact h
      | cons y st2 =>
        simp only at h ⊢
        cases h6 : rkLm (rkBi (rkFo d i) y x) with
        | none =>
          rw [h6] at h
          exact h
        | some z =>
          rw [h6] at h
          exact rkVl_v hm hn hv k _ _ h
theorem rkEv_v {d : rkC} {vs vs_p : Int → Int} (hm : m ≤ 8) (hn : rjN m d) (hv : ∀ k : Int, 1 ≤ k → k ≤ m → vs k = vs_p k) {r : Option (List Int)} {i : Int} {st : List Int} (h : rkEv d vs i st r) : rkEv d vs_p i st r := by
  obtain ⟨k, hk⟩ := h
  exact ⟨k, rkVl_v hm hn hv k i st hk⟩
end RJN
end
section
noncomputable def rkPw (x : Int) : Int := if x = 6 then -1 else x
section RJTR
variable {F : Int → Int → Int → (Int → Int) → (Int → Int) → Int → Int → Int → Int → Int → Prop} {a b c a_p b_p c_p v u w m k v_p u_p w_p m_p k_p : Int} {o r o_p r_p : Int → Int}
theorem rj_tr (h : F a b c o r v u w m k) (ea : a_p = a) (eb : b_p = b) (ec : c_p = c) (eo : o_p = o) (er : r_p = r) (ev : v_p = v) (eu : u_p = u) (ew : w_p = w) (em : m_p = m) (ek : k_p = k) : F a_p b_p c_p o_p r_p v_p u_p w_p m_p k_p := by
  subst ea eb ec eo er ev eu ew em ek
  exact h
end RJTR
noncomputable def rjFm (S0 : Nat → Int → Int) (op ar : Int → Int) (m : Int) : Prop := ∀ i : Int, 0 ≤ i → i < m → op i = S0 487 i ∧ ar i = S0 488 i
noncomputable def rjGz (op ar : Int → Int) (a e : Int) : Option rkC → Prop
  | none => e = a
  | some d => 0 ≤ a ∧ 0 < rkM d ∧ e = a + rkM d ∧ rkW d ∧ ∀ i : Int, 0 ≤ i → i < rkM d → op (a + i) = rkFo d i ∧ ar (a + i) = rkAi a (rkFo d i) (rkFa d i)
theorem rjFm_tr {S0 : Nat → Int → Int} {op ar op_p ar_p : Int → Int} {m M : Int} (h : rjFm S0 op ar m) (f : ∀ i : Int, 0 ≤ i → i < M → op_p i = op i ∧ ar_p i = ar i) (b : m ≤ M) : rjFm S0 op_p ar_p m := fun i x y => ⟨(f i x (by omega)).1.trans (h i x y).1, (f i x (by omega)).2.trans (h i x y).2⟩
theorem rjGz_fr {op ar op_p ar_p : Int → Int} {a e M : Int} {o : Option rkC} (h : rjGz op ar a e o) (f : ∀ i : Int, 0 ≤ i → i < M → op_p i = op i ∧ ar_p i = ar i) (b : e ≤ M) : rjGz op_p ar_p a e o := by
  cases o with
  | none => exact h
  | some d =>
    obtain ⟨h0, h1, h2, h3, h4⟩ := h
    refine ⟨h0, h1, h2, h3, fun i p q => ?_⟩
    obtain ⟨f1, f2⟩ := f (a + i) (by omega) (by omega)
    rw [f1, f2]
    exact h4 i p q
theorem rjGz_mo {S : Nat → Int → Int} {b : Int} {d : rkC} (h : rkMo S b d) (hp : 0 < rkM d) (hw : rkW d) : rjGz (S 487) (S 488) b (S 480 18) (some d) := ⟨h.1, hp, h.2.2.1, hw, h.2.2.2⟩
noncomputable def rjRg (q : rkQ) : Prop := (q.1 = 3 ∨ q.1 = 4) ∧ (0 ≤ q.2.1 ∧ q.2.1 ≤ 6) ∧ 0 ≤ q.2.2.1 ∧ q.2.2.1 ≤ 6
theorem rzPv_r {T : Int → Int} {n f : Int} (h : rzPlc T n f = true) : 0 ≤ rzPv T n f ∧ rzPv T n f ≤ 6 := by
  rw [rzPlc_v] at h
  refine ⟨of_decide_eq_true h, ?_⟩
  unfold rzPv
  split
  · omega
  · split <;> omega
noncomputable def rjCp (S : Nat → Int → Int) (k : Int) (q : rkQ) : Prop := S 496 (10 * k) = rkPw q.2.1 ∧ S 496 (10 * k + 1) = rkPw q.2.2.1 ∧ S 496 (10 * k + 2) = (if q.1 = 4 then 1 else 0) ∧ rjRg q ∧ rjGz (S 487) (S 488) (S 496 (10 * k + 3)) (S 496 (10 * k + 4)) q.2.2.2.1 ∧ rjGz (S 487) (S 488) (S 496 (10 * k + 4)) (S 496 (10 * k + 5)) q.2.2.2.2.1 ∧ rjGz (S 487) (S 488) (S 496 (10 * k + 5)) (S 496 (10 * k + 6)) q.2.2.2.2.2
noncomputable def rjF1 (S0 : Nat → Int → Int) : Int := rzN (rzCut (S0 485)) (S0 480 8) ((S0 480 9))
noncomputable def rjF2 (S0 : Nat → Int → Int) : Int := rzN (rzCut (S0 485)) (S0 480 8) (rjF1 S0)
noncomputable def rjF3 (S0 : Nat → Int → Int) : Int := rzN (rzCut (S0 485)) (S0 480 8) (rjF2 S0)
noncomputable def rjF4 (S0 : Nat → Int → Int) : Int := rzN (rzCut (S0 485)) (S0 480 8) (rjF3 S0)
noncomputable def rjF5 (S0 : Nat → Int → Int) : Int := rzN (rzCut (S0 485)) (S0 480 8) (rjF4 S0)
noncomputable def rjK (S0 : Nat → Int → Int) (t21 t18 : Int) (op ar : Int → Int) : Prop := t21 = S0 480 21 ∧ t18 = S0 480 18 ∧ rjFm S0 op ar (S0 480 18)
noncomputable def rjA (S0 : Nat → Int → Int) : Prop := rzIs (rzCut (S0 485)) (S0 480 8) rzW_in ((S0 480 9)) = true ∧ rzPlc (rzCut (S0 485)) (S0 480 8) (rjF1 S0) = true ∧ rzIs (rzCut (S0 485)) (S0 480 8) rzW_at (rjF2 S0) = true ∧ rzPlc (rzCut (S0 485)) (S0 480 8) (rjF3 S0) = true
noncomputable def rjY1 (S0 : Nat → Int → Int) (t9 t21 t18 : Int) (op ar : Int → Int) (v u w m k : Int) : Prop := rzIs (rzCut (S0 485)) (S0 480 8) rzW_in ((S0 480 9)) = true ∧ t9 = rjF1 S0 ∧ rjK S0 t21 t18 op ar ∧ v = v ∧ u = u ∧ w = w ∧ m = m ∧ k = k
noncomputable def rjY2 (S0 : Nat → Int → Int) (t9 t21 t18 : Int) (op ar : Int → Int) (v u w m k : Int) : Prop := (rzIs (rzCut (S0 485)) (S0 480 8) rzW_in ((S0 480 9)) = true ∧ rzPlc (rzCut (S0 485)) (S0 480 8) (rjF1 S0) = true) ∧ t9 = rjF2 S0 ∧ v = rkPw (rzPv (rzCut (S0 485)) (S0 480 8) (rjF1 S0)) ∧ rjK S0 t21 t18 op ar ∧ u = u ∧ w = w ∧ m = m ∧ k = k
noncomputable def rjY3 (S0 : Nat → Int → Int) (t9 t21 t18 : Int) (op ar : Int → Int) (v u w m k : Int) : Prop := (rzIs (rzCut (S0 485)) (S0 480 8) rzW_in ((S0 480 9)) = true ∧ rzPlc (rzCut (S0 485)) (S0 480 8) (rjF1 S0) = true ∧ rzIs (rzCut (S0 485)) (S0 480 8) rzW_at (rjF2 S0) = true) ∧ t9 = rjF3 S0 ∧ v = rkPw (rzPv (rzCut (S0 485)) (S0 480 8) (rjF1 S0)) ∧ rjK S0 t21 t18 op ar ∧ u = u ∧ w = w ∧ m = m ∧ k = k
noncomputable def rjY4 (S0 : Nat → Int → Int) (t9 t21 t18 : Int) (op ar : Int → Int) (v u w m k : Int) : Prop := rjA S0 ∧ t9 = rjF4 S0 ∧ v = rkPw (rzPv (rzCut (S0 485)) (S0 480 8) (rjF1 S0)) ∧ u = rkPw (rzPv (rzCut (S0 485)) (S0 480 8) (rjF3 S0)) ∧ rjK S0 t21 t18 op ar ∧ w = w ∧ m = m ∧ k = k
noncomputable def rjY5 (S0 : Nat → Int → Int) (t9 t21 t18 : Int) (op ar : Int → Int) (v u w m k : Int) : Prop := rjA S0 ∧ t9 = rjF5 S0 ∧ v = rkPw (rzPv (rzCut (S0 485)) (S0 480 8) (rjF1 S0)) ∧ u = rkPw (rzPv (rzCut (S0 485)) (S0 480 8) (rjF3 S0)) ∧ rjK S0 t21 t18 op ar ∧ ((w = 1 ∧ rzIs (rzCut (S0 485)) (S0 480 8) rzW_hush (rjF4 S0) = true) ∨ (w = 0 ∧ rzIs (rzCut (S0 485)) (S0 480 8) rzW_hush (rjF4 S0) = false ∧ rzIs (rzCut (S0 485)) (S0 480 8) rzW_say (rjF4 S0) = true)) ∧ m = m ∧ k = k
noncomputable def rjY6 (S0 : Nat → Int → Int) (t9 t21 t18 : Int) (op ar : Int → Int) (v u w m k : Int) : Prop := rjA S0 ∧ v = rkPw (rzPv (rzCut (S0 485)) (S0 480 8) (rjF1 S0)) ∧ u = rkPw (rzPv (rzCut (S0 485)) (S0 480 8) (rjF3 S0)) ∧ rjFm S0 op ar (S0 480 18) ∧ ((w = 1 ∧ rzIs (rzCut (S0 485)) (S0 480 8) rzW_hush (rjF4 S0) = true ∧ t9 = rjF5 S0 ∧ t21 = S0 480 21 ∧ t18 = S0 480 18) ∨ (w = 0 ∧ (rzIs (rzCut (S0 485)) (S0 480 8) rzW_hush (rjF4 S0) = false ∧ rzIs (rzCut (S0 485)) (S0 480 8) rzW_say (rjF4 S0) = true) ∧ ∃ (r : rzR) (d : rkC), (rzEx (rzCut (S0 485)) (S0 480 8) rzPn 0 (rjF5 S0) (S0 480 21) r ∧ r.1 = true ∧ rkEx (rzCut (S0 485)) (S0 480 8) rzPn 0 (rjF5 S0) (S0 480 21) d) ∧ t9 = r.2.1 ∧ t21 = r.2.2 ∧ rjGz op ar (S0 480 18) t18 (some d))) ∧ m = m ∧ k = k
noncomputable def rjY7 (S0 : Nat → Int → Int) (t9 t21 t18 : Int) (op ar : Int → Int) (v u w m k : Int) : Prop := rjA S0 ∧ v = rkPw (rzPv (rzCut (S0 485)) (S0 480 8) (rjF1 S0)) ∧ u = rkPw (rzPv (rzCut (S0 485)) (S0 480 8) (rjF3 S0)) ∧ rjFm S0 op ar (S0 480 18) ∧ w = 0 ∧ (rzIs (rzCut (S0 485)) (S0 480 8) rzW_hush (rjF4 S0) = false ∧ rzIs (rzCut (S0 485)) (S0 480 8) rzW_say (rjF4 S0) = true) ∧ (∃ (r : rzR) (d : rkC), (rzEx (rzCut (S0 485)) (S0 480 8) rzPn 0 (rjF5 S0) (S0 480 21) r ∧ r.1 = true ∧ rkEx (rzCut (S0 485)) (S0 480 8) rzPn 0 (rjF5 S0) (S0 480 21) d) ∧ rzIs (rzCut (S0 485)) (S0 480 8) rzW_go r.2.1 = true ∧ t9 = rzN (rzCut (S0 485)) (S0 480 8) r.2.1 ∧ t21 = r.2.2 ∧ rjGz op ar (S0 480 18) t18 (some d)) ∧ m = m ∧ k = k
noncomputable def rjHq (S0 : Nat → Int → Int) (q : rkQ) (r : rzR) : Prop := rzPH (rzCut (S0 485)) (S0 480 8) rzPn (S0 480 9) (S0 480 21) r ∧ r.1 = true ∧ rkPH (rzCut (S0 485)) (S0 480 8) rzPn (S0 480 9) (S0 480 21) q
noncomputable def rjYH (S0 : Nat → Int → Int) (t9 t21 t18 : Int) (op ar : Int → Int) (v u w m k : Int) : Prop := ∃ (q : rkQ) (r : rzR), rjHq S0 q r ∧ t9 = r.2.1 ∧ t21 = r.2.2 ∧ (v = rkPw q.2.1 ∧ u = rkPw q.2.2.1 ∧ w = (if q.1 = 4 then 1 else 0) ∧ rjRg q) ∧ (rjGz op ar (S0 480 18) m q.2.2.2.1 ∧ rjGz op ar m t18 q.2.2.2.2.1) ∧ rjFm S0 op ar (S0 480 18) ∧ k = k
noncomputable def rjYI (S0 : Nat → Int → Int) (t9 t21 t18 : Int) (op ar : Int → Int) (v u w m k : Int) : Prop := ∃ (q : rkQ) (r : rzR), rjHq S0 q r ∧ rzIs (rzCut (S0 485)) (S0 480 8) rzW_if r.2.1 = true ∧ t9 = rzN (rzCut (S0 485)) (S0 480 8) r.2.1 ∧ t21 = r.2.2 ∧ (v = rkPw q.2.1 ∧ u = rkPw q.2.2.1 ∧ w = (if q.1 = 4 then 1 else 0) ∧ rjRg q) ∧ (rjGz op ar (S0 480 18) m q.2.2.2.1 ∧ rjGz op ar m t18 q.2.2.2.2.1) ∧ rjFm S0 op ar (S0 480 18) ∧ k = k
noncomputable def rjYJ (S0 : Nat → Int → Int) (t9 t21 t18 : Int) (op ar : Int → Int) (v u w m k : Int) : Prop := ∃ (q : rkQ) (r : rzR) (t : Option rkC), rjHq S0 q r ∧ rkIf (rzCut (S0 485)) (S0 480 8) rzPn r.2.1 r.2.2 t ∧ (v = rkPw q.2.1 ∧ u = rkPw q.2.2.1 ∧ w = (if q.1 = 4 then 1 else 0) ∧ rjRg q) ∧ (rjGz op ar (S0 480 18) m q.2.2.2.1 ∧ rjGz op ar m k q.2.2.2.2.1) ∧ rjGz op ar k t18 t ∧ rjFm S0 op ar (S0 480 18) ∧ t9 = t9 ∧ t21 = t21
noncomputable def rjYZ (S0 S : Nat → Int → Int) : Prop := ∃ (q : rkQ) (r : rzR) (t : Option rkC), rjHq S0 q r ∧ rkIf (rzCut (S0 485)) (S0 480 8) rzPn r.2.1 r.2.2 t ∧ rjCp S (S0 480 16) (q.1, q.2.1, q.2.2.1, q.2.2.2.1, q.2.2.2.2.1, t) ∧ rjFm S0 (S 487) (S 488) (S0 480 18) ∧ ∀ j : Int, 0 ≤ j → j < 10 * S0 480 16 → S 496 j = S0 496 j
theorem rjY2_of {S0 S S_p : Nat → Int → Int} {v : Int} (h : rjY1 S0 (S 480 9) (S 480 21) (S 480 18) (S 487) (S 488) 0 0 0 0 0) (a : rzKr S0 S) (p : rzPlc (rzCut (S 485)) (S 480 8) (S 480 9) = true) (e9 : S_p 480 9 = rzN (rzCut (S 485)) (S 480 8) (S 480 9)) (e21 : S_p 480 21 = S 480 21) (e18 : S_p 480 18 = S 480 18) (ev : v = rkPw (rzPv (rzCut (S 485)) (S 480 8) (S 480 9))) (fm : ∀ i : Int, 0 ≤ i → i < 400 → S_p 487 i = S 487 i ∧ S_p 488 i = S 488 i) (b0 : S0 480 18 ≤ 400) : rjY2 S0 (S_p 480 9) (S_p 480 21) (S_p 480 18) (S_p 487) (S_p 488) v 0 0 0 0 := by
  obtain ⟨h1, h2, ⟨h3, h4, h5⟩, -⟩ := h
  rw [a.1, a.2.1, h2] at p e9 ev
  exact ⟨⟨h1, p⟩, e9, ev, ⟨e21.trans h3, e18.trans h4, rjFm_tr h5 fm b0⟩, rfl, rfl, rfl, rfl⟩
theorem rjY3_of {S0 S S_p : Nat → Int → Int} {v : Int} (h : rjY2 S0 (S 480 9) (S 480 21) (S 480 18) (S 487) (S 488) v 0 0 0 0) (a : rzKr S0 S) (p : rzIs (rzCut (S 485)) (S 480 8) rzW_at (S 480 9) = true) (e9 : S_p 480 9 = rzN (rzCut (S 485)) (S 480 8) (S 480 9)) (e21 : S_p 480 21 = S 480 21) (e18 : S_p 480 18 = S 480 18) (fm : ∀ i : Int, 0 ≤ i → i < 400 → S_p 487 i = S 487 i ∧ S_p 488 i = S 488 i) (b0 : S0 480 18 ≤ 400) : rjY3 S0 (S_p 480 9) (S_p 480 21) (S_p 480 18) (S_p 487) (S_p 488) v 0 0 0 0 := by
  obtain ⟨⟨h0, h1⟩, h2, hv, ⟨h3, h4, h5⟩, -⟩ := h
  rw [a.1, a.2.1, h2] at p e9
  exact ⟨⟨h0, h1, p⟩, e9, hv, ⟨e21.trans h3, e18.trans h4, rjFm_tr h5 fm b0⟩, rfl, rfl, rfl, rfl⟩
theorem rjY4_of {S0 S S_p : Nat → Int → Int} {v u : Int} (h : rjY3 S0 (S 480 9) (S 480 21) (S 480 18) (S 487) (S 488) v 0 0 0 0) (a : rzKr S0 S) (p : rzPlc (rzCut (S 485)) (S 480 8) (S 480 9) = true) (e9 : S_p 480 9 = rzN (rzCut (S 485)) (S 480 8) (S 480 9)) (e21 : S_p 480 21 = S 480 21) (e18 : S_p 480 18 = S 480 18) (ev : u = rkPw (rzPv (rzCut (S 485)) (S 480 8) (S 480 9))) (fm : ∀ i : Int, 0 ≤ i → i < 400 → S_p 487 i = S 487 i ∧ S_p 488 i = S 488 i) (b0 : S0 480 18 ≤ 400) : rjY4 S0 (S_p 480 9) (S_p 480 21) (S_p 480 18) (S_p 487) (S_p 488) v u 0 0 0 := by
  obtain ⟨⟨h0, h1, hat⟩, h2, hv, ⟨h3, h4, h5⟩, -⟩ := h
  rw [a.1, a.2.1, h2] at p e9 ev
  exact ⟨⟨h0, h1, hat, p⟩, e9, hv, ev, ⟨e21.trans h3, e18.trans h4, rjFm_tr h5 fm b0⟩, rfl, rfl, rfl⟩
theorem rjY5_of {S0 S S_p : Nat → Int → Int} {v u w : Int} (h : rjY4 S0 (S 480 9) (S 480 21) (S 480 18) (S 487) (S 488) v u 0 0 0) (a : rzKr S0 S) (p : (w = 1 ∧ rzIs (rzCut (S 485)) (S 480 8) rzW_hush (S 480 9) = true) ∨ (w = 0 ∧ rzIs (rzCut (S 485)) (S 480 8) rzW_hush (S 480 9) = false ∧ rzIs (rzCut (S 485)) (S 480 8) rzW_say (S 480 9) = true)) (e9 : S_p 480 9 = rzN (rzCut (S 485)) (S 480 8) (S 480 9)) (e21 : S_p 480 21 = S 480 21) (e18 : S_p 480 18 = S 480 18) (fm : ∀ i : Int, 0 ≤ i → i < 400 → S_p 487 i = S 487 i ∧ S_p 488 i = S 488 i) (b0 : S0 480 18 ≤ 400) : rjY5 S0 (S_p 480 9) (S_p 480 21) (S_p 480 18) (S_p 487) (S_p 488) v u w 0 0 := by
  obtain ⟨hA, h2, hv, hu, ⟨h3, h4, h5⟩, -⟩ := h
  rw [a.1, a.2.1, h2] at p e9
  exact ⟨hA, e9, hv, hu, ⟨e21.trans h3, e18.trans h4, rjFm_tr h5 fm b0⟩, p, rfl, rfl⟩
theorem rjY6_h {S0 S : Nat → Int → Int} {v u w : Int} (h : rjY5 S0 (S 480 9) (S 480 21) (S 480 18) (S 487) (S 488) v u w 0 0) (hw : w = 1) : rjY6 S0 (S 480 9) (S 480 21) (S 480 18) (S 487) (S 488) v u w 0 0 := by
  obtain ⟨hA, h2, hv, hu, ⟨h3, h4, h5⟩, hp, -⟩ := h
  rcases hp with p | p
  · exact ⟨hA, hv, hu, h5, Or.inl ⟨p.1, p.2, h2, h3, h4⟩, rfl, rfl⟩
  · have := p.1
    omega
theorem rjY6_ex {S0 S S_p : Nat → Int → Int} {v u w : Int} (hW : rzWr S0 = rzPn) (a : rzKr S0 S) (h : rjY5 S0 (S 480 9) (S 480 21) (S 480 18) (S 487) (S 488) v u w 0 0) (hw : w = 0) (x : rzXo S S_p 0) (y : rkEm S S_p 0) (z : S_p 480 14 = 0) : rjY6 S0 (S_p 480 9) (S_p 480 21) (S_p 480 18) (S_p 487) (S_p 488) v u w 0 0 := by
  obtain ⟨hA, h2, hv, hu, ⟨h3, h4, h5⟩, hp, -⟩ := h
  unfold rzXo at x
  unfold rkEm at y
  rw [a.1, a.2.1, a.w, hW, h2, h3] at x y
  obtain ⟨-, -, r, r1, r2, r3, r4⟩ := x.1 z
  obtain ⟨f, d, d1, d2, d3⟩ := y z
  rw [h4] at f d3
  have gz := rjGz_mo d3 (rkEx_pos d1) d2
  rcases hp with p | p
  · have := p.1
    omega
  · exact ⟨hA, hv, hu, rjFm_tr h5 f (Int.le_refl _), Or.inr ⟨hw, p.2, r, d, ⟨r1, r2, d1⟩, r3, r4, gz⟩, rfl, rfl⟩
theorem rjYH_h {S0 S : Nat → Int → Int} {v u w m : Int} (h : rjY6 S0 (S 480 9) (S 480 21) (S 480 18) (S 487) (S 488) v u w 0 0) (hw : w = 1) (em : m = S 480 18) : rjYH S0 (S 480 9) (S 480 21) (S 480 18) (S 487) (S 488) v u w m 0 := by
  obtain ⟨hA, hv, hu, hf, hp, -⟩ := h
  rcases hp with ⟨-, p, h2, h3, h4⟩ | p
  · exact ⟨(4, rzPv (rzCut (S0 485)) (S0 480 8) (rjF1 S0), rzPv (rzCut (S0 485)) (S0 480 8) (rjF3 S0), none, none, none), (true, rjF5 S0, (S0 480 21)), ⟨rzAlt_y hA.1 (rzAlt_y hA.2.1 (rzAlt_y hA.2.2.1 (rzAlt_y hA.2.2.2 (rzAlt_y p rfl)))), rfl, ⟨_, _, _, _, rfl, rfl, rfl, rfl, rzAlt_y p rfl⟩⟩, h2, h3, ⟨hv, hu, hw.trans (if_pos rfl).symm, ⟨Or.inr rfl, rzPv_r hA.2.1, rzPv_r hA.2.2.2⟩⟩, ⟨em.trans h4, em.symm⟩, hf, rfl⟩
  · have := p.1
    omega
theorem rjYH_ng {S0 S : Nat → Int → Int} {v u w m : Int} (h : rjY6 S0 (S 480 9) (S 480 21) (S 480 18) (S 487) (S 488) v u w 0 0) (hw : w = 0) (a : rzKr S0 S) (p : rzIs (rzCut (S0 485)) (S0 480 8) rzW_go (S 480 9) = false) (em : m = S 480 18) : rjYH S0 (S 480 9) (S 480 21) (S 480 18) (S 487) (S 488) v u w m 0 := by
  obtain ⟨hA, hv, hu, hf, hp, -⟩ := h
  rcases hp with q | ⟨-, ⟨g1, g2⟩, r, d, ⟨r1, r2, d1⟩, h2, h3, gz⟩
  · have := q.1
    omega
  · rw [h2] at p
    refine ⟨(3, rzPv (rzCut (S0 485)) (S0 480 8) (rjF1 S0), rzPv (rzCut (S0 485)) (S0 480 8) (rjF3 S0), some d, none, none), (true, r.2.1, r.2.2), ⟨rzAlt_y hA.1 (rzAlt_y hA.2.1 (rzAlt_y hA.2.2.1 (rzAlt_y hA.2.2.2 (rzAlt_n g1 (rzAlt_y g2 ⟨r, r1, Or.inr ⟨r2, rzAlt_n p rfl⟩⟩))))), rfl, ⟨_, _, _, _, rfl, rfl, rfl, rfl, rzAlt_n g1 ⟨d, r, none, d1, r1, rzAlt_n p rfl, rfl⟩⟩⟩, h2, h3, ⟨hv, hu, hw.trans (if_neg (show ¬ ((3 : Int) = 4) by decide)).symm, ⟨Or.inl rfl, rzPv_r hA.2.1, rzPv_r hA.2.2.2⟩⟩, ⟨?_, em.symm⟩, hf, rfl⟩
    rw [em]
    exact gz
theorem rjY7_of {S0 S S_p : Nat → Int → Int} {v u w : Int} (h : rjY6 S0 (S 480 9) (S 480 21) (S 480 18) (S 487) (S 488) v u w 0 0) (hw : w = 0) (a : rzKr S0 S) (p : rzIs (rzCut (S 485)) (S 480 8) rzW_go (S 480 9) = true) (e9 : S_p 480 9 = rzN (rzCut (S 485)) (S 480 8) (S 480 9)) (e21 : S_p 480 21 = S 480 21) (e18 : S_p 480 18 = S 480 18) (b18 : S 480 18 ≤ 400) (fm : ∀ i : Int, 0 ≤ i → i < 400 → S_p 487 i = S 487 i ∧ S_p 488 i = S 488 i) (b0 : S0 480 18 ≤ 400) : rjY7 S0 (S_p 480 9) (S_p 480 21) (S_p 480 18) (S_p 487) (S_p 488) v u w 0 0 := by
  obtain ⟨hA, hv, hu, hf, hp, -⟩ := h
  rcases hp with q | ⟨-, g, r, d, hr, h2, h3, gz⟩
  · have := q.1
    omega
  · rw [a.1, a.2.1, h2] at p e9
    refine ⟨hA, hv, hu, rjFm_tr hf fm b0, hw, g, ⟨r, d, hr, p, e9, e21.trans h3, ?_⟩, rfl, rfl⟩
    rw [e18]
    exact rjGz_fr gz fm b18
theorem rjYH_go {S0 S S_p : Nat → Int → Int} {v u w m : Int} (hW : rzWr S0 = rzPn) (a : rzKr S0 S) (h : rjY7 S0 (S 480 9) (S 480 21) (S 480 18) (S 487) (S 488) v u w 0 0) (x : rzXo S S_p 0) (y : rkEm S S_p 0) (z : S_p 480 14 = 0) (em : m = S 480 18) (b18 : S0 480 18 ≤ S 480 18) : rjYH S0 (S_p 480 9) (S_p 480 21) (S_p 480 18) (S_p 487) (S_p 488) v u w m 0 := by
  obtain ⟨hA, hv, hu, hf, hw, ⟨g1, g2⟩, ⟨r, d, ⟨r1, r2, d1⟩, p, h2, h3, gz⟩, -⟩ := h
  unfold rzXo at x
  unfold rkEm at y
  rw [a.1, a.2.1, a.w, hW, h2, h3] at x y
  obtain ⟨-, -, s, s1, s2, s3, s4⟩ := x.1 z
  obtain ⟨f, e, e1, e2, e3⟩ := y z
  have gz2 := rjGz_mo e3 (rkEx_pos e1) e2
  refine ⟨(3, rzPv (rzCut (S0 485)) (S0 480 8) (rjF1 S0), rzPv (rzCut (S0 485)) (S0 480 8) (rjF3 S0), some d, some e, none), s, ⟨rzAlt_y hA.1 (rzAlt_y hA.2.1 (rzAlt_y hA.2.2.1 (rzAlt_y hA.2.2.2 (rzAlt_n g1 (rzAlt_y g2 ⟨r, r1, Or.inr ⟨r2, rzAlt_y p s1⟩⟩))))), s2, ⟨_, _, _, _, rfl, rfl, rfl, rfl, rzAlt_n g1 ⟨d, r, some e, d1, r1, rzAlt_y p ⟨e, e1, rfl⟩, rfl⟩⟩⟩, s3, s4, ⟨hv, hu, hw.trans (if_neg (show ¬ ((3 : Int) = 4) by decide)).symm, ⟨Or.inl rfl, rzPv_r hA.2.1, rzPv_r hA.2.2.2⟩⟩, ⟨?_, ?_⟩, rjFm_tr hf f b18, rfl⟩
  · rw [em]
    exact rjGz_fr gz f (Int.le_refl _)
  · rw [em]
    exact gz2
theorem rjYI_of {S0 S S_p : Nat → Int → Int} {v u w m : Int} (h : rjYH S0 (S 480 9) (S 480 21) (S 480 18) (S 487) (S 488) v u w m 0) (a : rzKr S0 S) (p : rzIs (rzCut (S 485)) (S 480 8) rzW_if (S 480 9) = true) (e9 : S_p 480 9 = rzN (rzCut (S 485)) (S 480 8) (S 480 9)) (e21 : S_p 480 21 = S 480 21) (e18 : S_p 480 18 = S 480 18) (b18 : S 480 18 ≤ 400) (bm : m ≤ 400) (fm : ∀ i : Int, 0 ≤ i → i < 400 → S_p 487 i = S 487 i ∧ S_p 488 i = S 488 i) (b0 : S0 480 18 ≤ 400) : rjYI S0 (S_p 480 9) (S_p 480 21) (S_p 480 18) (S_p 487) (S_p 488) v u w m 0 := by
  obtain ⟨q, r, hq, h2, h3, he, ⟨g1, g2⟩, hf, -⟩ := h
  rw [a.1, a.2.1, h2] at p e9
  refine ⟨q, r, hq, p, e9, e21.trans h3, he, ⟨rjGz_fr g1 fm bm, ?_⟩, rjFm_tr hf fm b0, rfl⟩
  rw [e18]
  exact rjGz_fr g2 fm b18
theorem rjYJ_no {S0 S : Nat → Int → Int} {v u w m k : Int} (h : rjYH S0 (S 480 9) (S 480 21) (S 480 18) (S 487) (S 488) v u w m 0) (p : rzIs (rzCut (S0 485)) (S0 480 8) rzW_if (S 480 9) = false) (ek : k = S 480 18) : rjYJ S0 (S 480 9) (S 480 21) (S 480 18) (S 487) (S 488) v u w m k := by
  obtain ⟨q, r, hq, h2, h3, he, ⟨g1, g2⟩, hf, -⟩ := h
  rw [h2] at p
  refine ⟨q, r, none, hq, rzAlt_n p rfl, he, ⟨g1, ?_⟩, ek.symm, hf, rfl, rfl⟩
  rw [ek]
  exact g2
theorem rjYJ_ex {S0 S S_p : Nat → Int → Int} {v u w m k : Int} (hW : rzWr S0 = rzPn) (a : rzKr S0 S) (h : rjYI S0 (S 480 9) (S 480 21) (S 480 18) (S 487) (S 488) v u w m 0) (y : rkEm S S_p 1) (z : S_p 480 14 = 0) (ek : k = S 480 18) (bm : m ≤ S 480 18) (b18 : S0 480 18 ≤ S 480 18) : rjYJ S0 (S_p 480 9) (S_p 480 21) (S_p 480 18) (S_p 487) (S_p 488) v u w m k := by
  obtain ⟨q, r, hq, p, h2, h3, he, ⟨g1, g2⟩, hf, -⟩ := h
  unfold rkEm at y
  rw [a.1, a.2.1, a.w, hW, h2, h3] at y
  obtain ⟨f, d, d1, d2, d3⟩ := y z
  have gz := rjGz_mo d3 (rkEx_pos d1) d2
  refine ⟨q, r, some d, hq, rzAlt_y p ⟨d, d1, rfl⟩, he, ⟨rjGz_fr g1 f bm, ?_⟩, ?_, rjFm_tr hf f b18, rfl, rfl⟩
  · rw [ek]
    exact rjGz_fr g2 f (Int.le_refl _)
  · rw [ek]
    exact gz
theorem rjYZ_of {S0 S : Nat → Int → Int} {base dd : Int} (h : rjYJ S0 (S 480 9) (S 480 21) (S 480 18) (S 487) (S 488) (S 496 base) (S 496 (base + 1)) dd (S 496 (base + 4)) (S 496 (base + 5))) (e2 : S 496 (base + 2) = dd) (e3 : S 496 (base + 3) = S0 480 18) (eb : base = 10 * S0 480 16) (hr : ∀ j : Int, 0 ≤ j → j < base → S 496 j = S0 496 j) : rjYZ S0 (bx_up S 496 (base + 6) (S 480 18)) := by
  obtain ⟨q, r, t, hq, ht, ⟨v1, v2, v3, v4⟩, ⟨g1, g2⟩, g3, hf, -⟩ := h
  have g : ∀ j : Int, j ≠ base + 6 → bx_up S 496 (base + 6) (S 480 18) 496 j = S 496 j := fun j hj => bx_up_ne (by omega)
  have eo : bx_up S 496 (base + 6) (S 480 18) 487 = S 487 := funext fun _ => bx_up_ne (by omega)
  have ea : bx_up S 496 (base + 6) (S 480 18) 488 = S 488 := funext fun _ => bx_up_ne (by omega)
  refine ⟨q, r, t, hq, ht, ?_, by rw [eo, ea]; exact hf, fun j x y => (g j (by omega)).trans (hr j x (by omega))⟩
  unfold rjCp
  rw [eo, ea, ← eb, g base (by omega), g (base + 1) (by omega), g (base + 2) (by omega), g (base + 3) (by omega), g (base + 4) (by omega), g (base + 5) (by omega), bx_up_at, e2, e3]
  exact ⟨v1, v2, v3, v4, g1, g2, g3⟩
end
section
theorem rzPC_if {T : Int → Int} {n f lf : Int} {r r2 : rzR} (h : rzPC T n f lf r2) (g : rzPH T n rzPn f lf r) (gr : r.1 = true) : rzIf T n rzPn r.2.1 r.2.2 r2 := by
  have no : ∀ {a b : Int}, r = (false, a, b) → False := fun e => by
    rw [e] at gr
    cases gr
  rcases rzAlt_c g h with ⟨g, h⟩ | ⟨a, -⟩
  · rcases rzAlt_c g h with ⟨g, h⟩ | ⟨a, -⟩
    · rcases rzAlt_c g h with ⟨g, h⟩ | ⟨a, -⟩
      · rcases rzAlt_c g h with ⟨g, h⟩ | ⟨a, -⟩
        · rcases rzAlt_c g h with ⟨a, h⟩ | ⟨g, h⟩
          · subst a
            exact h
          · rcases rzAlt_c g h with ⟨c, d⟩ | ⟨a, -⟩
            · obtain ⟨s1, u1, u2⟩ := c
              obtain ⟨s2, v1, v2⟩ := d
              have e := rzDet_ex s1 s2 u1 v1
              subst e
              rcases u2 with ⟨z, w⟩ | ⟨z, w⟩
              · subst w
                rw [gr] at z
                cases z
              · rcases v2 with ⟨z2, -⟩ | ⟨-, w2⟩
                · rw [z] at z2
                  cases z2
                · rcases rzAlt_c w w2 with ⟨p, s, q1, q2⟩ | ⟨p, p2⟩
                  · have e := rzDet_ex s r q1 p
                    subst e
                    rcases q2 with ⟨z3, -⟩ | ⟨-, z3⟩
                    · rw [gr] at z3
                      cases z3
                    · exact z3
                  · subst p
                    exact p2
            · exact (no a).elim
        · exact (no a).elim
      · exact (no a).elim
    · exact (no a).elim
  · exact (no a).elim
noncomputable def rjPm (S : Nat → Int → Int) : Int → List rkQ → Prop
  | _, [] => True
  | k, q :: L => rjCp S k q ∧ rjPm S (k + 1) L
theorem rjCp_fr {S S_p : Nat → Int → Int} {k : Int} {q : rkQ} (h : rjCp S k q) (r : ∀ j : Int, 0 ≤ j → j < 10 * S 480 16 → S_p 496 j = S 496 j) (f : ∀ i : Int, 0 ≤ i → i < S 480 18 → S_p 487 i = S 487 i ∧ S_p 488 i = S 488 i) (hc : rxPd S) (k0 : 0 ≤ k) (k1 : k < S 480 16) : rjCp S_p k q := by
  obtain ⟨h1, h2, h3, h4, h5, h6, h7⟩ := h
  have c4 : S 496 (10 * k + 4) ≤ S 480 18 := by
    have := (hc k k0 k1 3 (by omega) (by omega)).2.1
    rwa [show 10 * k + 3 + 1 = 10 * k + 4 by omega] at this
  have c5 : S 496 (10 * k + 5) ≤ S 480 18 := by
    have := (hc k k0 k1 4 (by omega) (by omega)).2.1
    rwa [show 10 * k + 4 + 1 = 10 * k + 5 by omega] at this
  have c6 : S 496 (10 * k + 6) ≤ S 480 18 := by
    have := (hc k k0 k1 5 (by omega) (by omega)).2.1
    rwa [show 10 * k + 5 + 1 = 10 * k + 6 by omega] at this
  refine ⟨(r _ (by omega) (by omega)).trans h1, (r _ (by omega) (by omega)).trans h2, (r _ (by omega) (by omega)).trans h3, h4, ?_, ?_, ?_⟩
  · rw [r (10 * k + 3) (by omega) (by omega), r (10 * k + 4) (by omega) (by omega)]
    exact rjGz_fr h5 f c4
  · rw [r (10 * k + 4) (by omega) (by omega), r (10 * k + 5) (by omega) (by omega)]
    exact rjGz_fr h6 f c5
  · rw [r (10 * k + 5) (by omega) (by omega), r (10 * k + 6) (by omega) (by omega)]
    exact rjGz_fr h7 f c6
theorem rjPm_fr {S S_p : Nat → Int → Int} (r : ∀ j : Int, 0 ≤ j → j < 10 * S 480 16 → S_p 496 j = S 496 j) (f : ∀ i : Int, 0 ≤ i → i < S 480 18 → S_p 487 i = S 487 i ∧ S_p 488 i = S 488 i) (hc : rxPd S) : ∀ {L : List rkQ} {k : Int}, 0 ≤ k → k + (L.length : Int) ≤ S 480 16 → rjPm S k L → rjPm S_p k L
  | [], _, _, _, _ => trivial
  | q :: L, k, k0, hl, h => by
    simp only [List.length_cons] at hl
    exact ⟨rjCp_fr h.1 r f hc k0 (by omega), rjPm_fr r f hc (by omega) (by omega) h.2⟩
theorem rjPm_ne {S S_p : Nat → Int → Int} (r : ∀ j : Int, S_p 496 j = S 496 j) (f : ∀ i : Int, S_p 487 i = S 487 i ∧ S_p 488 i = S 488 i) : ∀ {L : List rkQ} {k : Int}, rjPm S k L → rjPm S_p k L
  | [], _, _ => trivial
  | q :: L, k, h => by
    obtain ⟨h1, h2, h3, h4, h5, h6, h7⟩ := h.1
    refine ⟨⟨(r _).trans h1, (r _).trans h2, (r _).trans h3, h4, ?_, ?_, ?_⟩, rjPm_ne r f h.2⟩
    · rw [r, r]
      exact rjGz_fr h5 (M := S 496 (10 * k + 4)) (fun i _ _ => f i) (Int.le_refl _)
    · rw [r, r]
      exact rjGz_fr h6 (M := S 496 (10 * k + 5)) (fun i _ _ => f i) (Int.le_refl _)
    · rw [r, r]
      exact rjGz_fr h7 (M := S 496 (10 * k + 6)) (fun i _ _ => f i) (Int.le_refl _)
theorem rjPm_ap {S : Nat → Int → Int} {q : rkQ} : ∀ {L : List rkQ} {k : Int}, rjPm S k L → rjCp S (k + (L.length : Int)) q → rjPm S k (L ++ [q])
  | [], k, _, h => by
    simp only [List.length_nil] at h
    exact ⟨by rw [show k = k + ((0 : Nat) : Int) by omega]; exact h, trivial⟩
  | x :: L, k, g, h => by
    simp only [List.length_cons] at h
    exact ⟨g.1, rjPm_ap g.2 (by rw [show k + 1 + (L.length : Int) = k + ((L.length + 1 : Nat) : Int) by omega]; exact h)⟩
noncomputable def rjMp (S0 S : Nat → Int → Int) : Prop := ∃ L : List rkQ, S 480 16 = (L.length : Int) ∧ rjPm S 0 L ∧ ∀ L_p : List rkQ, rkTx true (rzCut (S0 485)) (S0 480 8) (12 - S 480 16).toNat (S 480 9) (S 480 21) L_p → rkText true (rzCut (S0 485)) (S0 480 8) (L ++ L_p)
noncomputable def rjMq (S0 S : Nat → Int → Int) : Prop := ∃ L : List rkQ, S 480 16 = (L.length : Int) ∧ rjPm S 0 L ∧ ∀ L_p : List rkQ, rzAlt (rzSg (rzCut (S0 485)) (S0 480 8) 59 (S 480 9)) (rkTx true (rzCut (S0 485)) (S0 480 8) (12 - S 480 16).toNat (rzN (rzCut (S0 485)) (S0 480 8) (S 480 9)) (S 480 21) L_p) (L_p = []) → rkText true (rzCut (S0 485)) (S0 480 8) (L ++ L_p)
noncomputable def rjMz (S0 S : Nat → Int → Int) : Prop := ∃ L : List rkQ, rkText true (rzCut (S0 485)) (S0 480 8) L ∧ S 480 16 = (L.length : Int) ∧ rjPm S 0 L
theorem rjMp_0 {S0 S : Nat → Int → Int} (e16 : S 480 16 = 0) (e9 : S 480 9 = rzF (rzCut (S0 485)) (S0 480 8) 0) (e21 : S 480 21 = 0) : rjMp S0 S := by
  refine ⟨[], e16, trivial, fun L_p h => ?_⟩
  rw [e16, e9, e21] at h
  exact h
theorem rjMq_of {S0 S S_p : Nat → Int → Int} {P : rzR → Prop} (h : rjMp S0 S) (hc : rxPd S) (eT : rzCut (S 485) = rzCut (S0 485)) (en : S 480 8 = S0 480 8) (b16 : 0 ≤ S 480 16) (g : rjYZ S S_p) (x : rzCo S S_p P) (z : S_p 480 14 = 0) (e16 : S_p 480 16 = S 480 16 + 1) (hP : ∀ r : rzR, P r → r.1 = true → S 480 16 < 12 ∧ rzPC (rzCut (S 485)) (S 480 8) (S 480 9) (S 480 21) r) : rjMq S0 S_p := by
  obtain ⟨L, h1, h2, h3⟩ := h
  obtain ⟨q, r, t, ⟨g1, g2, g3⟩, g4, g5, g6, g7⟩ := g
  obtain ⟨-, -, r2, p1, p2, p3, p4⟩ := x.1 z
  obtain ⟨n12, lc⟩ := hP r2 p1 p2
  have hf := rzPC_if lc g1 g2
  rw [eT, en] at g1 g3 g4 hf
  have hl : ((L ++ [((q.1, q.2.1, q.2.2.1, q.2.2.2.1, q.2.2.2.2.1, t) : rkQ)]).length : Int) = (L.length : Int) + 1 := by simp
  refine ⟨L ++ [(q.1, q.2.1, q.2.2.1, q.2.2.2.1, q.2.2.2.2.1, t)], by omega, rjPm_ap (rjPm_fr g7 g6 hc (Int.le_refl 0) (by omega) h2) (by rw [← h1, Int.zero_add]; exact g5), fun L_p hL => ?_⟩
  rw [List.append_assoc]
  refine h3 _ ?_
  rw [show (12 - S 480 16).toNat = (12 - S_p 480 16).toNat + 1 by omega]
  rw [p3, p4] at hL
  exact ⟨r, r2, q, t, L_p, g1, g3, hf, g4, rfl, hL⟩
theorem rjMp_of {S0 S S_p : Nat → Int → Int} (h : rjMq S0 S) (hs : rzSg (rzCut (S0 485)) (S0 480 8) 59 (S 480 9) = true) (e9 : S_p 480 9 = rzN (rzCut (S0 485)) (S0 480 8) (S 480 9)) (e21 : S_p 480 21 = S 480 21) (e16 : S_p 480 16 = S 480 16) (hp : ∀ L : List rkQ, S 480 16 = (L.length : Int) → rjPm S 0 L → rjPm S_p 0 L) : rjMp S0 S_p := by
  obtain ⟨L, h1, h2, h3⟩ := h
  refine ⟨L, e16.trans h1, hp L h1 h2, fun L_p hL => h3 L_p (rzAlt_y hs ?_)⟩
  rw [e16, e9, e21] at hL
  exact hL
theorem rjMz_of {S0 S S_p : Nat → Int → Int} (h : rjMq S0 S) (hs : rzSg (rzCut (S0 485)) (S0 480 8) 59 (S 480 9) = false) (e16 : S_p 480 16 = S 480 16) (hp : ∀ L : List rkQ, S 480 16 = (L.length : Int) → rjPm S 0 L → rjPm S_p 0 L) : rjMz S0 S_p := by
  obtain ⟨L, h1, h2, h3⟩ := h
  have t := h3 [] (rzAlt_n hs rfl)
  rw [List.append_nil] at t
  exact ⟨L, t, e16.trans h1, hp L h1 h2⟩
theorem rjPm_sm {ms : List (Nat × Nat)} {S S_p : Nat → Int → Int} (hs : bx_same rxL (bx_mdl ms) S S_p) (hk : [(1068, 0), (1069, 0)].all (fun q => !(bx_mdl ms q.1 q.2)) = true) (hr : ∀ j : Int, 0 ≤ j → j < 120 → S_p 496 j = S 496 j) (hc : rxPd S) (b16 : S 480 16 ≤ 12) (b18 : S 480 18 ≤ 400) (L : List rkQ) (hL : S 480 16 = (L.length : Int)) (h : rjPm S 0 L) : rjPm S_p 0 L :=
  rjPm_fr (fun j x y => hr j x (by omega)) (fun i x y => rkFm_sm hs hk i x (by omega)) hc (Int.le_refl 0) (by omega) h
theorem rjPm_at {S : Nat → Int → Int} {q : rkQ} {L2 : List rkQ} : ∀ {L1 : List rkQ} {k : Int}, rjPm S k (L1 ++ q :: L2) → rjCp S (k + (L1.length : Int)) q
  | [], k, h => by
    simp only [List.length_nil]
    rw [show k + ((0 : Nat) : Int) = k by omega]
    exact h.1
  | x :: L1, k, h => by
    have g := rjPm_at (L1 := L1) h.2
    simp only [List.length_cons]
    rw [show k + ((L1.length + 1 : Nat) : Int) = k + 1 + (L1.length : Int) by omega]
    exact g
end
section
noncomputable def rjWo (r : Int) : Int := if r = -1 then -1 else r / 6
noncomputable def rjNx (r : Int) : Int := if r = -1 then -1 else r % 6
noncomputable def rjVp (st cu r pa mo : Int) (k : Int) : Int := if k = 1 then st else if k = 2 then cu else if k = 3 then rjWo r else if k = 4 then rjNx r else if k = 5 then pa else if k = 6 then mo else 0
theorem rjVp_k {st cu r pa mo : Int} {P : Int → Int → Prop} (h1 : P 1 st) (h2 : P 2 cu) (h3 : P 3 (rjWo r)) (h4 : P 4 (rjNx r)) (h5 : P 5 pa) (h6 : P 6 mo) (h7 : P 7 0) (h8 : P 8 0) : ∀ k : Int, 1 ≤ k → k ≤ 8 → P k (rjVp st cu r pa mo k) := fun k k0 k1 => by
  have e : k = 1 ∨ k = 2 ∨ k = 3 ∨ k = 4 ∨ k = 5 ∨ k = 6 ∨ k = 7 ∨ k = 8 := by omega
  rcases e with rfl | rfl | rfl | rfl | rfl | rfl | rfl | rfl
  · exact h1
  · exact h2
  · exact h3
  · exact h4
  · exact h5
  · exact h6
  · exact h7
  · exact h8
noncomputable def rjS1 (vs : Int → Int) (st : Int) (q : rkQ) (r r_p b : Int) : Prop :=
  (rkFal vs q.2.2.2.2.2 ∧ r_p = r ∧ b = 0) ∨ (rkTru vs q.2.2.2.2.2 ∧ ((q.1 = 4 ∧ r_p = -1 ∧ b = 1) ∨ (q.1 ≠ 4 ∧ ((rkSum vs q.2.2.2.1 none ∧ r_p = r ∧ b = 0) ∨ ∃ x : Int, rkSum vs q.2.2.2.1 (some x) ∧ ((q.2.2.2.2.1 = none ∧ r_p = 6 * rkNear x 9 + st ∧ b = 1) ∨ (rkSum vs q.2.2.2.2.1 none ∧ r_p = r ∧ b = 0) ∨ ∃ y : Int, rkSum vs q.2.2.2.2.1 (some y) ∧ r_p = 6 * rkNear x 9 + rkNear y 5 ∧ b = 1)))))
theorem rkSum_n {vs : Int → Int} {o : Option rkC} {r : Option Int} (h : rkSum vs o r) (e : o = none) : False := by
  obtain ⟨d, h1, -⟩ := h
  rw [e] at h1
  cases h1
theorem rjS1_det {vs : Int → Int} {st r a b a_p b_p : Int} {q : rkQ} (h : rjS1 vs st q r a b) (g : rjS1 vs st q r a_p b_p) : a = a_p ∧ b = b_p := by
  rcases h with ⟨h1, h2, h3⟩ | ⟨h1, h⟩
  · rcases g with ⟨g1, g2, g3⟩ | ⟨g1, -⟩
    · exact ⟨h2.trans g2.symm, h3.trans g3.symm⟩
    · exact (rkTF g1 h1).elim
  rcases g with ⟨g1, -⟩ | ⟨g1, g⟩
  · exact (rkTF h1 g1).elim
  rcases h with ⟨k, h2, h3⟩ | ⟨k, h⟩
  · rcases g with ⟨-, g2, g3⟩ | ⟨k_p, -⟩
    · exact ⟨h2.trans g2.symm, h3.trans g3.symm⟩
    · exact absurd k k_p
  rcases g with ⟨k_p, -⟩ | ⟨-, g⟩
  · exact absurd k_p k
  rcases h with ⟨u, h2, h3⟩ | ⟨x, u, h⟩
  · rcases g with ⟨u_p, g2, g3⟩ | ⟨x_p, u_p, -⟩
    · exact ⟨h2.trans g2.symm, h3.trans g3.symm⟩
    · cases rkSum_det u u_p
  rcases g with ⟨u_p, -⟩ | ⟨x_p, u_p, g⟩
  · cases rkSum_det u u_p
  have ex : x = x_p := Option.some.inj (rkSum_det u u_p)
  subst ex
  rcases h with ⟨n, h2, h3⟩ | ⟨n, h2, h3⟩ | ⟨y, n, h2, h3⟩
  · rcases g with ⟨-, g2, g3⟩ | ⟨n_p, -⟩ | ⟨y_p, n_p, -⟩
    · exact ⟨h2.trans g2.symm, h3.trans g3.symm⟩
    · exact (rkSum_n n_p n).elim
    · exact (rkSum_n n_p n).elim
  · rcases g with ⟨n_p, -⟩ | ⟨n_p, g2, g3⟩ | ⟨y_p, n_p, -⟩
    · exact (rkSum_n n n_p).elim
    · exact ⟨h2.trans g2.symm, h3.trans g3.symm⟩
    · cases rkSum_det n n_p
  · rcases g with ⟨n_p, -⟩ | ⟨n_p, -⟩ | ⟨y_p, n_p, g2, g3⟩
    · exact (rkSum_n n n_p).elim
    · cases rkSum_det n n_p
    · have ey : y = y_p := Option.some.inj (rkSum_det n n_p)
      subst ey
      exact ⟨h2.trans g2.symm, h3.trans g3.symm⟩
noncomputable def rjAt (q : rkQ) (st cu : Int) : Prop := (q.2.1 = 6 ∨ q.2.1 = st) ∧ (q.2.2.1 = 6 ∨ q.2.2.1 = cu)
noncomputable def rjS (pa mo : Int) (q : rkQ) (t r r_p b : Int) : Prop := (rjAt q (t / 6) (t % 6) ∧ rjS1 (rjVp (t / 6) (t % 6) r pa mo) (t / 6) q r r_p b) ∨ (¬ rjAt q (t / 6) (t % 6) ∧ r_p = r ∧ b = 0)
theorem rjS_det {pa mo t r a b a_p b_p : Int} {q : rkQ} (h : rjS pa mo q t r a b) (g : rjS pa mo q t r a_p b_p) : a = a_p ∧ b = b_p := by
  rcases h with ⟨h1, h2⟩ | ⟨h1, h2, h3⟩
  · rcases g with ⟨-, g2⟩ | ⟨g1, -⟩
    · exact rjS1_det h2 g2
    · exact absurd h1 g1
  · rcases g with ⟨g1, -⟩ | ⟨-, g2, g3⟩
    · exact absurd g1 h1
    · exact ⟨h2.trans g2.symm, h3.trans g3.symm⟩
noncomputable def rjP (pa mo : Int) (q : rkQ) : Nat → (Int → Int) → Int → (Int → Int) → Int → Prop
  | 0, s, n, s_p, n_p => s_p = s ∧ n_p = n
  | j + 1, s, n, s_p, n_p => ∃ r b : Int, rjS pa mo q (35 - (j : Int)) (s (35 - (j : Int))) r b ∧ rjP pa mo q j (rkUp s (35 - (j : Int)) r) (n + b) s_p n_p
noncomputable def rjL (pa mo : Int) : List rkQ → (Int → Int) → Int → (Int → Int) → Int → Prop
  | [], s, n, s_p, n_p => s_p = s ∧ n_p = n
  | q :: L, s, n, s_p, n_p => ∃ (s1 : Int → Int) (n1 : Int), rjP pa mo q 36 s n s1 n1 ∧ rjL pa mo L s1 n1 s_p n_p
theorem rjP_det {pa mo : Int} {q : rkQ} : ∀ (j : Nat) {s s1 s2 : Int → Int} {n n1 n2 : Int}, rjP pa mo q j s n s1 n1 → rjP pa mo q j s n s2 n2 → s1 = s2 ∧ n1 = n2
  | 0, _, _, _, _, _, _, h, g => ⟨h.1.trans g.1.symm, h.2.trans g.2.symm⟩
  | j + 1, _, _, _, _, _, _, h, g => by
    obtain ⟨r, b, h1, h2⟩ := h
    obtain ⟨r_p, b_p, g1, g2⟩ := g
    obtain ⟨e1, e2⟩ := rjS_det h1 g1
    subst e1
    subst e2
    exact rjP_det j h2 g2
theorem rjL_det {pa mo : Int} : ∀ {L : List rkQ} {s s1 s2 : Int → Int} {n n1 n2 : Int}, rjL pa mo L s n s1 n1 → rjL pa mo L s n s2 n2 → s1 = s2 ∧ n1 = n2
  | [], _, _, _, _, _, _, h, g => ⟨h.1.trans g.1.symm, h.2.trans g.2.symm⟩
  | q :: L, _, _, _, _, _, _, h, g => by
    obtain ⟨u, m, h1, h2⟩ := h
    obtain ⟨u_p, m_p, g1, g2⟩ := g
    obtain ⟨e1, e2⟩ := rjP_det 36 h1 g1
    subst e1
    subst e2
    exact rjL_det h2 g2
noncomputable def rjSc (R : Int → Int) (b : Int) (t : Int) : Int := if 0 ≤ t ∧ t < 36 then R (b + t) else 0
theorem rjSc_in {R : Int → Int} {b t : Int} (h0 : 0 ≤ t) (h1 : t < 36) : rjSc R b t = R (b + t) := if_pos ⟨h0, h1⟩
theorem rjSc_cg {R R_p : Int → Int} {b : Int} (h : ∀ t : Int, 0 ≤ t → t < 36 → R_p (b + t) = R (b + t)) : rjSc R_p b = rjSc R b := funext fun t => by
  unfold rjSc
  by_cases c : 0 ≤ t ∧ t < 36
  · rw [if_pos c, if_pos c]
    exact h t c.1 c.2
  · rw [if_neg c, if_neg c]
theorem rjSc_up {R R_p : Int → Int} {b k r : Int} (k0 : 0 ≤ k) (k1 : k < 36) (h : ∀ t : Int, 0 ≤ t → t < 36 → R_p (b + t) = if t = k then r else R (b + t)) : rjSc R_p b = rkUp (rjSc R b) k r := funext fun t => by
  have e : rkUp (rjSc R b) k r t = if t = k then r else rjSc R b t := rfl
  rw [e]
  by_cases c : 0 ≤ t ∧ t < 36
  · rw [rjSc_in c.1 c.2, rjSc_in c.1 c.2]
    exact h t c.1 c.2
  · have e0 : ∀ Q : Int → Int, rjSc Q b t = 0 := fun Q => if_neg c
    rw [e0, e0, if_neg (by omega)]
noncomputable def rjGo (pa mo : Int) (L0 : List rkQ) (s0 : Int → Int) (L : List rkQ) (s : Int → Int) (n : Int) : Prop := ∀ (s_p : Int → Int) (n_p : Int), rjL pa mo L s n s_p n_p → rjL pa mo L0 s0 0 s_p n_p
noncomputable def rjGp (pa mo : Int) (L0 : List rkQ) (s0 : Int → Int) (q : rkQ) (j : Nat) (L : List rkQ) (s : Int → Int) (n : Int) : Prop := ∀ (s1 s_p : Int → Int) (n1 n_p : Int), rjP pa mo q j s n s1 n1 → rjL pa mo L s1 n1 s_p n_p → rjL pa mo L0 s0 0 s_p n_p
theorem rjGo_0 {pa mo : Int} {L : List rkQ} {s : Int → Int} : rjGo pa mo L s L s 0 := fun _ _ h => h
theorem rjGo_q {pa mo n : Int} {L0 L : List rkQ} {s0 s : Int → Int} {q : rkQ} (h : rjGo pa mo L0 s0 (q :: L) s n) : rjGp pa mo L0 s0 q 36 L s n := fun s1 s_p n1 n_p a b => h s_p n_p ⟨s1, n1, a, b⟩
theorem rjGp_s {pa mo n r b : Int} {L0 L : List rkQ} {s0 s : Int → Int} {q : rkQ} {j : Nat} (h : rjGp pa mo L0 s0 q (j + 1) L s n) (g : rjS pa mo q (35 - (j : Int)) (s (35 - (j : Int))) r b) : rjGp pa mo L0 s0 q j L (rkUp s (35 - (j : Int)) r) (n + b) := fun s1 s_p n1 n_p a c => h s1 s_p n1 n_p ⟨r, b, g, a⟩ c
theorem rjGp_e {pa mo n : Int} {L0 L : List rkQ} {s0 s : Int → Int} {q : rkQ} (h : rjGp pa mo L0 s0 q 0 L s n) : rjGo pa mo L0 s0 L s n := fun s_p n_p a => h s s_p n n_p ⟨rfl, rfl⟩ a
theorem rjGo_e {pa mo n : Int} {L0 : List rkQ} {s0 s : Int → Int} (h : rjGo pa mo L0 s0 [] s n) : rjL pa mo L0 s0 0 s n := h s n ⟨rfl, rfl⟩
theorem rjGp_k {pa mo n : Int} {L0 L : List rkQ} {s0 s : Int → Int} {q : rkQ} {j : Nat} (h : rjGp pa mo L0 s0 q (j + 1) L s n) (g : ¬ rjAt q ((35 - (j : Int)) / 6) ((35 - (j : Int)) % 6)) : rjGp pa mo L0 s0 q j L s n := by
  have a := rjGp_s h (r := s (35 - (j : Int))) (b := 0) (Or.inr ⟨g, rfl, rfl⟩)
  have e : rkUp s (35 - (j : Int)) (s (35 - (j : Int))) = s := funext fun t => by
    unfold rkUp
    by_cases c : t = 35 - (j : Int)
    · rw [if_pos c, c]
    · rw [if_neg c]
  rw [e, Int.add_zero] at a
  exact a
noncomputable def rjQl (q : rkQ) : Prop := (q.1 = 3 ∨ q.1 = 4) ∧ (q.1 ≠ 4 → ∃ d : rkC, q.2.2.2.1 = some d) ∧ (∀ d : rkC, q.2.2.2.1 = some d → rkWm d false ∧ rjN 6 d) ∧ (∀ d : rkC, q.2.2.2.2.1 = some d → rkWm d false ∧ rjN 6 d) ∧ ∀ d : rkC, q.2.2.2.2.2 = some d → rkWm d true ∧ rjN 6 d
theorem rkSum_v {vs vs_p : Int → Int} {o : Option rkC} {r : Option Int} (hn : ∀ d : rkC, o = some d → rjN 6 d) (hv : ∀ k : Int, 1 ≤ k → k ≤ 6 → vs k = vs_p k) (h : rkSum vs o r) : rkSum vs_p o r := by
  obtain ⟨d, e, h⟩ := h
  have n := hn d e
  rcases h with ⟨h1, h2⟩ | ⟨x, h1, h2⟩
  · exact ⟨d, e, Or.inl ⟨h1, rkEv_v (by decide) n hv h2⟩⟩
  · exact ⟨d, e, Or.inr ⟨x, h1, rkEv_v (by decide) n hv h2⟩⟩
theorem rkTru_v {vs vs_p : Int → Int} {o : Option rkC} (hn : ∀ d : rkC, o = some d → rjN 6 d) (hv : ∀ k : Int, 1 ≤ k → k ≤ 6 → vs k = vs_p k) (h : rkTru vs o) : rkTru vs_p o := by
  cases o with
  | none => trivial
  | some d => exact rkEv_v (by decide) (hn d rfl) hv h
theorem rkFal_v {vs vs_p : Int → Int} {o : Option rkC} (hn : ∀ d : rkC, o = some d → rjN 6 d) (hv : ∀ k : Int, 1 ≤ k → k ≤ 6 → vs k = vs_p k) (h : rkFal vs o) : rkFal vs_p o := by
  cases o with
  | none => exact h
  | some d => exact h.imp (fun g => rkEv_v (by decide) (hn d rfl) hv g) (fun g => rkEv_v (by decide) (hn d rfl) hv g)
theorem rjS1_v {vs vs_p : Int → Int} {st r r_p b : Int} {q : rkQ} (hq : rjQl q) (hv : ∀ k : Int, 1 ≤ k → k ≤ 6 → vs k = vs_p k) (h : rjS1 vs st q r r_p b) : rjS1 vs_p st q r r_p b := by
  have a1 := fun d e => (hq.2.2.1 d e).2
  have a2 := fun d e => (hq.2.2.2.1 d e).2
  have a3 := fun d e => (hq.2.2.2.2 d e).2
  rcases h with ⟨h1, h2⟩ | ⟨h1, h⟩
  · exact Or.inl ⟨rkFal_v a3 hv h1, h2⟩
  refine Or.inr ⟨rkTru_v a3 hv h1, ?_⟩
  rcases h with h | ⟨k, h⟩
  · exact Or.inl h
  refine Or.inr ⟨k, ?_⟩
  rcases h with ⟨u, h⟩ | ⟨x, u, h⟩
  · exact Or.inl ⟨rkSum_v a1 hv u, h⟩
  refine Or.inr ⟨x, rkSum_v a1 hv u, ?_⟩
  rcases h with h | ⟨n, h⟩ | ⟨y, n, h⟩
  · exact Or.inl h
  · exact Or.inr (Or.inl ⟨rkSum_v a2 hv n, h⟩)
  · exact Or.inr (Or.inr ⟨y, rkSum_v a2 hv n, h⟩)
end
section
theorem rzPH_lf {T : Int → Int} {n f lf : Int} {ws : List (List Int)} {r : rzR} (h : rzPH T n ws f lf r) (h0 : 0 ≤ lf) (h50 : lf ≤ 50) : 0 ≤ r.2.2 ∧ r.2.2 ≤ 50 := by
  have no : ∀ {a : Int}, r = (false, a, lf) → 0 ≤ r.2.2 ∧ r.2.2 ≤ 50 := fun e => by
    rw [e]
    exact ⟨h0, h50⟩
  rcases h with ⟨-, h⟩ | ⟨-, h⟩
  · rcases h with ⟨-, h⟩ | ⟨-, h⟩
    · rcases h with ⟨-, h⟩ | ⟨-, h⟩
      · rcases h with ⟨-, h⟩ | ⟨-, h⟩
        · rcases h with ⟨-, h⟩ | ⟨-, h⟩
          · rw [h]
            exact ⟨h0, h50⟩
          · rcases h with ⟨-, r1, g1, g2⟩ | ⟨-, h⟩
            · have b := rzEx_lf g1 h0 h50
              rcases g2 with ⟨-, g2⟩ | ⟨-, g2⟩
              · rw [g2]
                exact b
              · rcases g2 with ⟨-, g2⟩ | ⟨-, g2⟩
                · exact rzEx_lf g2 b.1 b.2
                · rw [g2]
                  exact b
            · exact no h
        · exact no h
      · exact no h
    · exact no h
  · exact no h
theorem rkTx_pl {T : Int → Int} {n : Int} : ∀ {c : Nat} {f lf : Int} {L : List rkQ}, 0 ≤ lf → lf ≤ 50 → rkTx true T n c f lf L → ∀ q ∈ L, rjQl q
  | 0, _, _, _, _, _, h => h.elim
  | c + 1, f, lf, L, h0, h50, h => by
    obtain ⟨r, r2, q, t, L_p, a1, a2, a3, a4, a5, a6⟩ := h
    have a1 : rzPH T n rzPn f lf r := a1
    have a2 : rkPH T n rzPn f lf q := a2
    have a3 : rzIf T n rzPn r.2.1 r.2.2 r2 := a3
    have a4 : rkIf T n rzPn r.2.1 r.2.2 t := a4
    have b1 := rzPH_lf a1 h0 h50
    have b2 := rzIf_lf a3 b1.1 b1.2
    have hw : rzPn.length ≤ 8 := by decide
    have hw6 : (rzPn.length : Int) ≤ 6 := by decide
    have ht : ∀ d : rkC, t = some d → rkWm d true ∧ rjN 6 d := fun d e => by
      rcases a4 with ⟨-, d_p, x, y⟩ | ⟨-, y⟩
      · rw [y] at e
        cases e
        exact ⟨rkEx_wm hw (Or.inr rfl) b1.1 b1.2 (rkEx_w hw x) x, rjEx_w (by decide) hw6 x⟩
      · rw [y] at e
        cases e
    have hq : rjQl (q.1, q.2.1, q.2.2.1, q.2.2.2.1, q.2.2.2.2.1, t) := by
      obtain ⟨f1, f2, f3, f4, -, -, -, -, a2⟩ := a2
      rcases a2 with ⟨-, y⟩ | ⟨-, d, s, g, x, sx, hg, y⟩
      · subst y
        exact ⟨Or.inr rfl, fun e => absurd rfl e, fun d e => (by cases e), fun d e => (by cases e), ht⟩
      · subst y
        have bs := rzEx_lf sx h0 h50
        refine ⟨Or.inl rfl, fun _ => ⟨d, rfl⟩, fun d_p e => ?_, fun d_p e => ?_, ht⟩
        · cases e
          exact ⟨rkEx_wm hw (Or.inl rfl) h0 h50 (rkEx_w hw x) x, rjEx_w (by decide) hw6 x⟩
        · rcases hg with ⟨-, d2, x2, y2⟩ | ⟨-, y2⟩
          · have e : g = some d_p := e
            rw [y2] at e
            cases e
            exact ⟨rkEx_wm hw (Or.inl rfl) bs.1 bs.2 (rkEx_w hw x2) x2, rjEx_w (by decide) hw6 x2⟩
          · have e : g = some d_p := e
            rw [y2] at e
            cases e
    subst a5
    intro q_p hm
    rcases List.mem_cons.mp hm with e | e
    · subst e
      exact hq
    · rcases a6 with ⟨-, y⟩ | ⟨-, y⟩
      · exact rkTx_pl b2.1 b2.2 y q_p e
      · rw [y] at e
        cases e
theorem rkText_pl {T : Int → Int} {n : Int} {L : List rkQ} (h : rkText true T n L) : ∀ q ∈ L, rjQl q := rkTx_pl (Int.le_refl 0) (by decide) h
end
