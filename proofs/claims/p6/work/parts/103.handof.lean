/-! CONTRACTS BY HAND over the two classes -/
theorem bx_okH_ex {dmf : Nat → Int → Bool} {ret : Option (Nat × bx_T)} {tab : List bx_HE} {q : bx_HE} {r1 r2 : (rx_Z → Bool) → rx_Z → Option (List rx_End)} (hr : ∀ cut z Es, r1 cut z = some Es → r2 cut z = some Es) (h : bx_okH dmf ret tab q r1 = true) : bx_okH dmf ret tab q r2 = true := by
  unfold bx_okH at h ⊢
  rw [Bool.and_eq_true, Bool.and_eq_true] at h ⊢
  refine ⟨h.1, h.2.1, ?_⟩
  have h2 := h.2.2
  split at h2
  · rename_i Es hEs
    rw [hr _ _ _ hEs]
    exact h2
  · exact absurd h2 Bool.false_ne_true
theorem bx_chkH_ex {B : bx_B} {M : rx_Mt} {ct : bx_Ct} {tab : List bx_HE} {us : bx_HE → Bool} {r1 r2 : (rx_Z → Bool) → rx_Z → Option (List rx_End)} (hr : ∀ cut z Es, r1 cut z = some Es → r2 cut z = some Es) (h : bx_chkH B M ct tab (us, r1) = true) : bx_chkH B M ct tab (us, r2) = true := by
  unfold bx_chkH at h ⊢
  split at h
  · split at h
    · rw [Bool.and_eq_true, Bool.and_eq_true] at h ⊢
      refine ⟨h.1, h.2.1, List.all_eq_true.mpr fun q hq => ?_⟩
      have h3 := List.all_eq_true.mp h.2.2 q hq
      rw [Bool.and_eq_true, Bool.or_eq_true] at h3 ⊢
      exact ⟨h3.1, h3.2.imp id (bx_okH_ex hr)⟩
    · exact absurd h Bool.false_ne_true
  · exact absurd h Bool.false_ne_true
section RXQ
variable {PX : State → Prop} {Dg : va_G} {A : Nat → Prop} {ad xa : Nat → Nat} {l : Launch} {X : (Nat → Int → Int) → Prop}
theorem rxQof {Cn : Nat → List bx_Ct} {f j : Nat} {M : rx_Mt} {ct : bx_Ct} {tab : List bx_HE} {us : bx_HE → Bool} {P : (Nat → Int → Int) → List Int → Prop} {PS : (Nat → Int → Int) → List Int → (Nat → Int → Int) → Option Int → Prop}
    (hPX : rx_PXOK rxNW A PX) (hsl : ∀ s : State, PX s → ∀ o idx n : Nat, rxSl o idx = some n → ∃ tx : String, vk_R (rxNm o) idx tx (ad n) s)
    (hX : ∀ S S_p : Nat → Int → Int, X S → bx_same rxL (bx_mdl ct.2.2.1) S S_p → X S_p)
    (ih : ∀ (j2 : Nat) (ct2 : bx_Ct) (M2 : rx_Mt), ct2 ∈ Cn j2 → ct2.2.2.2.1 + 1 ≤ ct.2.2.2.1 → rxT.2.2.2.2.2 j2 = some M2 → bx_Con rxG rxNW rxAO PX Dg rxL X vwCl A ad l M2 ct2)
    (hj : rxT.2.2.2.2.2 j = some M) (hc : bx_chkH (rxV, rxNP, rxDmf, bx_mdH ct.2.2.1) M ct tab (us, fun cut z => rx_ex2 (rxCT (rxV, rxNP, rxDmf, bx_mdH ct.2.2.1) Cn) cut f ct.2.2.2.1 j z) = true)
    (inv : (Nat → Int → Int) → List Int → Nat → bx_SP) (mea : (Nat → Int → Int) → List Int → Nat → (Nat → Int → Int) → (Nat → Int) → Nat)
    (h0 : ∀ (S0 : Nat → Int → Int) (ws : List Int) (r : Nat → Int) (I0 I : rx_I) (ht0 ht : List rx_C) (as : List rx_V), bx_ent0 rxNP ct.1 bx_I0 [] = some (I0, ht0, as) → bx_ent1 (rxV, rxNP, rxDmf, bx_mdH ct.2.2.1) ct.2.2.2.2 I0 ht0 = some (I, ht) → X S0 → bx_Inv rxL S0 → P S0 ws → rx_sat I r → as.map (bx_num r) = ws → inv S0 ws 0 S0 r)
    (hU : ∀ (S0 : Nat → Int → Int) (ws : List Int), P S0 ws → ∀ (i : Nat) (q : bx_HE), tab[i]? = some q → us q = true → ∀ {p : Program} {e : Env} {R : Room} {s : State} {m : MethodId} {args : Array Value} {below : List Frame} {meth : Method} {c : Code} {Q : State → Prop} {H0 : Heap}, rx_Fr rxG rxNW rxAO PX p s m args meth c M → (∀ q, H0.size ≤ q → A q) → H0 = s.heap → M.2.2.2.2.2.2.1 ≤ R.cells → M.2.2.2.2.2.2.2 ≤ R.slots → ct.2.2.2.1 ≤ R.frames → ct.2.2.2.1 * 40 ≤ R.locals → bx_Step p l e R s m args below meth c Q Dg rxL X vwCl A xa H0 ad M tab (inv S0 ws) (mea S0 ws) S0 ct.2.2.1 i q)
    (hC : ∀ (S0 : Nat → Int → Int) (ws : List Int), P S0 ws → bx_allI (fun i q => us q = true ∨ bx_allP (fun o => bx_obC rxL X S0 ct.2.2.1 (inv S0 ws) (mea S0 ws) i q.1 o) q.2.1) 0 tab)
    (hE : ∀ (S0 : Nat → Int → Int) (ws : List Int), P S0 ws → bx_allI (fun i q => us q = true ∨ bx_allP (fun E => bx_obE rxL X S0 ct.2.2.1 (inv S0 ws) (PS S0 ws) i q.1 E) q.2.2) 0 tab) :
    bx_ConP rxG rxNW rxAO PX Dg rxL X vwCl A ad l M ct P PS := by
  have hmea : ∀ S0 ws, P S0 ws → ∀ (i : Nat) (q : bx_HE), tab[i]? = some q → us q = false → ∀ o ∈ q.2.1, bx_obC rxL X S0 ct.2.2.1 (inv S0 ws) (mea S0 ws) i q.1 o := fun S0 ws hP i q hq hus o ho => by
    have h1 := bx_allI_ok (hC S0 ws hP) hq
    rw [Nat.zero_add] at h1
    rcases h1 with h1 | h1
    · rw [h1] at hus
      cases hus
    · exact bx_allP_ok h1 o ho
  intro S0 ws
  have main := @bx_conH (rxV, rxNP, rxDmf, bx_mdH ct.2.2.1) rxG rxNW rxAO vwCl rxT rxNm (bx_xh (rxV, rxNP, rxDmf, bx_mdH ct.2.2.1) rxT Cn rxCp rxSl) l Dg rxL A xa PX X ad f j M ct tab (fun S0' ws' => S0' = S0 ∧ ws' = ws ∧ P S0 ws) PS rxGgood hPX rxFr_ok rxKc_ok rxMl_ok rxCj_ok rxVok rfl rfl rfl rxHcl hX
    (fun S0 hX0 => bx_xh_ok rxVok rfl (bx_hook_ok rxGgood hPX rxMl_ok rxCj_ok rxVok rfl rfl rfl (fun S hs => hX S0 S hX0 (bx_mdH_same rxHcl hs)) (fun j2 ct2 M2 hc hd2 hM => ih j2 ct2 M2 hc hd2 hM)) rxCp_ok rxMw_ok rxCw_ok hsl)
    hj us (bx_chkH_ex (fun cut z Es h => rx_ex2_ok (fun j M pc e hm he => rxCT_ok j M pc e hm he) f ct.2.2.2.1 j cut M z Es hj h) hc) inv (mea S0 ws)
    (fun S0' ws' r I0 I ht0 ht as g1 g2 g3 g4 g5 g6 g7 => h0 S0' ws' r I0 I ht0 ht as g1 g2 g3 g4 (by obtain ⟨rfl, rfl, g⟩ := g5; exact g) g6 g7)
    (fun S0' ws' hP i q hq hus => by
      obtain ⟨rfl, rfl, hP⟩ := hP
      exact hU S0' ws' hP i q hq hus)
    (fun S0' ws' hP i q hq hus o ho => by
      obtain ⟨rfl, rfl, hP⟩ := hP
      exact hmea S0' ws' hP i q hq hus o ho)
    (fun S0' ws' hP i q hq hus E hE1 => by
      obtain ⟨rfl, rfl, hP⟩ := hP
      have h1 := bx_allI_ok (hE S0' ws' hP) hq
      rw [Nat.zero_add] at h1
      rcases h1 with h1 | h1
      · rw [h1] at hus
        cases hus
      · exact bx_allP_ok h1 E hE1)
  intro hX0 hargs hpre hP Qc hQc
  exact main S0 ws hX0 hargs hpre ⟨rfl, rfl, hP⟩ Qc hQc
end RXQ
section RXST
variable {PX : State → Prop} {Dg : va_G} {A : Nat → Prop} {ad xa : Nat → Nat} {l : Launch} {X : (Nat → Int → Int) → Prop}
variable {p : Program} {e : Env} {R : Room} {s : State} {m : MethodId} {args : Array Value} {below : List Frame} {meth : Method} {c : Code} {Q : State → Prop} {H0 : Heap}
/-- at a store by hand: what is to be shown, in plain words -/
def rx_obS (X : (Nat → Int → Int) → Prop) (Sin : Nat → Int → Int) (ms : List (Nat × Nat)) (inv : Nat → bx_SP) (mea : Nat → (Nat → Int → Int) → (Nat → Int) → Nat) (i i_p : Nat) (z : rx_Z) (pl a b : Nat) : Prop :=
  ∀ (S : Nat → Int → Int) (r : Nat → Int), inv i S r → X S → bx_Inv rxL S → bx_same rxL (bx_mdl ms) Sin S → rx_sat z.1 r → rx_facts z.2.1 r →
    bx_okT rxL (rxL.2.2.1 pl (r a)) (r b) ∧ inv i_p (bx_up S pl (r a) (r b)) r ∧ mea i_p (bx_up S pl (r a) (r b)) r < mea i S r ∧ X (bx_up S pl (r a) (r b)) ∧ bx_same rxL (bx_mdl ms) Sin (bx_up S pl (r a) (r b))
theorem rx_stepS {M : rx_Mt} {tab : List bx_HE} {inv : Nat → bx_SP} {mea : Nat → (Nat → Int → Int) → (Nat → Int) → Nat} {Sin : Nat → Int → Int} {ms : List (Nat × Nat)} {i i_p : Nat} {z : rx_Z} {os : List bx_HO} {es : List (rx_End × List (Nat × Int × Int))} {q_p : bx_HE} {pl a b n g : Nat} {lo hi : Int} {ty : bx_T} {t : List rx_V}
    (hF : rx_Fr rxG rxNW rxAO PX p s m args meth c M) (hdg : decode M.2.1 (rx_zpc z) = .ok (.iastore, 1)) (hne : bx_noE z.2.2.1 = true) (hst : rx_zst z = .inr (0, (b, 0)) :: .inr (0, (a, 0)) :: .inr (3, (0, (pl : Int))) :: t)
    (hk : rxV.1 none (pl : Int) = some (.inr (0, n, g))) (hbi : rx_bi z.1 (a, 0) = some (lo, hi)) (c3 : 0 ≤ lo) (c4 : hi < (n : Int)) (c5 : bx_fits rxDmf z.1 z.2.2.1 0 0 ty (.inr (0, (b, 0))) = true)
    (htab : tab[i_p]? = some q_p) (hq' : rx_nxh (z.2.2.1.filter (bx_keepR rxV z.2.2.1 lo hi g)) z 1 t = q_p.1) (hob : rx_obS X Sin ms inv mea i i_p z pl a b) :
    bx_Step p l e R s m args below meth c Q Dg rxL X vwCl A xa H0 ad M tab inv mea Sin ms i (z, os, es) := by
  intro S r H locs ls hinv hXS hsin hR K
  obtain ⟨Sq, ⟨ws0, tys0, hInv0, hrest0⟩, -, ⟨-, hch0⟩, -⟩ := id hR.2.2.2.1
  have eSq : Sq = S := bx_noE_eq hne (hch0 rfl)
  rw [eSq] at hInv0
  have hInv0 : bx_Inv rxL S := hInv0
  have h0 : r 0 = 0 := hR.1.1
  obtain ⟨o1, o2, o3, o4, o5⟩ := hob S r hinv hXS hInv0 hsin hR.1 hR.2.1
  have ea : rx_ev r (a, 0) = r a := Int.add_zero _
  have eb : bx_num r (.inr (0, (b, 0))) = r b := Int.add_zero _
  have ep : (rx_ev r (0, (pl : Int))).toNat = pl := by
    show (r 0 + (pl : Int)).toNat = pl
    rw [h0, Int.zero_add]
    rfl
  refine bx_storeI (V := rxV) (dmf := rxDmf) (v := .inr (0, (b, 0))) (ix := (a, 0)) (e0 := (0, (pl : Int))) (t := t) (d := none) (n := n) (g := g) (lo := lo) (hi := hi) (ty := ty) hF.1 hF.2.1 rfl rxVok rfl hdg hne hR hst rfl hk hbi c3 c4 c5 ?_ fun H1 locs1 hR1 => ?_
  · rw [ea, eb, ep]
    exact o1
  · rw [ea, eb, ep, hq'] at hR1
    have := K i_p q_p (bx_up S pl (r a) (r b)) r H1 locs1 ls htab o2 o3 o4 o5 hR1
    rw [← hq'] at this
    obtain ⟨zI, zF, zh, zc, zs, zp, zl, zt⟩ := z
    exact this
end RXST
/-- nothing of a group may be written -/
def bx_noG (ms : List (Nat × Nat)) (c : Nat) : Bool := ms.all (fun q => !(q.1 == c))
theorem bx_noG_ok {ms : List (Nat × Nat)} {c : Nat} (h : bx_noG ms c = true) (k : Nat) : bx_mdl ms c k = false := by
  unfold bx_mdl
  refine Bool.eq_false_iff.mpr fun h2 => ?_
  obtain ⟨q, h3, h4⟩ := List.any_eq_true.mp h2
  have h5 := List.all_eq_true.mp h q h3
  rw [Bool.and_eq_true] at h4
  rw [h4.1] at h5
  cases h5
/-- slots that may not be written, of a row, of an object -/
theorem rx_sameR {ms : List (Nat × Nat)} {S0 S : Nat → Int → Int} (h : bx_same rxL (bx_mdl ms) S0 S) {p tc n g : Nat} {j : Int} (hk : rxL.1 p = .inr (tc, n, g)) (hp : p < 522) (h1 : bx_noG ms (1000 + g) = true) (h2 : bx_noG ms (1000 + g) = true) (h0 : 0 ≤ j) (hj : j < (n : Int)) : S p j = S0 p j := by
  have := h p j.toNat hp (by rw [hk]; show j.toNat < n; omega) (by
    rw [hk]
    exact bx_noG_ok h1 _)
  rw [show ((j.toNat : Nat) : Int) = j by omega] at this
  exact this
theorem rx_sameO {ms : List (Nat × Nat)} {S0 S : Nat → Int → Int} (h : bx_same rxL (bx_mdl ms) S0 S) {p ci : Nat} {fs : List Nat} {j : Nat} (hk : rxL.1 p = .inl (ci, fs)) (hp : p < 522) (h1 : bx_mdl ms ci j = false) (hj : j < fs.length) : S p (j : Int) = S0 p (j : Int) :=
  h p j hp (by rw [hk]; exact hj) (by rw [hk]; exact h1)
theorem rx_same_upR {ms : List (Nat × Nat)} {S0 S : Nat → Int → Int} (h : bx_same rxL (bx_mdl ms) S0 S) {p tc n g : Nat} {j v : Int} (hk : rxL.1 p = .inr (tc, n, g)) {lo hi : Int} (h1 : bx_mdr (bx_mdl ms) g lo hi = true) (hl : lo ≤ j) (hu : j ≤ hi) : bx_same rxL (bx_mdl ms) S0 (bx_up S p j v) := fun q i hq hi' hm => by
  by_cases hc : q = p ∧ (i : Int) = j
  · exfalso
    obtain ⟨e1, e2⟩ := hc
    subst e1
    rw [hk] at hm
    have hm : bx_mdl ms (1000 + g) (bx_sk g i) = false := hm
    rw [bx_mdr_ok h1 (by omega) (by omega)] at hm
    cases hm
  · rw [bx_up_ne hc]
    exact h q i hq hi' hm
section RXCL
variable {PX : State → Prop} {Dg : va_G} {A : Nat → Prop} {ad xa : Nat → Nat} {l : Launch} {X : (Nat → Int → Int) → Prop}
variable {p : Program} {e : Env} {R : Room} {s : State} {m : MethodId} {args : Array Value} {below : List Frame} {meth : Method} {c : Code} {Q : State → Prop} {H0 : Heap}
theorem rx_same_sub {ms ms2 : List (Nat × Nat)} {S0 S S_p : Nat → Int → Int} (h : bx_same rxL (bx_mdl ms) S0 S) (hs : ms2.all (fun q => bx_mdl ms q.1 q.2) = true) (h2 : bx_same rxL (bx_mdl ms2) S S_p) : bx_same rxL (bx_mdl ms) S0 S_p := fun p i hp hi hm => by
  have h3 : bx_mdl ms2 (bx_mc (rxL.1 p) i).1 (bx_mc (rxL.1 p) i).2 = false := by
    cases h4 : bx_mdl ms2 (bx_mc (rxL.1 p) i).1 (bx_mc (rxL.1 p) i).2 with
    | false => rfl
    | true =>
      obtain ⟨q, hq, h5⟩ := List.any_eq_true.mp h4
      rw [Bool.and_eq_true, beq_iff_eq, beq_iff_eq] at h5
      have h6 := List.all_eq_true.mp hs q hq
      rw [h5.1, h5.2, hm] at h6
      cases h6
  rw [h2 p i hp hi h3, h p i hp hi hm]
/-- at a call by a contract by hand: what is to be shown -/
def rx_obK (X : (Nat → Int → Int) → Prop) (Sin : Nat → Int → Int) (ms ms2 : List (Nat × Nat)) (inv : Nat → bx_SP) (mea : Nat → (Nat → Int → Int) → (Nat → Int) → Nat) (i i_p : Nat) (z z_p : rx_Z) (as : List rx_V) (n : Option Nat) (P : (Nat → Int → Int) → List Int → Prop) (PS : (Nat → Int → Int) → List Int → (Nat → Int → Int) → Option Int → Prop) : Prop :=
  ∀ (S : Nat → Int → Int) (r : Nat → Int), inv i S r → X S → bx_Inv rxL S → bx_same rxL (bx_mdl ms) Sin S → rx_sat z.1 r → rx_facts z.2.1 r →
    P S (as.map (bx_num r)) ∧ ∀ (S_p : Nat → Int → Int) (w : Option Int) (r_p : Nat → Int), PS S (as.map (bx_num r)) S_p w → X S_p → bx_Inv rxL S_p → bx_same rxL (bx_mdl ms2) S S_p → rx_same z.1.length r r_p → (∀ k, n = some k → w = some (r_p k)) → rx_sat z_p.1 r_p →
      inv i_p S_p r_p ∧ mea i_p S_p r_p < mea i S r
theorem rx_stepC {M M_p : rx_Mt} {tab : List bx_HE} {inv : Nat → bx_SP} {mea : Nat → (Nat → Int → Int) → (Nat → Int) → Nat} {Sin : Nat → Int → Int} {ms : List (Nat × Nat)} {i i_p len d : Nat} {ins : Instr} {z : rx_Z} {os : List bx_HO} {es : List (rx_End × List (Nat × Int × Int))} {q_p : bx_HE} {as t : List rx_V} {ct : bx_Ct} {n : Option Nat} {P : (Nat → Int → Int) → List Int → Prop} {PS : (Nat → Int → Int) → List Int → (Nat → Int → Int) → Option Int → Prop}
    (hPX : rx_PXOK rxNW A PX) (hF : rx_Fr rxG rxNW rxAO PX p s m args meth c M) (hn : rxNm M.1 = M.2.2.2.2.1.cls) (hA : ∀ q, H0.size ≤ q → A q) (hH0 : H0 = s.heap) (hmc : M.2.2.2.2.2.2.1 ≤ R.cells) (hms : M.2.2.2.2.2.2.2 ≤ R.slots) (hd : d ≤ R.frames) (hdl : d * 40 ≤ R.locals)
    (hdg : decode M.2.1 (rx_zpc z) = .ok (ins, len)) (hne : bx_noE z.2.2.1 = true) (hprep : (rx_prep (rxV, rxNP, rxDmf, bx_mdH ms) rxT M ins len z).map (fun x => x.2) = some (M_p, as, t)) (g1 : ct.2.2.2.1 + 1 ≤ d) (g2 : bx_fitP (rxV, rxNP, rxDmf, bx_mdH ms) z ct as = true)
    (hC : bx_ConP rxG rxNW rxAO PX Dg rxL X vwCl A ad l M_p ct P PS) (hsub : ct.2.2.1.all (fun q => bx_mdl ms q.1 q.2) = true)
    (htab : tab[i_p]? = some q_p)
    (hq' : (ct.2.1 = none ∧ n = none ∧ q_p.1 = bx_bk M_p z.1 (z.2.2.1.filter (bx_keepC rxV z.2.2.1 ct.2.2.1)) z t) ∨
      ∃ (a : Nat × bx_T) (I2 : rx_I) (ht2 : List rx_C) (kk : Nat), ct.2.1 = some a ∧ n = some z.1.length ∧ 0 < kk ∧ bx_nv a.1 0 rxNP a.2 z.1 (z.2.2.1.filter (bx_keepC rxV z.2.2.1 ct.2.2.1)) = some (I2, ht2, .inr (kk - 1, (z.1.length, 0))) ∧ bx_noE ht2 = true ∧ q_p.1 = bx_bk M_p I2 ht2 z (.inr (kk - 1, (z.1.length, 0)) :: t))
    (hob : rx_obK X Sin ms ct.2.2.1 inv mea i i_p z q_p.1 as n P PS) :
    bx_Step p l e R s m args below meth c Q Dg rxL X vwCl A xa H0 ad M tab inv mea Sin ms i (z, os, es) := by
  intro S r H locs ls hinv hXS hsin hR K
  obtain ⟨⟨jq, M2, as2, t2⟩, hprep, hpe⟩ := Option.map_eq_some_iff.mp hprep
  cases hpe
  obtain ⟨Sq, ⟨ws0, tys0, hInv0, hrest0⟩, -, ⟨-, hch0⟩, -⟩ := id hR.2.2.2.1
  have eSq : Sq = S := bx_noE_eq hne (hch0 rfl)
  rw [eSq] at hInv0
  have hInv0 : bx_Inv rxL S := hInv0
  obtain ⟨o1, o2⟩ := hob S r hinv hXS hInv0 hsin hR.1 hR.2.1
  refine bx_callP (B := (rxV, rxNP, rxDmf, bx_mdH ms)) (md := bx_mdH ms) (M_p := M_p) (q := jq) (d := d) rxGgood hPX rxMl_ok rxCj_ok rxVok rfl rfl rfl hne hXS hF hn hA hH0 hmc hms hd hdl hdg hR hprep g1 g2 hC o1 (fun S_p w H1 locs1 hPS hX_p hI' hsm => ?_) (fun a ha => ?_)
  · refine ⟨fun hr0 hR1 => ?_, fun a I2 ht2 v2 hr0 hnv r_p hrs hw hR1 => ?_⟩
    · rcases hq' with ⟨-, k2, k3⟩ | ⟨a, I2, ht2, kk, k1, -⟩
      · obtain ⟨u1, u2⟩ := o2 S_p w r hPS hX_p hI' hsm rx_same.rf (fun k hk => by rw [k2] at hk; cases hk) (by rw [k3]; obtain ⟨zI, zF, zh, zc, zs, zp, zl, zt⟩ := z; exact hR.1)
        have := K i_p q_p S_p r H1 locs1 ls htab u1 u2 hX_p (rx_same_sub hsin hsub hsm) (by rw [k3]; exact hR1)
        rw [k3] at this
        obtain ⟨zI, zF, zh, zc, zs, zp, zl, zt⟩ := z
        exact this
      · rw [hr0] at k1
        cases k1
    · rcases hq' with ⟨k1, -⟩ | ⟨a', I2', ht2', kk, k1, k2, k3, k4, k5, k6⟩
      · rw [hr0] at k1
        cases k1
      · rw [hr0] at k1
        cases k1
        rw [hnv] at k4
        cases k4
        obtain ⟨u1, u2⟩ := o2 S_p w r_p hPS hX_p hI' hsm hrs (fun k hk => by
          rw [k2] at hk
          cases hk
          rw [hw]
          exact congrArg some (Int.add_zero _)) (by rw [k6]; exact hR1.1)
        have := K i_p q_p S_p r_p H1 locs1 ls htab u1 u2 hX_p (rx_same_sub hsin hsub hsm) (by rw [k6]; exact hR1)
        rw [k6] at this
        obtain ⟨zI, zF, zh, zc, zs, zp, zl, zt⟩ := z
        exact this
  · rcases hq' with ⟨k1, -⟩ | ⟨a', I2', ht2', kk, k1, k2, k3, k4, k5, k6⟩
    · rw [ha] at k1
      cases k1
    · rw [ha] at k1
      cases k1
      exact ⟨_, k4, k5⟩
end RXCL
