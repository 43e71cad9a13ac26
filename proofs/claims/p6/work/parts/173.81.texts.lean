/-! TEXTS OF CONSTANTS, in contracts by hand: String.length and charAt as steps of one's own (wip/sim/genstr.py) -/
def rxLns : List Int := [3, 3, 2, 4, 4, 3, 4, 2, 5, 4, 2, 2, 6, 4, 4, 3, 2, 4, 6, 3, 5, 5, 7, 4, 4]
/-- how long a text is, by its place -/
def rxLn (k : Int) : Int := (rxLns[(k - 522).toNat]?).getD 0
theorem rxLn_box {k : Int} : 0 ≤ rxLn k ∧ rxLn k ≤ 20 := by
  unfold rxLn
  cases h : rxLns[(k - 522).toNat]? with
  | none => exact ⟨Int.le_refl _, by decide⟩
  | some x =>
    have hm := List.mem_of_getElem? h
    have key : rxLns.all (fun x => decide (0 ≤ x) && decide (x ≤ 20)) = true := by decide +kernel
    have g := List.all_eq_true.mp key x hm
    rw [Bool.and_eq_true, decide_eq_true_eq, decide_eq_true_eq] at g
    exact g
theorem rxTxB {v : Int} (h : rxDmf 21 v = true) : 522 ≤ v ∧ v < 547 := by
  unfold rxDmf bx_dmf at h
  rw [show Nat.ble 2000000 21 = false from rfl] at h
  obtain ⟨a, ha, he⟩ := List.any_eq_true.mp h
  have key : (rxDs 21).all (fun a => decide (522 ≤ a) && decide (a < 547)) = true := by decide +kernel
  have g := List.all_eq_true.mp key a ha
  rw [Bool.and_eq_true, decide_eq_true_eq, decide_eq_true_eq] at g
  rw [decide_eq_true_eq] at he
  omega
section RXTX
variable {PX : State → Prop} {Dg : va_G} {A : Nat → Prop} {ad xa av : Nat → Nat} {l : Launch} {X : (Nat → Int → Int) → Prop}
variable {p : Program} {e : Env} {R : Room} {s : State} {m : MethodId} {args : Array Value} {below : List Frame} {meth : Method} {c : Code} {Q : State → Prop} {H0 : Heap}
def rx_obT (X : (Nat → Int → Int) → Prop) (Sin : Nat → Int → Int) (ms : List (Nat × Nat)) (inv : Nat → bx_SP) (mea : Nat → (Nat → Int → Int) → (Nat → Int) → Nat) (i i_p : Nat) (z : rx_Z) (k : rx_E) (idx : Option rx_E) (lo hi : Int) : Prop :=
  ∀ (S : Nat → Int → Int) (r : Nat → Int), inv i S r → X S → bx_Inv rxL S → bx_same rxL (bx_mdl ms) Sin S → rx_sat z.1 r → rx_facts z.2.1 r →
    (522 ≤ rx_ev r k ∧ rx_ev r k < 547) ∧ (∀ a : rx_E, idx = some a → 0 ≤ rx_ev r a ∧ rx_ev r a < rxLn (rx_ev r k)) ∧ ∀ r_p : Nat → Int, rx_same z.1.length r r_p → r_p 0 = 0 → (idx = none → r_p z.1.length = rxLn (rx_ev r k)) → (lo ≤ r_p z.1.length ∧ r_p z.1.length ≤ hi) → inv i_p S r_p ∧ mea i_p S r_p < mea i S r
def rx_hstr (PX : State → Prop) (A : Nat → Prop) (ad av : Nat → Nat) : Prop := ∀ U : State, PX U → ∀ k : Int, 522 ≤ k → k < 547 → rs_T A (ad k.toNat) (av k.toNat) (rxLn k).toNat U
/-- behind a call that left the heap as it was -/
theorem rx_stepT {tab : List bx_HE} {inv : Nat → bx_SP} {mea : Nat → (Nat → Int → Int) → (Nat → Int) → Nat} {Sin : Nat → Int → Int} {ms : List (Nat × Nat)} {i i_p : Nat} {z : rx_Z} {q_p : bx_HE} {lo hi : Int} {t : List rx_V} {S : Nat → Int → Int} {r : Nat → Int} {H : Heap} {locs locs1 : List Loc} {ls : Array Slot} {x : Int32}
    (hXS : X S) (hsin : bx_same rxL (bx_mdl ms) Sin S) (hR : rx_R (Dg, rxL, S, bx_mdH ms) vwCl A s xa rxM59.2.2.1 H0 z r ad H locs ls) (ht2 : ∀ v ∈ t, rx_sc z.1.length z.2.2.1.length v) (hS1 : va_S A H0 H locs1)
    (K : ∀ (i_p : Nat) (q_p : bx_HE) (S_p : Nat → Int → Int) (r_p : Nat → Int) (H' : Heap) (locs' : List Loc) (ls' : Array Slot), tab[i_p]? = some q_p → inv i_p S_p r_p → mea i_p S_p r_p < mea i S r → X S_p → bx_same rxL (bx_mdl ms) Sin S_p → rx_R (Dg, rxL, S_p, bx_mdH ms) vwCl A s xa rxM59.2.2.1 H0 q_p.1 r_p ad H' locs' ls' →
      W p l e R s m args below meth c H' locs' q_p.1.2.2.2.1 q_p.1.2.2.2.2.1 Q (F0 m (rx_zpc q_p.1) ls' ((rx_zst q_p.1).map (rx_iv r_p ad xa))))
    (htab : tab[i_p]? = some q_p) (hq' : rx_nxI (z.1 ++ [(lo, hi)]) z 3 (.inr (0, (z.1.length, 0)) :: t) = q_p.1) (hb : lo ≤ x.toInt ∧ x.toInt ≤ hi) (b2 : inv i_p S (rx_up r z.1.length x.toInt)) (b3 : mea i_p S (rx_up r z.1.length x.toInt) < mea i S r) :
    W p l e R s m args below meth c H locs1 z.2.2.2.1 z.2.2.2.2.1 Q (F0 m (rx_zpc z + 3) ls (.int x :: t.map (rx_iv r ad xa))) := by
  have hR1 : rx_R (Dg, rxL, S, bx_mdH ms) vwCl A s xa rxM59.2.2.1 H0 z r ad H locs1 ls := by
    obtain ⟨h1, h2, h3, ⟨S1, hW, -, h5⟩, h6⟩ := hR
    exact ⟨h1, h2, h3, ⟨S1, hW, hS1, h5⟩, h6⟩
  have hsat := rx_sat_up (lo := lo) (hi := hi) hR1.1 hb.1 hb.2
  have hlen : z.1.length ≤ (z.1 ++ [(lo, hi)]).length := by simp
  have hN := rx_R_nxI (d := 3) (st := .inr (0, (z.1.length, 0)) :: t) hR1 hlen rx_up_same hsat (fun v hv => by
    rcases List.mem_cons.mp hv with h | h
    · subst h
      show z.1.length < (z.1 ++ [(lo, hi)]).length
      simp
    · exact rx_sc.mono (ht2 v h) hlen trivial)
  rw [hq'] at hN
  have k := K i_p q_p S _ H locs1 ls htab b2 b3 hXS hsin hN
  rw [← hq'] at k
  have ev : rx_iv (rx_up r z.1.length x.toInt) ad xa (.inr (0, (z.1.length, 0))) = Value.int x := by
    show Value.int (Int32.ofInt (rx_ev _ (z.1.length, 0))) = _
    unfold rx_ev
    rw [rx_up_self, Int.add_zero, Int32.ofInt_toInt]
  have et := rx_st_ext (ad := ad) (ad' := ad) (xa := xa) ht2 (rx_up_same (r := r) (n := z.1.length) (z := x.toInt)) rx_sameA.rf
  rw [← ev, ← et]
  obtain ⟨zI, zF, zh, zc, zs, zp, zl, zt⟩ := z
  exact k
theorem rx_stepL {tab : List bx_HE} {inv : Nat → bx_SP} {mea : Nat → (Nat → Int → Int) → (Nat → Int) → Nat} {Sin : Nat → Int → Int} {ms : List (Nat × Nat)} {i i_p : Nat} {z : rx_Z} {os : List bx_HO} {es : List (rx_End × List (Nat × Int × Int))} {q_p : bx_HE} {k : rx_E} {lo hi : Int} {t : List rx_V}
    (hstr : rx_hstr PX A ad av) (hPX : rx_PXOK rxNW A PX) (hF : rx_Fr rxG rxNW rxAO PX p s m args meth c rxM59) (hA : ∀ q, H0.size ≤ q → A q) (hH0 : H0 = s.heap) (hd : 4 ≤ R.frames) (hdl : 4 * 40 ≤ R.locals)
    (hdg : decode rxM59.2.1 (rx_zpc z) = .ok (.invokevirtual 238, 3)) (hne : bx_noE z.2.2.1 = true) (hst : rx_zst z = .inr (3, k) :: t) (hct : rx_cats t ≤ 8) (hz : z.2.2.2.1 = 0 ∧ z.2.2.2.2.1 = 0)
    (htab : tab[i_p]? = some q_p) (hq' : rx_nxI (z.1 ++ [(lo, hi)]) z 3 (.inr (0, (z.1.length, 0)) :: t) = q_p.1) (hlh : lo ≤ 0 ∧ 20 ≤ hi) (hob : rx_obT X Sin ms inv mea i i_p z k none lo hi) :
    bx_Step p l e R s m args below meth c Q Dg rxL X vwCl A xa H0 ad rxM59 tab inv mea Sin ms i (z, os, es) := by
  intro S r H locs ls hinv hXS hsin hR K
  obtain ⟨Sq, ⟨ws0, tys0, hInv0, hrest0⟩, hS, ⟨-, hch0⟩, -⟩ := id hR.2.2.2.1
  have eSq : Sq = S := bx_noE_eq hne (hch0 rfl)
  rw [eSq] at hInv0
  have hInv0 : bx_Inv rxL S := hInv0
  obtain ⟨⟨o1, o2⟩, -, o3⟩ := hob S r hinv hXS hInv0 hsin hR.1 hR.2.1
  obtain ⟨hx, hb, hr, hml, hown, hlk, hts, hnw, hao, hpx, hini⟩ := id hF
  have hT := hstr s hpx _ o1 o2
  have hbx := rxLn_box (k := rx_ev r k)
  have hn : (Int32.ofNat (rxLn (rx_ev r k)).toNat).toInt = rxLn (rx_ev r k) := by
    have := nI_toInt (n := (rxLn (rx_ev r k)).toNat) (by omega)
    have e : nI (rxLn (rx_ev r k)).toNat = Int32.ofNat (rxLn (rx_ev r k)).toNat := rfl
    rw [e] at this
    omega
  have hsc := rx_stsc hR
  rw [hst] at hsc
  have ht2 : ∀ v ∈ t, rx_sc z.1.length z.2.2.1.length v := fun v hv => hsc v (List.mem_cons_of_mem _ hv)
  have hrecv : ∃ cell : Cell, H[ad (rx_ev r k).toNat]? = some cell ∧ cell.vm.isStatics = false ∧ s.vm.findClass "java/lang/String" = some cell.cls := by
    have hS2 := hS
    rw [hH0] at hS2
    obtain ⟨cell, g1, g2, g3, -⟩ := hT.1.kept hS2.2.1
    exact ⟨cell, g1, g2, g3⟩
  rw [hst]
  show W p l e R s m args below meth c H locs z.2.2.2.1 z.2.2.2.2.1 Q (F0 m (rx_zpc z) ls (.ref (ad (rx_ev r k).toNat) :: t.map (rx_iv r ad xa)))
  refine rs_go (va_runV (As := []) (b := ad (rx_ev r k).toNat) (rest := t.map (rx_iv r ad xa)) (nL := rxM59.2.2.1) (own := rxM59.2.2.2.2.1.cls) ⟨hx, hb, hml, hown, hts⟩ (rsM_len l A (ad (rx_ev r k).toNat) (av (rx_ev r k).toNat) (rxLn (rx_ev r k)).toNat) ⟨rs_B hts rsK_len rsW_iS (by decide) (by decide +kernel) rsW_mle (by omega) (by omega) (by decide), hts _ rsW_in_len, hts _ rsW_se_len⟩ ⟨rs_blind, hrecv, fun U hU hW => ⟨rfl, hstr U (rx_pre_at hPX hF hA hH0 hR U hU hW).2.2.1 _ o1 o2⟩⟩ rfl rfl (rx_lvh hR).1 rfl (lv_room (by rw [rx_cats_sum]; exact hct)) hdg ⟨by omega, by omega⟩) hS fun w locs1 hw hS1 => ?_
  subst hw
  obtain ⟨b2, b3⟩ := o3 (rx_up r z.1.length (Int32.ofNat (rxLn (rx_ev r k)).toNat).toInt) rx_up_same ((rx_up_same 0 (rx_pos hR.1)).trans hR.1.1) (fun _ => rx_up_self.trans hn) (by rw [rx_up_self, hn]; omega)
  exact rx_stepT hXS hsin hR ht2 hS1 K htab hq' (by rw [hn]; omega) b2 b3
theorem rx_stepC_ {tab : List bx_HE} {inv : Nat → bx_SP} {mea : Nat → (Nat → Int → Int) → (Nat → Int) → Nat} {Sin : Nat → Int → Int} {ms : List (Nat × Nat)} {i i_p : Nat} {z : rx_Z} {os : List bx_HO} {es : List (rx_End × List (Nat × Int × Int))} {q_p : bx_HE} {k ix : rx_E} {lo hi : Int} {t : List rx_V}
    (hstr : rx_hstr PX A ad av) (hPX : rx_PXOK rxNW A PX) (hF : rx_Fr rxG rxNW rxAO PX p s m args meth c rxM59) (hA : ∀ q, H0.size ≤ q → A q) (hH0 : H0 = s.heap) (hd : 4 ≤ R.frames) (hdl : 4 * 40 ≤ R.locals)
    (hdg : decode rxM59.2.1 (rx_zpc z) = .ok (.invokevirtual 242, 3)) (hne : bx_noE z.2.2.1 = true) (hst : rx_zst z = .inr (0, ix) :: .inr (3, k) :: t) (hct : rx_cats t ≤ 8) (hz : z.2.2.2.1 = 0 ∧ z.2.2.2.2.1 = 0)
    (htab : tab[i_p]? = some q_p) (hq' : rx_nxI (z.1 ++ [(lo, hi)]) z 3 (.inr (0, (z.1.length, 0)) :: t) = q_p.1) (hlh : lo ≤ 0 ∧ 255 ≤ hi) (hob : rx_obT X Sin ms inv mea i i_p z k (some ix) lo hi) :
    bx_Step p l e R s m args below meth c Q Dg rxL X vwCl A xa H0 ad rxM59 tab inv mea Sin ms i (z, os, es) := by
  intro S r H locs ls hinv hXS hsin hR K
  obtain ⟨Sq, ⟨ws0, tys0, hInv0, hrest0⟩, hS, ⟨-, hch0⟩, -⟩ := id hR.2.2.2.1
  have eSq : Sq = S := bx_noE_eq hne (hch0 rfl)
  rw [eSq] at hInv0
  have hInv0 : bx_Inv rxL S := hInv0
  obtain ⟨⟨o1, o2⟩, o4, o3⟩ := hob S r hinv hXS hInv0 hsin hR.1 hR.2.1
  obtain ⟨q0, q1⟩ := o4 ix rfl
  obtain ⟨hx, hb, hr, hml, hown, hlk, hts, hnw, hao, hpx, hini⟩ := id hF
  have hT := hstr s hpx _ o1 o2
  have hbx := rxLn_box (k := rx_ev r k)
  have hi1 := bx_toI (a := rx_ev r ix) (by omega)
  have hsc := rx_stsc hR
  rw [hst] at hsc
  have ht2 : ∀ v ∈ t, rx_sc z.1.length z.2.2.1.length v := fun v hv => hsc v (List.mem_cons_of_mem _ (List.mem_cons_of_mem _ hv))
  have hrecv : ∃ cell : Cell, H[ad (rx_ev r k).toNat]? = some cell ∧ cell.vm.isStatics = false ∧ s.vm.findClass "java/lang/String" = some cell.cls := by
    have hS2 := hS
    rw [hH0] at hS2
    obtain ⟨cell, g1, g2, g3, -⟩ := hT.1.kept hS2.2.1
    exact ⟨cell, g1, g2, g3⟩
  rw [hst]
  show W p l e R s m args below meth c H locs z.2.2.2.1 z.2.2.2.2.1 Q (F0 m (rx_zpc z) ls (.int (Int32.ofInt (rx_ev r ix)) :: .ref (ad (rx_ev r k).toNat) :: t.map (rx_iv r ad xa)))
  refine rs_go (va_runV (As := [.int (Int32.ofInt (rx_ev r ix))]) (b := ad (rx_ev r k).toNat) (rest := t.map (rx_iv r ad xa)) (nL := rxM59.2.2.1) (own := rxM59.2.2.2.2.1.cls) ⟨hx, hb, hml, hown, hts⟩ (rsM_chr l A (ad (rx_ev r k).toNat) (av (rx_ev r k).toNat) (rxLn (rx_ev r k)).toNat (Int32.ofInt (rx_ev r ix)) (by rw [hi1]; omega) (by rw [hi1]; omega)) ⟨rs_B (n := 1) hts rsK_chr rsW_iS (by decide) (by decide +kernel) rsW_mch (by omega) (by omega) (by decide), hts _ rsW_in_chr, hts _ rsW_se_chr⟩ ⟨rs_blind, hrecv, fun U hU hW => ⟨rfl, hstr U (rx_pre_at hPX hF hA hH0 hR U hU hW).2.2.1 _ o1 o2⟩⟩ rfl rfl (rx_lvh hR).1 rfl (lv_room (by rw [rx_cats_sum]; exact hct)) hdg ⟨by omega, by omega⟩) hS fun w locs1 hw hS1 => ?_
  obtain ⟨b, rfl⟩ := hw
  obtain ⟨j, hj, e2⟩ := pk_andE b (m := 255) 8 (by decide)
  have hx2 : 0 ≤ (b &&& 255).toInt ∧ (b &&& 255).toInt ≤ 255 := by
    rw [e2, nI_toInt (by omega)]
    omega
  obtain ⟨b2, b3⟩ := o3 (rx_up r z.1.length (b &&& 255).toInt) rx_up_same ((rx_up_same 0 (rx_pos hR.1)).trans hR.1.1) (fun h => by cases h) (by rw [rx_up_self]; omega)
  exact rx_stepT hXS hsin hR ht2 hS1 K htab hq' (by omega) b2 b3
end RXTX
