/-! A ROW IS COPIED at places that the invariants tell, where domains are known beside -/
def rk_dmo (ht : List rx_C) : Bool := ht.all (fun q => !(bx_isE q) && decide (1000000 ≤ q.1.2))
theorem rk_dmo_ne {ht : List rx_C} (h : rk_dmo ht = true) : bx_noE ht = true := List.all_eq_true.mpr fun q hq => by
  have g := List.all_eq_true.mp h q hq
  rw [Bool.and_eq_true] at g
  exact g.1
theorem rk_dmo_kn {L : bx_L} {ad xa : Nat → Nat} {S S_p : Nat → Int → Int} {r : Nat → Int} {ht : List rx_C} (h : rk_dmo ht = true) {q : rx_C} (hq : q ∈ ht) (g : bx_kn L ad xa S r q) : bx_kn L ad xa S_p r q := by
  have k := List.all_eq_true.mp h q hq
  rw [Bool.and_eq_true, decide_eq_true_eq] at k
  unfold bx_kn at g ⊢
  rw [if_pos k.2] at g ⊢
  exact g
/-- may row P0 be copied to P1 -/
def rk_ck (ms : List (Nat × Nat)) (n P0 P1 : Nat) : Bool := match rxL.1 P0, rxL.1 P1, rxV.2.1 none (P0 : Int) 0 ((n : Int) - 1) 1, rxV.2.2 none (P1 : Int) 0 ((n : Int) - 1) 1 with
  | .inr (0, n0, _), .inr (0, n1, g1), some (0, l0, h0), some (0, l1, h1) => Nat.blt P0 522 && (Nat.blt P1 522 && (Nat.beq n0 n && (Nat.beq n1 n && (decide (l1 ≤ l0) && (decide (h0 ≤ h1) && bx_mdr (bx_mdl ms) g1 0 ((n : Int) - 1))))))
  | _, _, _, _ => false
theorem rk_ck_all {ms : List (Nat × Nat)} {n P0 P1 : Nat} (h : rk_ck ms n P0 P1 = true) : ∃ (g0 g1 : Nat) (l0 h0 l1 h1 : Int), P0 < 522 ∧ P1 < 522 ∧ rxL.1 P0 = .inr (0, n, g0) ∧ rxL.1 P1 = .inr (0, n, g1) ∧ rxV.2.1 none (P0 : Int) 0 ((n : Int) - 1) 1 = some (0, l0, h0) ∧ rxV.2.2 none (P1 : Int) 0 ((n : Int) - 1) 1 = some (0, l1, h1) ∧ l1 ≤ l0 ∧ h0 ≤ h1 ∧ bx_mdr (bx_mdl ms) g1 0 ((n : Int) - 1) = true := by
  unfold rk_ck at h
  split at h
  · rename_i n0 g0 n1 g1 l0 h0 l1 h1 e0 e1 e2 e3
    rw [Bool.and_eq_true, Bool.and_eq_true, Bool.and_eq_true, Bool.and_eq_true, Bool.and_eq_true, Bool.and_eq_true, Nat.blt_eq, Nat.blt_eq, decide_eq_true_eq, decide_eq_true_eq] at h
    obtain ⟨a1, a2, a3, a4, a5, a6, a7⟩ := h
    have a3 := Nat.eq_of_beq_eq_true a3
    have a4 := Nat.eq_of_beq_eq_true a4
    subst a3
    subst a4
    exact ⟨g0, g1, l0, h0, l1, h1, a1, a2, e0, e1, e2, e3, a5, a6, a7⟩
  · cases h
theorem rk_ck_ok {ms : List (Nat × Nat)} {n P0 P1 : Nat} (h : rk_ck ms n P0 P1 = true) : ∃ (g0 g1 : Nat) (l0 h0 l1 h1 : Int), P0 < 522 ∧ P1 < 522 ∧ rxL.1 P0 = .inr (0, n, g0) ∧ rxL.1 P1 = .inr (0, n, g1) ∧ rxV.2.1 none (P0 : Int) 0 ((n : Int) - 1) 1 = some (0, l0, h0) ∧ rxV.2.2 none (P1 : Int) 0 ((n : Int) - 1) 1 = some (0, l1, h1) ∧ l1 ≤ l0 ∧ h0 ≤ h1 := by
  obtain ⟨g0, g1, l0, h0, l1, h1, a1, a2, e0, e1, e2, e3, a5, a6, -⟩ := rk_ck_all h
  exact ⟨g0, g1, l0, h0, l1, h1, a1, a2, e0, e1, e2, e3, a5, a6⟩
theorem rk_ck_same {ms : List (Nat × Nat)} {n P0 P1 : Nat} {S0 S : Nat → Int → Int} (h : rk_ck ms n P0 P1 = true) (hs : bx_same rxL (bx_mdl ms) S0 S) : bx_same rxL (bx_mdl ms) S0 (bx_cpS S P0 P1 n) := by
  obtain ⟨g0, g1, l0, h0, l1, h1, -, -, -, e1, -, -, -, -, a7⟩ := rk_ck_all h
  exact rx_same_cp hs e1 a7
section RKZY
variable {G NW : List Jvm.Cond} {AO : List String} {cl : List vw_C} {nm : Nat → String} {A : Nat → Prop} {xa : Nat → Nat} {PX : State → Prop} {l : Launch} {Dg : va_G} {L : bx_L} {md : Nat → Nat → Bool} {S : Nat → Int → Int}
variable {p : Program} {e : Env} {R : Room} {s : State} {m : MethodId} {args : Array Value} {below : List Frame} {meth : Method} {c : Code} {Q : State → Prop} {H0 H : Heap} {locs : List Loc} {ls : Array Slot} {r : Nat → Int} {ad : Nat → Nat}
variable {M : rx_Mt} {z : rx_Z} {idx : Nat}
theorem rk_copyJ {P0 P1 n g0 g1 : Nat} {w0 w1 : rx_E} {t : List rx_V} (hlg : bx_lg md = true) (hht : rk_dmo z.2.2.1 = true) (hF : rx_Fr G NW AO PX p s m args meth c M) (hn : nm M.1 = M.2.2.2.2.1.cls) (hd : 1 ≤ R.frames) (hdl : 40 ≤ R.locals) (hw : Jvm.Cond.methodLink (nm M.1) idx arraycopyName ∈ G ∧ Jvm.Cond.native arraycopyName ∈ G ∧ Jvm.Cond.static arraycopyName ∈ G ∧ Jvm.Cond.initialized "java/lang/System" ∈ G)
    (hdg : decode M.2.1 (rx_zpc z) = .ok (.invokestatic idx, 3)) (hR : rx_R (Dg, L, S, md) cl A s xa M.2.2.1 H0 z r ad H locs ls) (hst : rx_zst z = .inr (0, (0, (n : Int))) :: .inr (0, (0, 0)) :: .inr (3, w1) :: .inr (0, (0, 0)) :: .inr (3, w0) :: t) (e0 : (r w0.1 + w0.2).toNat = P0) (e1 : (r w1.1 + w1.2).toNat = P1)
    (hp0 : P0 < L.2.1) (hp1 : P1 < L.2.1) (hk0 : L.1 P0 = .inr (0, n, g0)) (hk1 : L.1 P1 = .inr (0, n, g1)) (hcat : rx_cats t ≤ 8) (hn2 : n < 2000000000) (hfit : ∀ j : Nat, j < n → bx_okT L (L.2.2.1 P1 (j : Int)) (S P0 (j : Int)))
    (K : ∀ (H1 : Heap) (locs1 : List Loc), rx_R (Dg, L, bx_cpS S P0 P1 n, md) cl A s xa M.2.2.1 H0 (rx_nxh z.2.2.1 z 3 t) r ad H1 locs1 ls → W p l e R s m args below meth c H1 locs1 z.2.2.2.1 z.2.2.2.2.1 Q (F0 m (rx_zpc z + 3) ls (t.map (rx_iv r ad xa)))) :
    W p l e R s m args below meth c H locs z.2.2.2.1 z.2.2.2.2.1 Q (F0 m (rx_zpc z) ls ((rx_zst z).map (rx_iv r ad xa))) := by
  obtain ⟨S1, ⟨ws, tys, hInv, hK, hP, hD, hl, hcell⟩, hS, ⟨-, hch⟩, hkn⟩ := id hR.2.2.2.1
  have eS : S1 = S := bx_noE_eq (rk_dmo_ne hht) (hch hlg)
  subst eS
  have hInv : bx_Inv L S1 := hInv
  have hl : ws.length = L.2.1 := hl
  have h0 : r 0 = 0 := hR.1.1
  obtain ⟨x0, hw0, hce0⟩ := hcell P0 hp0
  obtain ⟨x1, hw1, hce1⟩ := hcell P1 hp1
  have hce0 : bx_cell cl tys ad (L.1 P0) (S1 P0) x0 := hce0
  have hce1 : bx_cell cl tys ad (L.1 P1) (S1 P1) x1 := hce1
  rw [hk0] at hce0
  rw [hk1] at hce1
  obtain ⟨cA0, q0, c0, hx0, hty0, hsh0, hel0⟩ := hce0
  obtain ⟨cA1, q1, c1, hx1, hty1, hsh1, hel1⟩ := hce1
  obtain ⟨f, hf⟩ := hsh0
  obtain ⟨g, hg⟩ := hsh1
  subst hx0; subst hx1; subst hf; subst hg
  obtain ⟨a1, a2⟩ := bx_nN hn2
  have hz0 : (0 : Int) = ((0 : Nat) : Int) := rfl
  obtain ⟨b1, b2⟩ := bx_nN (n := 0) (by decide)
  have hsc := rx_stsc hR
  obtain ⟨hx, hb, hr, hml, hown, hlk, hts, -⟩ := id hF
  rw [hn] at hw
  have hwlen : P1 < ws.length := by rw [hl]; exact hp1
  rw [hst] at hsc ⊢
  have en : r 0 + (n : Int) = (n : Int) := by rw [h0]; omega
  have ez : r 0 + (0 : Int) = ((0 : Nat) : Int) := by rw [h0]; rfl
  show W p l e R s m args below meth c H locs z.2.2.2.1 z.2.2.2.2.1 Q (F0 m (rx_zpc z) ls (.int (Int32.ofInt (r 0 + (n : Int))) :: .int (Int32.ofInt (r 0 + (0 : Int))) :: .ref (ad (r w1.1 + w1.2).toNat) :: .int (Int32.ofInt (r 0 + (0 : Int))) :: .ref (ad (r w0.1 + w0.2).toNat) :: t.map (rx_iv r ad xa)))
  rw [e0, e1, en, ez]
  refine va_copyi hx hb (by rw [hml]; exact (rx_lvh hR).1.symm) hown (hts _ hw.1) (hts _ hw.2.1) (hts _ hw.2.2.1) (hts _ hw.2.2.2) hK hP hD hS _ _ q0 q1 hw0 hw1 hty0 hty1 rfl b1 b1 a1 (by rw [b2, a2]; omega) (by rw [b2, a2]; omega) (fun _ _ => rfl) hd ?_ hdg (fun H1 locs1 hP1 hD1 hS1 => ?_)
  · rw [rx_cats_sum]
    show rx_cats t + (7 + 11) ≤ R.locals
    omega
  · rw [b2, a2] at hP1 hD1
    refine K H1 locs1 ⟨hR.1, hR.2.1, hR.2.2.1, ⟨bx_cpS S1 P0 P1 n, ⟨_, tys, ?_, hK, hP1, hD1, by rw [List.length_set]; exact hl, ?_⟩, hS1, ⟨fun _ _ _ _ _ => rfl, fun _ => bx_noE_chain (rk_dmo_ne hht)⟩, fun q hq => ⟨(hkn q hq).1, (hkn q hq).2.1, rk_dmo_kn hht hq (hkn q hq).2.2⟩⟩, hR.2.2.2.2.1, fun q hq => rx_sc.any (hR.2.2.2.2.2.1 q hq), fun w hw => rx_sc.any (hsc w (List.mem_cons_of_mem _ (List.mem_cons_of_mem _ (List.mem_cons_of_mem _ (List.mem_cons_of_mem _ (List.mem_cons_of_mem _ hw))))))⟩
    · intro p_p j_p hp' hj'
      by_cases hpe : p_p = P1
      · subst hpe
        have hj' : j_p < bx_wd (L.1 p_p) := hj'
        rw [hk1] at hj'
        have hj' : j_p < n := hj'
        show bx_okT L (L.2.2.1 p_p (j_p : Int)) (bx_cpS S1 P0 p_p n p_p (j_p : Int))
        rw [bx_cpS_in (by omega) (by omega)]
        exact hfit j_p hj'
      · show bx_okT L (L.2.2.1 p_p (j_p : Int)) (bx_cpS S1 P0 P1 n p_p (j_p : Int))
        rw [bx_cpS_ne hpe]
        exact hInv p_p j_p hp' hj'
    · intro p_p hp'
      by_cases hpe : p_p = P1
      · subst hpe
        refine ⟨_, List.getElem?_set_self hwlen, ?_⟩
        show bx_cell cl tys ad (L.1 p_p) (bx_cpS S1 P0 p_p n p_p) _
        rw [hk1]
        refine ⟨cA1, q1, _, rfl, hty1, ⟨_, rfl⟩, fun j hj => ?_⟩
        show Value.int (va_cpy f g 0 0 n j) = bx_fv ad 0 (bx_cpS S1 P0 p_p n p_p (j : Int))
        rw [bx_cpS_in (by omega) (by omega), pk_cpy_in (Nat.zero_le _) (by omega), Nat.zero_add, Nat.sub_zero]
        exact hel0 j hj
      · obtain ⟨e1', h1', h2'⟩ := hcell p_p hp'
        refine ⟨e1', by rw [List.getElem?_set_ne (Ne.symm hpe)]; exact h1', ?_⟩
        have hrow : bx_cpS S1 P0 P1 n p_p = S1 p_p := funext fun j => bx_cpS_ne hpe
        show bx_cell cl tys ad (L.1 p_p) (bx_cpS S1 P0 P1 n p_p) e1'
        rw [hrow]
        exact h2'
end RKZY
section RKZZ
variable {PX : State → Prop} {Dg : va_G} {A : Nat → Prop} {ad xa : Nat → Nat} {l : Launch} {X : (Nat → Int → Int) → Prop}
variable {p : Program} {e : Env} {R : Room} {s : State} {m : MethodId} {args : Array Value} {below : List Frame} {meth : Method} {c : Code} {Q : State → Prop} {H0 : Heap}
/-- at a row's copy by hand, the rows' places known by the invariants: what is to be shown, in plain words -/
def rk_obZ (X : (Nat → Int → Int) → Prop) (Sin : Nat → Int → Int) (ms : List (Nat × Nat)) (inv : Nat → bx_SP) (mea : Nat → (Nat → Int → Int) → (Nat → Int) → Nat) (i i_p : Nat) (z : rx_Z) (w0 w1 : rx_E) (n : Nat) : Prop :=
  ∀ (S : Nat → Int → Int) (r : Nat → Int), inv i S r → X S → bx_Inv rxL S → bx_same rxL (bx_mdl ms) Sin S → rx_sat z.1 r → rx_facts z.2.1 r →
    ∃ P0 P1 : Nat, ((r w0.1 + w0.2).toNat = P0 ∧ (r w1.1 + w1.2).toNat = P1) ∧ rk_ck ms n P0 P1 = true ∧ inv i_p (bx_cpS S P0 P1 n) r ∧ mea i_p (bx_cpS S P0 P1 n) r < mea i S r ∧ X (bx_cpS S P0 P1 n) ∧ bx_same rxL (bx_mdl ms) Sin (bx_cpS S P0 P1 n)
theorem rk_stepZ {M : rx_Mt} {tab : List bx_HE} {inv : Nat → bx_SP} {mea : Nat → (Nat → Int → Int) → (Nat → Int) → Nat} {Sin : Nat → Int → Int} {ms : List (Nat × Nat)} {i i_p idx : Nat} {z : rx_Z} {os : List bx_HO} {es : List (rx_End × List (Nat × Int × Int))} {q_p : bx_HE} {n : Nat} {w0 w1 : rx_E} {t : List rx_V}
    (hF : rx_Fr rxG rxNW rxAO PX p s m args meth c M) (hn : rxNm M.1 = M.2.2.2.2.1.cls) (hd : 1 ≤ R.frames) (hdl : 40 ≤ R.locals) (hcp : rxCp M.1 idx = some 0) (hdg : decode M.2.1 (rx_zpc z) = .ok (.invokestatic idx, 3)) (hht : rk_dmo z.2.2.1 = true) (hst : rx_zst z = .inr (0, (0, (n : Int))) :: .inr (0, (0, 0)) :: .inr (3, w1) :: .inr (0, (0, 0)) :: .inr (3, w0) :: t)
    (hcat : rx_cats t ≤ 8) (hn2 : n < 2000000000)
    (htab : tab[i_p]? = some q_p) (hq' : rx_nxh z.2.2.1 z 3 t = q_p.1) (hob : rk_obZ X Sin ms inv mea i i_p z w0 w1 n) :
    bx_Step p l e R s m args below meth c Q Dg rxL X vwCl A xa H0 ad M tab inv mea Sin ms i (z, os, es) := by
  intro S r H locs ls hinv hXS hsin hR K
  obtain ⟨Sq, ⟨ws0, tys0, hInv0, hrest0⟩, -, ⟨-, hch0⟩, -⟩ := id hR.2.2.2.1
  have eSq : Sq = S := bx_noE_eq (rk_dmo_ne (show rk_dmo (z, os, es).1.2.2.1 = true from hht)) (hch0 rfl)
  rw [eSq] at hInv0
  have hInv0 : bx_Inv rxL S := hInv0
  obtain ⟨P0, P1, ⟨k0, k1⟩, oc, o2, o3, o4, o5⟩ := hob S r hinv hXS hInv0 hsin hR.1 hR.2.1
  obtain ⟨g0, g1, l0, h0, l1, h1, hp0, hp1, hk0, hk1, hb0, hb1, hlo, hhi⟩ := rk_ck_ok oc
  have hw : Jvm.Cond.methodLink (rxNm M.1) idx arraycopyName ∈ rxG := (rxCp_ok _ _ _ hcp).1 rfl
  refine rk_copyJ (nm := rxNm) (P0 := P0) (P1 := P1) (n := n) (g0 := g0) (g1 := g1) (w0 := w0) (w1 := w1) (t := t) (idx := idx) rfl hht hF hn hd hdl ⟨hw, rxCw_ok⟩ hdg hR hst k0 k1 hp0 hp1 hk0 hk1 hcat hn2 (fun j hj => ?_) fun H1 locs1 hR1 => ?_
  · have hj0 : j < bx_wd (rxL.1 P0) := by rw [hk0]; exact hj
    have hv := rxVok.2.1 none (P0 : Int) 0 ((n : Int) - 1) 1 _ hb0 0 rfl (j : Int) (S P0 (j : Int)) (by omega) (by omega) (Int.emod_one _) (by
      rw [show (0 + (P0 : Int)).toNat = P0 by omega]
      exact hInv0 P0 j hp0 hj0)
    have hv : l0 ≤ S P0 (j : Int) ∧ S P0 (j : Int) ≤ h0 := hv
    have hg := rxVok.2.2.1 none (P1 : Int) 0 ((n : Int) - 1) 1 _ hb1 0 rfl (j : Int) (S P0 (j : Int)) (by omega) (by omega) (Int.emod_one _) (show l1 ≤ S P0 (j : Int) ∧ S P0 (j : Int) ≤ h1 from ⟨by omega, by omega⟩)
    rw [show (0 + (P1 : Int)).toNat = P1 by omega] at hg
    exact hg
  · rw [hq'] at hR1
    have := K i_p q_p (bx_cpS S P0 P1 n) r H1 locs1 ls htab o2 o3 o4 o5 hR1
    rw [← hq'] at this
    obtain ⟨zI, zF, zh, zc, zs, zp, zl, zt⟩ := z
    exact this
end RKZZ
def rk_c1 (n g : Nat) (l h : Int) (P : Nat) : Bool := match rxL.1 P, rxV.2.1 none (P : Int) 0 ((n : Int) - 1) 1, rxV.2.2 none (P : Int) 0 ((n : Int) - 1) 1 with
  | .inr (0, n0, g0), some (0, l0, h0), some (0, l1, h1) => Nat.blt P 522 && (Nat.beq n0 n && (Nat.beq g0 g && (decide (l0 = l) && (decide (h0 = h) && (decide (l1 = l) && decide (h1 = h))))))
  | _, _, _ => false
theorem rk_c1_ok {n g : Nat} {l h : Int} {P : Nat} (c : rk_c1 n g l h P = true) : P < 522 ∧ rxL.1 P = .inr (0, n, g) ∧ rxV.2.1 none (P : Int) 0 ((n : Int) - 1) 1 = some (0, l, h) ∧ rxV.2.2 none (P : Int) 0 ((n : Int) - 1) 1 = some (0, l, h) := by
  unfold rk_c1 at c
  split at c
  · rename_i n0 g0 l0 h0 l1 h1 e0 e1 e2
    rw [Bool.and_eq_true, Bool.and_eq_true, Bool.and_eq_true, Bool.and_eq_true, Bool.and_eq_true, Bool.and_eq_true, Nat.blt_eq, decide_eq_true_eq, decide_eq_true_eq, decide_eq_true_eq, decide_eq_true_eq] at c
    obtain ⟨a1, a2, a3, a4, a5, a6, a7⟩ := c
    have a2 := Nat.eq_of_beq_eq_true a2
    have a3 := Nat.eq_of_beq_eq_true a3
    subst a2 a3 a4 a5 a6 a7
    exact ⟨a1, e0, e1, e2⟩
  · cases c
theorem rk_ck_of {ms : List (Nat × Nat)} {n g : Nat} {l h : Int} {P0 P1 : Nat} (c0 : rk_c1 n g l h P0 = true) (c1 : rk_c1 n g l h P1 = true) (hm : bx_mdr (bx_mdl ms) g 0 ((n : Int) - 1) = true) : rk_ck ms n P0 P1 = true := by
  obtain ⟨a1, a2, a3, -⟩ := rk_c1_ok c0
  obtain ⟨b1, b2, -, b4⟩ := rk_c1_ok c1
  unfold rk_ck
  rw [a2, b2, a3, b4]
  simp only [Bool.and_eq_true, Nat.blt_eq, decide_eq_true_eq, Nat.beq_eq_true_eq, Int.le_refl, true_and]
  exact ⟨a1, b1, Nat.beq_refl n, Nat.beq_refl n, hm⟩
theorem rkPg_c1 : rkPg.all (fun t => rk_c1 400 21 0 13 (t + 1)) = true := by decide +kernel
theorem rkPg_c2 : rkPg.all (fun t => rk_c1 400 22 (-1) 1000 (t + 2)) = true := by decide +kernel
theorem rkPg_c4 : rkPg.all (fun t => rk_c1 12 24 0 4 (t + 4)) = true := by decide +kernel
theorem rkPg_c5 : rkPg.all (fun t => rk_c1 12 25 (-1) 6 (t + 5)) = true := by decide +kernel
theorem rkPg_c6 : rkPg.all (fun t => rk_c1 12 26 (-1) 6 (t + 6)) = true := by decide +kernel
theorem rkPg_c7 : rkPg.all (fun t => rk_c1 12 27 (-1) 400 (t + 7)) = true := by decide +kernel
theorem rkPg_c8 : rkPg.all (fun t => rk_c1 12 27 (-1) 400 (t + 8)) = true := by decide +kernel
theorem rkPg_c9 : rkPg.all (fun t => rk_c1 12 27 (-1) 400 (t + 9)) = true := by decide +kernel
/-! PLACES OF SCRIPTS -/
def rkSg : List Nat := [23, 26, 29, 32, 35, 38, 41, 44, 47, 50, 53, 56, 59, 62, 65, 68, 71, 74, 160, 163, 166, 169, 172, 175, 178, 181, 184, 187, 190, 193, 196, 199, 202, 205, 208, 211, 296, 299, 302, 305, 308, 311, 314, 317, 320, 323, 326, 329, 332, 335, 338, 341, 344, 347, 444, 447, 476]
/-- its rows lie behind it -/
def rkSp (S : Nat → Int → Int) (t : Nat) : Prop := S t 0 = ((t + 1 : Nat) : Int) ∧ S t 1 = ((t + 2 : Nat) : Int)
/-- t is as s was, nothing else is changed -/
def rkSc (S0 S : Nat → Int → Int) (t s : Nat) : Prop := (∀ j : Int, 0 ≤ j → j < 36 → S (t + 1) j = S0 (s + 1) j) ∧ (∀ j : Int, 0 ≤ j → j < 36 → S (t + 2) j = S0 (s + 2) j) ∧ ∀ (p : Nat) (j : Int), p ≠ t + 1 → p ≠ t + 2 → S p j = S0 p j
theorem rkSg_c1 : rkSg.all (fun t => rk_c1 36 19 (-1) 9 (t + 1)) = true := by decide +kernel
theorem rkSg_c2 : rkSg.all (fun t => rk_c1 36 20 (-1) 5 (t + 2)) = true := by decide +kernel
