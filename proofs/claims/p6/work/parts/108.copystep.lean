/-! THE BOX MACHINE: a row is copied, by hand -/
theorem bx_cpS_in {S : Nat → Int → Int} {P0 P1 n : Nat} {j : Int} (h0 : 0 ≤ j) (h1 : j < (n : Int)) : bx_cpS S P0 P1 n P1 j = S P0 j := if_pos ⟨rfl, h0, h1⟩
theorem bx_cpS_ne {S : Nat → Int → Int} {P0 P1 n p : Nat} {j : Int} (h : p ≠ P1) : bx_cpS S P0 P1 n p j = S p j := if_neg fun q => h q.1
theorem bx_nN {n : Nat} (h : n < 2000000000) : ¬ Int32.ofInt (n : Int) < 0 ∧ (Int32.ofInt (n : Int)).toNatClampNeg = n := by
  have e : (Int32.ofInt (n : Int)).toInt = (n : Int) := rx_i32 (by omega) (by omega)
  refine ⟨?_, ?_⟩
  · rw [Int32.lt_iff_toInt_lt, e, Int32.toInt_zero]
    omega
  · show (Int32.ofInt (n : Int)).toInt.toNat = n
    rw [e]
    rfl
section BXCY
variable {G NW : List Jvm.Cond} {AO : List String} {cl : List vw_C} {nm : Nat → String} {A : Nat → Prop} {xa : Nat → Nat} {PX : State → Prop} {l : Launch} {Dg : va_G} {L : bx_L} {md : Nat → Nat → Bool} {S : Nat → Int → Int}
variable {p : Program} {e : Env} {R : Room} {s : State} {m : MethodId} {args : Array Value} {below : List Frame} {meth : Method} {c : Code} {Q : State → Prop} {H0 H : Heap} {locs : List Loc} {ls : Array Slot} {r : Nat → Int} {ad : Nat → Nat}
variable {M : rx_Mt} {z : rx_Z} {idx : Nat}
theorem bx_copyI {P0 P1 n g0 g1 : Nat} {t : List rx_V} (hlg : bx_lg md = true) (hht : z.2.2.1 = []) (hF : rx_Fr G NW AO PX p s m args meth c M) (hn : nm M.1 = M.2.2.2.2.1.cls) (hd : 1 ≤ R.frames) (hdl : 40 ≤ R.locals) (hw : Jvm.Cond.methodLink (nm M.1) idx arraycopyName ∈ G ∧ Jvm.Cond.native arraycopyName ∈ G ∧ Jvm.Cond.static arraycopyName ∈ G ∧ Jvm.Cond.initialized "java/lang/System" ∈ G)
    (hdg : decode M.2.1 (rx_zpc z) = .ok (.invokestatic idx, 3)) (hR : rx_R (Dg, L, S, md) cl A s xa M.2.2.1 H0 z r ad H locs ls) (hst : rx_zst z = .inr (0, (0, (n : Int))) :: .inr (0, (0, 0)) :: .inr (3, (0, (P1 : Int))) :: .inr (0, (0, 0)) :: .inr (3, (0, (P0 : Int))) :: t)
    (hp0 : P0 < L.2.1) (hp1 : P1 < L.2.1) (hk0 : L.1 P0 = .inr (0, n, g0)) (hk1 : L.1 P1 = .inr (0, n, g1)) (hcat : rx_cats t ≤ 8) (hn2 : n < 2000000000) (hfit : ∀ j : Nat, j < n → bx_okT L (L.2.2.1 P1 (j : Int)) (S P0 (j : Int)))
    (K : ∀ (H1 : Heap) (locs1 : List Loc), rx_R (Dg, L, bx_cpS S P0 P1 n, md) cl A s xa M.2.2.1 H0 (rx_nxh [] z 3 t) r ad H1 locs1 ls → W p l e R s m args below meth c H1 locs1 z.2.2.2.1 z.2.2.2.2.1 Q (F0 m (rx_zpc z + 3) ls (t.map (rx_iv r ad xa)))) :
    W p l e R s m args below meth c H locs z.2.2.2.1 z.2.2.2.2.1 Q (F0 m (rx_zpc z) ls ((rx_zst z).map (rx_iv r ad xa))) := by
  obtain ⟨S1, ⟨ws, tys, hInv, hK, hP, hD, hl, hcell⟩, hS, ⟨-, hch⟩, hkn⟩ := id hR.2.2.2.1
  have eS : S1 = S := bx_noE_eq (by rw [hht]; rfl) (hch hlg)
  subst eS
  have hInv : bx_Inv L S1 := hInv
  have hl : ws.length = L.2.1 := hl
  have h0 : r 0 = 0 := hR.1.1
  obtain ⟨x0, hw0, hce0⟩ := hcell P0 hp0
  obtain ⟨x1, hw1, hce1⟩ := hcell P1 hp1
  have hce0 : bx_cell cl tys ad (L.1 P0) (S1 P0) x0 := hce0
  have hce1 : bx_cell cl tys ad (L.1 P1) (S1 P1) x1 := hce1
  rw [hk0] at hce0
  rw [hk1] at hce1
  obtain ⟨cA0, q0, c0, hx0, hty0, hsh0, hel0⟩ := hce0
  obtain ⟨cA1, q1, c1, hx1, hty1, hsh1, hel1⟩ := hce1
  obtain ⟨f, hf⟩ := hsh0
  obtain ⟨g, hg⟩ := hsh1
  subst hx0; subst hx1; subst hf; subst hg
  obtain ⟨a1, a2⟩ := bx_nN hn2
  have hz0 : (0 : Int) = ((0 : Nat) : Int) := rfl
  obtain ⟨b1, b2⟩ := bx_nN (n := 0) (by decide)
  have hsc := rx_stsc hR
  obtain ⟨hx, hb, hr, hml, hown, hlk, hts, -⟩ := id hF
  rw [hn] at hw
  have hwlen : P1 < ws.length := by rw [hl]; exact hp1
  rw [hst] at hsc ⊢
  have e0 : (r 0 + (P0 : Int)).toNat = P0 := by rw [h0]; omega
  have e1 : (r 0 + (P1 : Int)).toNat = P1 := by rw [h0]; omega
  have en : r 0 + (n : Int) = (n : Int) := by rw [h0]; omega
  have ez : r 0 + (0 : Int) = ((0 : Nat) : Int) := by rw [h0]; rfl
  show W p l e R s m args below meth c H locs z.2.2.2.1 z.2.2.2.2.1 Q (F0 m (rx_zpc z) ls (.int (Int32.ofInt (r 0 + (n : Int))) :: .int (Int32.ofInt (r 0 + (0 : Int))) :: .ref (ad (r 0 + (P1 : Int)).toNat) :: .int (Int32.ofInt (r 0 + (0 : Int))) :: .ref (ad (r 0 + (P0 : Int)).toNat) :: t.map (rx_iv r ad xa)))
  rw [e0, e1, en, ez]
  refine va_copyi hx hb (by rw [hml]; exact (rx_lvh hR).1.symm) hown (hts _ hw.1) (hts _ hw.2.1) (hts _ hw.2.2.1) (hts _ hw.2.2.2) hK hP hD hS _ _ q0 q1 hw0 hw1 hty0 hty1 rfl b1 b1 a1 (by rw [b2, a2]; omega) (by rw [b2, a2]; omega) (fun _ _ => rfl) hd ?_ hdg (fun H1 locs1 hP1 hD1 hS1 => ?_)
  · rw [rx_cats_sum]
    show rx_cats t + (7 + 11) ≤ R.locals
    omega
  · rw [b2, a2] at hP1 hD1
    refine K H1 locs1 ⟨hR.1, hR.2.1, hR.2.2.1, ⟨bx_cpS S1 P0 P1 n, ⟨_, tys, ?_, hK, hP1, hD1, by rw [List.length_set]; exact hl, ?_⟩, hS1, ⟨fun _ _ _ _ _ => rfl, fun _ => bx_noE_chain rfl⟩, fun q hq => absurd hq List.not_mem_nil⟩, hR.2.2.2.2.1, fun q hq => rx_sc.any (hR.2.2.2.2.2.1 q hq), fun w hw => rx_sc.any (hsc w (List.mem_cons_of_mem _ (List.mem_cons_of_mem _ (List.mem_cons_of_mem _ (List.mem_cons_of_mem _ (List.mem_cons_of_mem _ hw))))))⟩
    · intro p_p j_p hp' hj'
      by_cases hpe : p_p = P1
      · subst hpe
        have hj' : j_p < bx_wd (L.1 p_p) := hj'
        rw [hk1] at hj'
        have hj' : j_p < n := hj'
        show bx_okT L (L.2.2.1 p_p (j_p : Int)) (bx_cpS S1 P0 p_p n p_p (j_p : Int))
        rw [bx_cpS_in (by omega) (by omega)]
        exact hfit j_p hj'
      · show bx_okT L (L.2.2.1 p_p (j_p : Int)) (bx_cpS S1 P0 P1 n p_p (j_p : Int))
        rw [bx_cpS_ne hpe]
        exact hInv p_p j_p hp' hj'
    · intro p_p hp'
      by_cases hpe : p_p = P1
      · subst hpe
        refine ⟨_, List.getElem?_set_self hwlen, ?_⟩
        show bx_cell cl tys ad (L.1 p_p) (bx_cpS S1 P0 p_p n p_p) _
        rw [hk1]
        refine ⟨cA1, q1, _, rfl, hty1, ⟨_, rfl⟩, fun j hj => ?_⟩
        show Value.int (va_cpy f g 0 0 n j) = bx_fv ad 0 (bx_cpS S1 P0 p_p n p_p (j : Int))
        rw [bx_cpS_in (by omega) (by omega), pk_cpy_in (Nat.zero_le _) (by omega), Nat.zero_add, Nat.sub_zero]
        exact hel0 j hj
      · obtain ⟨e1', h1', h2'⟩ := hcell p_p hp'
        refine ⟨e1', by rw [List.getElem?_set_ne (Ne.symm hpe)]; exact h1', ?_⟩
        have hrow : bx_cpS S1 P0 P1 n p_p = S1 p_p := funext fun j => bx_cpS_ne hpe
        show bx_cell cl tys ad (L.1 p_p) (bx_cpS S1 P0 P1 n p_p) e1'
        rw [hrow]
        exact h2'
end BXCY
section RXCY
variable {PX : State → Prop} {Dg : va_G} {A : Nat → Prop} {ad xa : Nat → Nat} {l : Launch} {X : (Nat → Int → Int) → Prop}
variable {p : Program} {e : Env} {R : Room} {s : State} {m : MethodId} {args : Array Value} {below : List Frame} {meth : Method} {c : Code} {Q : State → Prop} {H0 : Heap}
theorem rx_same_cp {ms : List (Nat × Nat)} {S0 S : Nat → Int → Int} (h : bx_same rxL (bx_mdl ms) S0 S) {P0 P1 n g1 : Nat} (hk : rxL.1 P1 = .inr (0, n, g1)) (h1 : bx_mdr (bx_mdl ms) g1 0 ((n : Int) - 1) = true) : bx_same rxL (bx_mdl ms) S0 (bx_cpS S P0 P1 n) := fun q i hq hi hm => by
  by_cases hc : q = P1
  · exfalso
    subst hc
    rw [hk] at hm hi
    have hi : i < n := hi
    have hm : bx_mdl ms (1000 + g1) (bx_sk g1 i) = false := hm
    rw [bx_mdr_ok h1 (by omega) (by omega)] at hm
    cases hm
  · rw [bx_cpS_ne hc]
    exact h q i hq hi hm
/-- at a row's copy by hand: what is to be shown, in plain words -/
def rx_obY (X : (Nat → Int → Int) → Prop) (Sin : Nat → Int → Int) (ms : List (Nat × Nat)) (inv : Nat → bx_SP) (mea : Nat → (Nat → Int → Int) → (Nat → Int) → Nat) (i i_p : Nat) (z : rx_Z) (P0 P1 n : Nat) : Prop :=
  ∀ (S : Nat → Int → Int) (r : Nat → Int), inv i S r → X S → bx_Inv rxL S → bx_same rxL (bx_mdl ms) Sin S → rx_sat z.1 r → rx_facts z.2.1 r →
    inv i_p (bx_cpS S P0 P1 n) r ∧ mea i_p (bx_cpS S P0 P1 n) r < mea i S r ∧ X (bx_cpS S P0 P1 n) ∧ bx_same rxL (bx_mdl ms) Sin (bx_cpS S P0 P1 n)
theorem rx_stepY {M : rx_Mt} {tab : List bx_HE} {inv : Nat → bx_SP} {mea : Nat → (Nat → Int → Int) → (Nat → Int) → Nat} {Sin : Nat → Int → Int} {ms : List (Nat × Nat)} {i i_p idx : Nat} {z : rx_Z} {os : List bx_HO} {es : List (rx_End × List (Nat × Int × Int))} {q_p : bx_HE} {P0 P1 n g0 g1 : Nat} {t : List rx_V} {l0 h0 l1 h1 : Int}
    (hF : rx_Fr rxG rxNW rxAO PX p s m args meth c M) (hn : rxNm M.1 = M.2.2.2.2.1.cls) (hd : 1 ≤ R.frames) (hdl : 40 ≤ R.locals) (hcp : rxCp M.1 idx = some 0) (hdg : decode M.2.1 (rx_zpc z) = .ok (.invokestatic idx, 3)) (hht : z.2.2.1 = []) (hst : rx_zst z = .inr (0, (0, (n : Int))) :: .inr (0, (0, 0)) :: .inr (3, (0, (P1 : Int))) :: .inr (0, (0, 0)) :: .inr (3, (0, (P0 : Int))) :: t)
    (hp0 : P0 < 522) (hp1 : P1 < 522) (hk0 : rxL.1 P0 = .inr (0, n, g0)) (hk1 : rxL.1 P1 = .inr (0, n, g1)) (hcat : rx_cats t ≤ 8) (hn2 : n < 2000000000) (hb0 : rxV.2.1 none (P0 : Int) 0 ((n : Int) - 1) 1 = some (0, l0, h0)) (hb1 : rxV.2.2 none (P1 : Int) 0 ((n : Int) - 1) 1 = some (0, l1, h1)) (hlo : l1 ≤ l0) (hhi : h0 ≤ h1)
    (htab : tab[i_p]? = some q_p) (hq' : rx_nxh [] z 3 t = q_p.1) (hob : rx_obY X Sin ms inv mea i i_p z P0 P1 n) :
    bx_Step p l e R s m args below meth c Q Dg rxL X vwCl A xa H0 ad M tab inv mea Sin ms i (z, os, es) := by
  intro S r H locs ls hinv hXS hsin hR K
  obtain ⟨Sq, ⟨ws0, tys0, hInv0, hrest0⟩, -, ⟨-, hch0⟩, -⟩ := id hR.2.2.2.1
  have eSq : Sq = S := bx_noE_eq (by rw [show (z, os, es).1.2.2.1 = [] from hht]; rfl) (hch0 rfl)
  rw [eSq] at hInv0
  have hInv0 : bx_Inv rxL S := hInv0
  obtain ⟨o2, o3, o4, o5⟩ := hob S r hinv hXS hInv0 hsin hR.1 hR.2.1
  have hw : Jvm.Cond.methodLink (rxNm M.1) idx arraycopyName ∈ rxG := (rxCp_ok _ _ _ hcp).1 rfl
  refine bx_copyI (nm := rxNm) (P0 := P0) (P1 := P1) (n := n) (g0 := g0) (g1 := g1) (t := t) (idx := idx) rfl hht hF hn hd hdl ⟨hw, rxCw_ok⟩ hdg hR hst hp0 hp1 hk0 hk1 hcat hn2 (fun j hj => ?_) fun H1 locs1 hR1 => ?_
  · have hj0 : j < bx_wd (rxL.1 P0) := by rw [hk0]; exact hj
    have hv := rxVok.2.1 none (P0 : Int) 0 ((n : Int) - 1) 1 _ hb0 0 rfl (j : Int) (S P0 (j : Int)) (by omega) (by omega) (Int.emod_one _) (by
      rw [show (0 + (P0 : Int)).toNat = P0 by omega]
      exact hInv0 P0 j hp0 hj0)
    have hv : l0 ≤ S P0 (j : Int) ∧ S P0 (j : Int) ≤ h0 := hv
    have hg := rxVok.2.2.1 none (P1 : Int) 0 ((n : Int) - 1) 1 _ hb1 0 rfl (j : Int) (S P0 (j : Int)) (by omega) (by omega) (Int.emod_one _) (show l1 ≤ S P0 (j : Int) ∧ S P0 (j : Int) ≤ h1 from ⟨by omega, by omega⟩)
    rw [show (0 + (P1 : Int)).toNat = P1 by omega] at hg
    exact hg
  · rw [hq'] at hR1
    have := K i_p q_p (bx_cpS S P0 P1 n) r H1 locs1 ls htab o2 o3 o4 o5 hR1
    rw [← hq'] at this
    obtain ⟨zI, zF, zh, zc, zs, zp, zl, zt⟩ := z
    exact this
end RXCY
