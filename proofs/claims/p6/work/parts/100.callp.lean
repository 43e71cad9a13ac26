/-! THE BOX MACHINE: a call by a contract by hand, as a step of one's own -/
section BXCP
variable {X : (Nat → Int → Int) → Prop} {B : bx_B} {G NW : List Jvm.Cond} {AO : List String} {cl : List vw_C} {T : rx_Tb} {nm : Nat → String} {l : Launch} {Dg : va_G} {L : bx_L} {A : Nat → Prop} {xa : Nat → Nat} {PX : State → Prop} {ad : Nat → Nat}
variable {p : Program} {e : Env} {R : Room} {s : State} {m : MethodId} {args : Array Value} {below : List Frame} {meth : Method} {c : Code} {Q : State → Prop} {H0 H : Heap} {locs : List Loc} {ls : Array Slot} {r : Nat → Int}
theorem bx_fitL_is {D : bx_D} {S : Nat → Int → Int} {I : rx_I} {ht : List rx_C} (hs : rx_sat I r) (hk : bx_kns D ad xa S I.length ht r) : ∀ {args : List (Nat × bx_T)} {as : List rx_V}, bx_fitL D.2.1.2.2.2 I ht args as = true → bx_argIs D.2.1 args (as.map (bx_num r)) ∧ as.map (rx_iv r ad xa) = bx_avs ad args (as.map (bx_num r))
  | [], [], _ => ⟨rfl, rfl⟩
  | [], _ :: _, h => absurd (show false = true from h) Bool.false_ne_true
  | _ :: _, [], h => absurd (show false = true from h) Bool.false_ne_true
  | a :: args, v :: vs, h => by
    rw [bx_fitL, Bool.and_eq_true] at h
    obtain ⟨n1, n2, -⟩ := bx_fits_ok (ad := ad) (xa := xa) hs hk h.1
    rw [hs.1] at n2
    obtain ⟨k1, k2⟩ := bx_fitL_is hs hk h.2
    refine ⟨⟨_, _, rfl, n2, k1⟩, ?_⟩
    rw [List.map_cons, n1, k2]
    rfl
theorem bx_callP {z : rx_Z} {M M_p : rx_Mt} {i : Instr} {len d : Nat} {q : rx_J} {as t : List rx_V} {ct : bx_Ct} {S : Nat → Int → Int} {md : Nat → Nat → Bool} {P : (Nat → Int → Int) → List Int → Prop} {PS : (Nat → Int → Int) → List Int → (Nat → Int → Int) → Option Int → Prop}
    (hGG : ∀ w ∈ G, goodWord w = true) (hPX : rx_PXOK NW A PX) (tm : rx_mlOK G nm T) (tc : rx_cjOK G NW cl nm T) (hV : bx_VOK L B.1) (hnp : B.2.1 = L.2.1) (hdm : B.2.2.1 = L.2.2.2) (hlg : bx_lg md = true) (hne : bx_noE z.2.2.1 = true) (hXS : X S)
    (hF : rx_Fr G NW AO PX p s m args meth c M) (hn : nm M.1 = M.2.2.2.2.1.cls) (hA : ∀ q, H0.size ≤ q → A q) (hH0 : H0 = s.heap) (hmc : M.2.2.2.2.2.2.1 ≤ R.cells) (hms : M.2.2.2.2.2.2.2 ≤ R.slots) (hd : d ≤ R.frames) (hdl : d * 40 ≤ R.locals) (hdg : decode M.2.1 (rx_zpc z) = .ok (i, len))
    (hR : rx_R (Dg, L, S, md) cl A s xa M.2.2.1 H0 z r ad H locs ls) (hprep : rx_prep B T M i len z = some (q, M_p, as, t)) (g1 : ct.2.2.2.1 + 1 ≤ d) (g2 : bx_fitP B z ct as = true)
    (hC : bx_ConP G NW AO PX Dg L X cl A ad l M_p ct P PS) (hP : P S (as.map (bx_num r)))
    (K : ∀ (S_p : Nat → Int → Int) (w : Option Int) (H1 : Heap) (locs1 : List Loc), PS S (as.map (bx_num r)) S_p w → X S_p → bx_Inv L S_p → bx_same L (bx_mdl ct.2.2.1) S S_p →
      (ct.2.1 = none → rx_R (Dg, L, S_p, md) cl A s xa M.2.2.1 H0 (bx_bk M_p z.1 (z.2.2.1.filter (bx_keepC B.1 z.2.2.1 ct.2.2.1)) z t) r ad H1 locs1 ls → W p l e R s m args below meth c H1 locs1 (z.2.2.2.1 + M_p.2.2.2.2.2.2.1) (z.2.2.2.2.1 + M_p.2.2.2.2.2.2.2) Q (F0 m (rx_zpc z + 3) ls (t.map (rx_iv r ad xa)))) ∧
      (∀ (a : Nat × bx_T) (I2 : rx_I) (ht2 : List rx_C) (v2 : rx_V), ct.2.1 = some a → bx_nv a.1 0 B.2.1 a.2 z.1 (z.2.2.1.filter (bx_keepC B.1 z.2.2.1 ct.2.2.1)) = some (I2, ht2, v2) → ∀ r_p : Nat → Int, rx_same z.1.length r r_p → w = some (bx_num r_p v2) → rx_R (Dg, L, S_p, md) cl A s xa M.2.2.1 H0 (bx_bk M_p I2 ht2 z (v2 :: t)) r_p ad H1 locs1 ls →
        W p l e R s m args below meth c H1 locs1 (z.2.2.2.1 + M_p.2.2.2.2.2.2.1) (z.2.2.2.2.1 + M_p.2.2.2.2.2.2.2) Q (F0 m (rx_zpc z + 3) ls ((v2 :: t).map (rx_iv r_p ad xa)))))
    (hnv : ∀ a, ct.2.1 = some a → ∃ y, bx_nv a.1 0 B.2.1 a.2 z.1 (z.2.2.1.filter (bx_keepC B.1 z.2.2.1 ct.2.2.1)) = some y ∧ bx_noE y.2.1 = true) :
    W p l e R s m args below meth c H locs z.2.2.2.1 z.2.2.2.2.1 Q (F0 m (rx_zpc z) ls ((rx_zst z).map (rx_iv r ad xa))) := by
  unfold bx_fitP at g2
  rw [Bool.and_eq_true] at g2
  obtain ⟨g2, g2p⟩ := g2
  obtain ⟨has, htsc, hcats, hlen3, hM'⟩ := rx_prep_sc hR hprep
  subst hlen3
  obtain ⟨S1, hW, hS, ⟨-, hch⟩, hkn⟩ := id hR.2.2.2.1
  have eS : S1 = S := bx_noE_eq hne (hch hlg)
  subst eS
  rw [hdm] at g2
  obtain ⟨hargs, hav⟩ := bx_fitL_is (D := (Dg, L, S1, md)) (ad := ad) (xa := xa) hR.1 hkn g2
  have hprC := bx_preC_ok (D := (Dg, L, S1, md)) (ad := ad) (xa := xa) hV hdm hR.1 hkn (by obtain ⟨ws, tys, hI, -⟩ := hW; exact hI) g2p
  have hMet := hC S1 _ hXS hargs hprC hP _ (fun _ _ _ _ h => h)
  rw [← hav] at hMet
  have hblind : FrameBlind (va_Pc (as.map (rx_iv r ad xa)) (bx_PreC NW AO PX Dg L cl A ad S1)) := fun a U g mk h => by
    obtain ⟨h0, h1, h2, h3, h4, h5⟩ := h
    exact ⟨h0, fun w hw => va_Nw.same (u := U) (U := U.calling g mk a) (hPX.1 w hw).1 rfl (h1 w hw), fun C hC => va_AO.moved (Vm.Alike.refl U.vm) (h2 C hC), hPX.2.1 U g mk a h3, h4.moved (U := U.calling g mk a) (Vm.Alike.refl U.vm), h5⟩
  have hpre : ∀ U : State, U.heap = H → s.WarmedH U.vm → bx_PreC NW AO PX Dg L cl A ad S1 U := fun U hU hWm => by
    obtain ⟨k1, k2, k3, -, k5⟩ := rx_pre_at hPX hF hA hH0 hR U hU hWm
    refine ⟨k1, k2, k3, ?_, k5⟩
    rw [hU]
    exact bx_W0_md (hW.moved hWm.alike)
  have hrun := bx_call (l := l) (D := (Dg, L, S1, md)) (below := below) (e := e) hGG tm tc hV hn hF hmc hms (Nat.le_trans g1 hd) (by have := Nat.mul_le_mul_right 40 g1; omega) hR hdg hprep hMet hblind hpre
  refine rx_call hrun hS (fun _ _ _ h => h.2) fun v st tt H1 locs1 ht hst hvm hpost hS1 => ?_
  obtain ⟨⟨S_p, rv, hov, hret, hW', hsame, hX_p, w, hPS, hw⟩, -⟩ := hpost
  cases hov
  rw [ht] at hW'
  have hW1 : bx_W0 (Dg, L, S_p, md) cl A s ad S_p H1 := bx_W0_md (hW'.moved hvm.symm)
  have hInv' : bx_Inv L S_p := by
    obtain ⟨ws, tys, hI, -⟩ := hW1
    exact hI
  have hkn1 := bx_keepC_ok (D := (Dg, L, S1, md)) (B := B) hV hR.1 hkn hsame
  have hkn1 : bx_kns (Dg, L, S_p, md) ad xa S_p z.1.length (z.2.2.1.filter (bx_keepC B.1 z.2.2.1 ct.2.2.1)) r := hkn1
  have hne1 : bx_noE (z.2.2.1.filter (bx_keepC B.1 z.2.2.1 ct.2.2.1)) = true := bx_noE_filter hne
  obtain ⟨K1, K2⟩ := K S_p w H1 locs1 hPS hX_p hInv' hsame
  cases hr0 : ct.2.1 with
  | none =>
    rw [hr0] at hret
    have hret : v = none := hret
    subst hret
    exact K1 hr0 ⟨hR.1, hR.2.1, hR.2.2.1, ⟨S_p, hW1, hS1, ⟨fun _ _ _ _ _ => rfl, fun _ => bx_noE_chain hne1⟩, hkn1⟩, hR.2.2.2.2.1, fun y hy => rx_sc.any (hR.2.2.2.2.2.1 y hy), fun y hy => rx_sc.any (htsc y hy)⟩
  | some a =>
    obtain ⟨x, hx1, hx2, hx3⟩ := hw a hr0
    subst hx2
    obtain ⟨⟨I2, ht2, v2⟩, hnv1, hne2⟩ := hnv a hr0
    obtain ⟨r_p, q1, q2, q3, q4, q5, q6, q7, -⟩ := bx_nv_ok (D := (Dg, L, S_p, md)) (S := S_p) (w := x) hV hnp hR.1 (rx_pos hR.1) hkn1 hnv1 (by rw [hR.1.1]; exact hx3)
    have := K2 a I2 ht2 v2 hr0 hnv1 r_p q1 (by rw [hx1, q7]) ⟨q2, rx_facts_ext hR.2.1 hR.2.2.1 q1, hR.2.2.1.mono q3, ⟨S_p, hW1, hS1, ⟨fun _ _ _ _ _ => rfl, fun _ => bx_noE_chain hne2⟩, q5⟩, by
      have hl := rx_lvh hR
      show lv_has ls M.2.2.1 (rx_lvs r_p ad xa (rx_zlv z))
      rw [rx_lvs_ext (rx_lvsc hR) q1 rx_sameA.rf]
      exact hl, fun y hy => rx_sc.any (rx_sc.mono (M_p := 0) (rx_lvsc hR y hy) q3 trivial), fun y hy => by
      rcases List.mem_cons.mp hy with h | h
      · subst h; exact rx_sc.any q4
      · exact rx_sc.any (rx_sc.mono (M_p := 0) (htsc y h) q3 trivial)⟩
    rw [List.map_cons, q6, rx_st_ext htsc q1 rx_sameA.rf] at this
    exact this
end BXCP
