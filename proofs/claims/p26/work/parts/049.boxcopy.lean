section
section BXZ
variable {G NW : List Jvm.Cond} {AO : List String} {cl : List vw_C} {nm : Nat → String} {A : Nat → Prop} {xa : Nat → Nat} {PX : State → Prop} {l : Launch} {D : bx_D} {B : bx_B} {T : rx_Tb}
variable {p : Program} {e : Env} {R : Room} {s : State} {m : MethodId} {args : Array Value} {below : List Frame} {meth : Method} {c : Code} {Q : State → Prop} {H0 H : Heap} {locs : List Loc} {ls : Array Slot} {r : Nat → Int} {ad : Nat → Nat}
variable {M : rx_Mt} {z : rx_Z} {zs : List rx_Z} {d idx : Nat}
theorem bx_pt_ok {I : rx_I} {n : rx_E} {x : Int} (hs : rx_sat z.1 r) (h : bx_pt z n = some x) : rx_ev r n = x ∧ (Int32.ofInt x).toInt = x := by
  unfold bx_pt at h
  split at h
  · rename_i lo hi hb
    split at h
    · rename_i e
      have h' : lo = x := Option.some.inj h
      obtain ⟨h1, h2, h3, -⟩ := rx_bi_ok hs hb
      have e2 : rx_ev r n = x := by omega
      rw [e2] at h3
      exact ⟨e2, h3⟩
    · cases h
  · cases h
theorem bx_ofN {n : Nat} (hs : rx_sat z.1 r) {q : rx_E} (h : bx_pt z q = some (n : Int)) : ¬ Int32.ofInt (rx_ev r q) < 0 ∧ (Int32.ofInt (rx_ev r q)).toNatClampNeg = n := by
  obtain ⟨a1, a2⟩ := bx_pt_ok (I := z.1) (r := r) hs h
  rw [a1]
  refine ⟨?_, ?_⟩
  · rw [Int32.lt_iff_toInt_lt, a2, Int32.toInt_zero]
    omega
  · show (Int32.ofInt (n : Int)).toInt.toNat = n
    rw [a2]
    rfl
/-- a row's slots, all written -/
def bx_cpS (S : Nat → Int → Int) (P0 P1 n : Nat) : Nat → Int → Int := fun p j => if p = P1 ∧ 0 ≤ j ∧ j < (n : Int) then S P0 j else S p j
theorem bx_x_copy_ok (hV : bx_VOK D.2.1 B.1) (hmd : B.2.2.2 = D.2.2.2) (hF : rx_Fr G NW AO PX p s m args meth c M) (hn : nm M.1 = M.2.2.2.2.1.cls) (hd : d ≤ R.frames) (hdl : d * 40 ≤ R.locals) (hw : Jvm.Cond.methodLink (nm M.1) idx arraycopyName ∈ G ∧ Jvm.Cond.native arraycopyName ∈ G ∧ Jvm.Cond.static arraycopyName ∈ G ∧ Jvm.Cond.initialized "java/lang/System" ∈ G)
    (hdg : decode M.2.1 (rx_zpc z) = .ok (.invokestatic idx, 3)) (hR : rx_R D cl A s xa M.2.2.1 H0 z r ad H locs ls) (hz : bx_x_copy B d z = some zs) (K : ∀ z_p ∈ zs, rx_G p l e R s m args below meth c Q D cl A xa M.2.2.1 H0 z.1.length z.2.2.1.length r ad z_p) :
    W p l e R s m args below meth c H locs z.2.2.2.1 z.2.2.2.2.1 Q (F0 m (rx_zpc z) ls ((rx_zst z).map (rx_iv r ad xa))) := by
  unfold bx_x_copy at hz
  split at hz
  · rename_i n t1 hp1
    split at hz
    · rename_i dp t2 hp2
      split at hz
      · rename_i k1 t3 hp3
        split at hz
        · rename_i sp t4 hp4
          split at hz
          · rename_i k0 t5 hp5
            split at hz
            · rename_i d0 d1 hd0 hd1
              split at hz
              · rename_i tc0 n0 gg0 tc1 n1 gg1 hk0 hk1
                split at hz
                · rename_i l0 h0 l1 h1 hrd hwr
                  obtain ⟨hc, hz2⟩ := rx_if_ok hz
                  clear hz
                  cases hz2
                  simp only [Bool.and_eq_true, beq_iff_eq, decide_eq_true_eq] at hc
                  obtain ⟨g0, g1, g2, g3, g4, g5, g6, g7, g8, g9, g10, g11, g12⟩ := hc
                  subst g0; subst g1; subst g2
                  have e1 := rx_pi_ok hp1
                  have e2 := rx_pi_ok hp2
                  have e3 := bx_pp_ok hp3
                  have e4 := rx_pi_ok hp4
                  have e5 := bx_pp_ok hp5
                  subst e2; subst e3; subst e4; subst e5
                  have hst := rx_stsc hR
                  rw [e1] at hst ⊢
                  obtain ⟨hx, hb, hr, hml, hown, hlk, hts, -⟩ := id hF
                  rw [hn] at hw
                  obtain ⟨S, ⟨ws, tys, hInv, hK, hP, hD, hl, hcell⟩, hS, hsm, hkn⟩ := id hR.2.2.2.1
                  have hin0 := bx_dm_ok hR.1 hkn hd0
                  have hin1 := bx_dm_ok hR.1 hkn hd1
                  obtain ⟨p1, p2, p3⟩ := hV.1 d0 k0.2 _ hk0 _ hin0
                  obtain ⟨u1, u2, u3⟩ := hV.1 d1 k1.2 _ hk1 _ hin1
                  obtain ⟨x0, hw0, hce0⟩ := hcell _ p2
                  obtain ⟨x1, hw1, hce1⟩ := hcell _ u2
                  rw [p3] at hce0
                  rw [u3] at hce1
                  obtain ⟨cA0, q0, c0, hx0, hty0, hsh0, hel0⟩ := hce0
                  obtain ⟨cA1, q1, c1, hx1, hty1, hsh1, hel1⟩ := hce1
                  obtain ⟨f, hf⟩ := hsh0
                  obtain ⟨g, hg⟩ := hsh1
                  subst hx0; subst hx1; subst hf; subst hg
                  obtain ⟨a1, a2⟩ := bx_ofN hR.1 g3
                  obtain ⟨b1, b2⟩ := bx_ofN (n := 0) hR.1 g4
                  obtain ⟨c1', c2'⟩ := bx_ofN (n := 0) hR.1 g5
                  have hwlen : (r k1.1 + k1.2).toNat < ws.length := by rw [hl]; exact u2
                  show W p l e R s m args below meth c H locs z.2.2.2.1 z.2.2.2.2.1 Q (F0 m (rx_zpc z) ls (.int (Int32.ofInt (rx_ev r n)) :: .int (Int32.ofInt (rx_ev r dp)) :: .ref (ad (r k1.1 + k1.2).toNat) :: .int (Int32.ofInt (rx_ev r sp)) :: .ref (ad (r k0.1 + k0.2).toNat) :: t5.map (rx_iv r ad xa)))
                  refine va_copyi hx hb (by rw [hml]; exact (rx_lvh hR).1.symm) hown (hts _ hw.1) (hts _ hw.2.1) (hts _ hw.2.2.1) (hts _ hw.2.2.2) hK hP hD hS _ _ q0 q1 hw0 hw1 hty0 hty1 rfl c1' b1 a1 (by rw [c2', a2]; omega) (by rw [b2, a2]; omega) (fun _ _ => rfl) (Nat.le_trans g8 hd) ?_ hdg (fun H1 locs1 hP1 hD1 hS1 => ?_)
                  · rw [rx_cats_sum]
                    show rx_cats t5 + (7 + 11) ≤ R.locals
                    omega
                  · rw [b2, a2, c2'] at hP1 hD1
                    have hlg : bx_lg D.2.2.2 = true → False := fun h => by
                      rw [hmd, h] at g12
                      exact absurd g12 (by decide)
                    have hnx : ∀ (S2 : Nat → Int → Int), bx_W0 D cl A s ad S2 H1 → bx_same D.2.1 D.2.2.2 D.2.2.1 S2 → bx_kns D ad xa S2 z.1.length (z.2.2.1.filter (bx_keepR B.1 z.2.2.1 0 ((n0 : Int) - 1) gg1)) r → W p l e R s m args below meth c H1 locs1 z.2.2.2.1 z.2.2.2.2.1 Q (F0 m (rx_zpc z + 3) ls (t5.map (rx_iv r ad xa))) := fun S2 h1 h2 h3 =>
                      rx_at (K _ List.mem_cons_self) rx_same.rf rx_sameA.rf (bx_R_nxh hR ⟨S2, h1, hS1, ⟨h2, fun h => (hlg h).elim⟩, h3⟩ fun y hy => rx_sc.any (hst y (List.mem_cons_of_mem _ (List.mem_cons_of_mem _ (List.mem_cons_of_mem _ (List.mem_cons_of_mem _ (List.mem_cons_of_mem _ hy)))))) ) rfl rfl rfl rfl
                    refine hnx (bx_cpS S (r k0.1 + k0.2).toNat (r k1.1 + k1.2).toNat n0) ⟨_, tys, ?_, hK, hP1, hD1, by rw [List.length_set]; exact hl, ?_⟩ ?_ ?_
                    · intro p_p j_p hp' hj'
                      unfold bx_cpS
                      by_cases hpj : p_p = (r k1.1 + k1.2).toNat ∧ 0 ≤ (j_p : Int) ∧ (j_p : Int) < (n0 : Int)
                      · rw [if_pos hpj]
                        obtain ⟨h1', h2', h3'⟩ := hpj
                        subst h1'
                        have hj0 : j_p < bx_wd (D.2.1.1 (r k0.1 + k0.2).toNat) := by
                          rw [p3]
                          show j_p < n0
                          omega
                        have hv := hV.2.1 d0 k0.2 0 _ _ _ hrd _ hin0 (j_p : Int) _ (by omega) (by omega) (Int.emod_one _) (hInv _ _ p2 hj0)
                        have hv : l0 ≤ S (r k0.1 + k0.2).toNat (j_p : Int) ∧ S (r k0.1 + k0.2).toNat (j_p : Int) ≤ h0 := hv
                        exact hV.2.2.1 d1 k1.2 0 _ _ _ hwr _ hin1 (j_p : Int) _ (by omega) (by omega) (Int.emod_one _) (show l1 ≤ S (r k0.1 + k0.2).toNat (j_p : Int) ∧ S (r k0.1 + k0.2).toNat (j_p : Int) ≤ h1 from ⟨by omega, by omega⟩)
                      · rw [if_neg hpj]
                        exact hInv p_p j_p hp' hj'
                    · intro p_p hp'
                      by_cases hpe : p_p = (r k1.1 + k1.2).toNat
                      · subst hpe
                        refine ⟨_, List.getElem?_set_self hwlen, ?_⟩
                        rw [u3]
                        refine ⟨cA1, q1, _, rfl, hty1, ⟨_, rfl⟩, fun j hj => ?_⟩
                        show Value.int (va_cpy f g 0 0 n0 j) = bx_fv ad 0 (bx_cpS S (r k0.1 + k0.2).toNat (r k1.1 + k1.2).toNat n0 (r k1.1 + k1.2).toNat (j : Int))
                        unfold bx_cpS
                        rw [pk_cpy_in (Nat.zero_le _) (by omega), Nat.zero_add, Nat.sub_zero, if_pos ⟨rfl, by omega, by omega⟩]
                        exact hel0 j hj
                      · obtain ⟨e1', h1', h2'⟩ := hcell p_p hp'
                        refine ⟨e1', by rw [List.getElem?_set_ne (Ne.symm hpe)]; exact h1', ?_⟩
                        have hrow : bx_cpS S (r k0.1 + k0.2).toNat (r k1.1 + k1.2).toNat n0 p_p = S p_p := funext fun j => if_neg fun h => hpe h.1
                        rw [hrow]
                        exact h2'
                    · intro p_p i hp' hi hmd'
                      by_cases hne : p_p = (r k1.1 + k1.2).toNat ∧ i < n0
                      · rw [hne.1, u3] at hmd'
                        have hmd' : D.2.2.2 (1000 + gg1) (bx_sk gg1 i) = false := hmd'
                        rw [hmd] at g11
                        rw [bx_mdr_ok g11 (by omega) (by omega)] at hmd'
                        exact absurd hmd'.symm Bool.false_ne_true
                      · have hrow : bx_cpS S (r k0.1 + k0.2).toNat (r k1.1 + k1.2).toNat n0 p_p (i : Int) = S p_p (i : Int) := if_neg fun h => hne ⟨h.1, by omega⟩
                        rw [hrow]
                        exact hsm.1 p_p i hp' hi hmd'
                    · intro y hy
                      obtain ⟨k1', k2'⟩ := List.mem_filter.mp hy
                      obtain ⟨v1, v2, v3⟩ := hkn y k1'
                      refine ⟨v1, v2, ?_⟩
                      unfold bx_kn at v3 ⊢
                      split
                      · rename_i hc
                        rw [if_pos hc] at v3
                        exact v3
                      · rename_i hc
                        rw [if_neg hc] at v3
                        obtain ⟨w1, w2, tc2, w4, w5⟩ := v3
                        refine ⟨w1, w2, tc2, w4, ?_⟩
                        rw [w5]
                        congr 1
                        unfold bx_cpS
                        refine (if_neg fun hq => ?_).symm
                        obtain ⟨q1', q2', q3'⟩ := hq
                        unfold bx_keepR at k2'
                        rw [Bool.or_eq_true, Bool.or_eq_true, Bool.or_eq_true, decide_eq_true_eq, decide_eq_true_eq, decide_eq_true_eq] at k2'
                        rcases k2' with k2' | k2' | k2' | k2'
                        · exact hc k2'
                        · omega
                        · omega
                        · split at k2'
                          case h_2 => exact Bool.false_ne_true k2'
                          rename_i d' hd'
                          have hin := bx_dm_ok hR.1 hkn hd'
                          split at k2'
                          · rename_i x hk3
                            obtain ⟨-, -, p3'⟩ := hV.1 d' y.1.1.2 _ hk3 _ hin
                            have p3' : D.2.1.1 (rx_ev r y.1.1).toNat = .inl x := p3'
                            rw [q1', u3] at p3'
                            cases p3'
                          · rename_i tc3 n3 g4' hk3
                            obtain ⟨-, -, p3'⟩ := hV.1 d' y.1.1.2 _ hk3 _ hin
                            have p3' : D.2.1.1 (rx_ev r y.1.1).toNat = .inr (tc3, n3, g4') := p3'
                            rw [q1', u3] at p3'
                            cases p3'
                            rw [beq_self_eq_true] at k2'
                            exact Bool.false_ne_true k2'
                          · exact Bool.false_ne_true k2'
                · cases hz
              · cases hz
            · cases hz
          · cases hz
        · cases hz
      · cases hz
    · cases hz
  · cases hz
theorem bx_x_mm_ok {mx : Bool} (hF : rx_Fr G NW AO PX p s m args meth c M) (hn : nm M.1 = M.2.2.2.2.1.cls) (hd : d ≤ R.frames) (hdl : d * 40 ≤ R.locals) (hwi : Jvm.Cond.initialized "java/lang/Math" ∈ G)
    (hw1 : mx = false → Jvm.Cond.methodLink (nm M.1) idx Lib.Math.min.name ∈ G ∧ Jvm.Cond.static Lib.Math.min.name ∈ G ∧ Jvm.Cond.code Lib.Math.min.name Lib.Math.min.code 2 (some .int) ∈ G) (hw2 : mx = true → Jvm.Cond.methodLink (nm M.1) idx Lib.Math.max.name ∈ G ∧ Jvm.Cond.static Lib.Math.max.name ∈ G ∧ Jvm.Cond.code Lib.Math.max.name Lib.Math.max.code 2 (some .int) ∈ G)
    (hdg : decode M.2.1 (rx_zpc z) = .ok (.invokestatic idx, 3)) (hR : rx_R D cl A s xa M.2.2.1 H0 z r ad H locs ls) (hz : bx_x_mm mx d z = some zs) (K : ∀ z_p ∈ zs, rx_G p l e R s m args below meth c Q D cl A xa M.2.2.1 H0 z.1.length z.2.2.1.length r ad z_p) :
    W p l e R s m args below meth c H locs z.2.2.2.1 z.2.2.2.2.1 Q (F0 m (rx_zpc z) ls ((rx_zst z).map (rx_iv r ad xa))) := by
  unfold bx_x_mm at hz
  split at hz
  · rename_i b t1 hp1
    split at hz
    · rename_i a t hp2
      obtain ⟨hc, hz2⟩ := rx_if_ok hz
      clear hz
      cases hz2
      simp only [Bool.and_eq_true, decide_eq_true_eq, beq_iff_eq] at hc
      obtain ⟨c1, c2, c3, c4, c5, c6⟩ := hc
      have e1 := rx_pi_ok hp1
      have e2 := rx_pi_ok hp2
      subst e2
      have hst := rx_stsc hR
      rw [e1] at hst ⊢
      obtain ⟨hx, hb, hr, hml, hown, hlk, hts, -⟩ := id hF
      have ha2 : (Int32.ofInt (rx_ev r a)).toInt = rx_ev r a ∧ a.1 < z.1.length := by
        unfold rx_okI at c1
        obtain ⟨q, hq⟩ := Option.isSome_iff_exists.mp c1
        obtain ⟨q1, q2⟩ := q
        exact (rx_bi_ok hR.1 hq).2.2
      have hb2 : (Int32.ofInt (rx_ev r b)).toInt = rx_ev r b ∧ b.1 < z.1.length := by
        unfold rx_okI at c2
        obtain ⟨q, hq⟩ := Option.isSome_iff_exists.mp c2
        obtain ⟨q1, q2⟩ := q
        exact (rx_bi_ok hR.1 hq).2.2
      obtain ⟨m1, m2⟩ := rx_nm_ok (e := a) hR.1
      obtain ⟨m3, m4⟩ := rx_nm_ok (e := b) hR.1
      have ht : ∀ v ∈ t, rx_sc z.1.length z.2.2.1.length v := fun v hv => hst v (List.mem_cons_of_mem _ (List.mem_cons_of_mem _ hv))
      have hgo : ∀ x : Int32, (x = if Int32.ofInt (rx_ev r b) < Int32.ofInt (rx_ev r a) then Int32.ofInt (rx_ev r (if mx = true then a else b)) else Int32.ofInt (rx_ev r (if mx = true then b else a))) → W p l e R s m args below meth c H locs z.2.2.2.1 z.2.2.2.2.1 Q (F0 m (rx_zpc z + 3) ls (.int x :: t.map (rx_iv r ad xa))) := by
        intro x hxe
        subst hxe
        by_cases hlt : Int32.ofInt (rx_ev r b) < Int32.ofInt (rx_ev r a)
        · rw [if_pos hlt]
          rw [Int32.lt_iff_toInt_lt, ha2.1, hb2.1] at hlt
          refine rx_way_ok (f := (0, rx_nm z.1 b, rx_nm z.1 a)) (st := .inr (0, if mx = true then a else b) :: t) hR ?_ (Nat.le_of_ble_eq_true rfl) (m4 hb2.2) (m2 ha2.2) (fun v hv => ?_) fun z_p hz' => K z_p (List.mem_append_left _ hz')
          · show rx_ev r (rx_nm z.1 b) < rx_ev r (rx_nm z.1 a)
            rw [m1, m3]
            exact hlt
          · rcases List.mem_cons.mp hv with h | h
            · subst h
              cases mx
              · exact hb2.2
              · exact ha2.2
            · exact ht v h
        · rw [if_neg hlt]
          rw [Int32.lt_iff_toInt_lt, ha2.1, hb2.1] at hlt
          refine rx_way_ok (f := (1, rx_nm z.1 a, rx_nm z.1 b)) (st := .inr (0, if mx = true then b else a) :: t) hR ?_ (Nat.le_of_ble_eq_true rfl) (m2 ha2.2) (m4 hb2.2) (fun v hv => ?_) fun z_p hz' => K z_p (List.mem_append_right _ hz')
          · show rx_ev r (rx_nm z.1 a) ≤ rx_ev r (rx_nm z.1 b)
            rw [m1, m3]
            omega
          · rcases List.mem_cons.mp hv with h | h
            · subst h
              cases mx
              · exact ha2.2
              · exact hb2.2
            · exact ht v h
      show W p l e R s m args below meth c H locs z.2.2.2.1 z.2.2.2.2.1 Q (F0 m (rx_zpc z) ls (.int (Int32.ofInt (rx_ev r b)) :: .int (Int32.ofInt (rx_ev r a)) :: t.map (rx_iv r ad xa)))
      cases mx with
      | false =>
        have hw := hw1 rfl
        rw [hn] at hw
        refine va_mmin hx hb (by rw [hml]; exact (rx_lvh hR).1.symm) hown (hts _ hw.1) (hts _ hw.2.1) (hts _ hwi) (hts _ hw.2.2) (Nat.le_trans c3 hd) ?_ (by omega) (by omega) hdg (hgo _ rfl)
        rw [rx_cats_sum]
        omega
      | true =>
        have hw := hw2 rfl
        rw [hn] at hw
        refine va_mmax hx hb (by rw [hml]; exact (rx_lvh hR).1.symm) hown (hts _ hw.1) (hts _ hw.2.1) (hts _ hwi) (hts _ hw.2.2) (Nat.le_trans c3 hd) ?_ (by omega) (by omega) hdg (hgo _ ?_)
        · rw [rx_cats_sum]
          omega
        · by_cases h1 : Int32.ofInt (rx_ev r b) < Int32.ofInt (rx_ev r a)
          · rw [if_pos h1, if_neg (fun h2 => by rw [Int32.lt_iff_toInt_lt] at h1 h2; omega)]
            rfl
          · rw [if_neg h1]
            by_cases h2 : Int32.ofInt (rx_ev r a) < Int32.ofInt (rx_ev r b)
            · rw [if_pos h2]
              rfl
            · rw [if_neg h2]
              refine Int32.toInt_inj.mp ?_
              rw [Int32.lt_iff_toInt_lt] at h1 h2
              show (Int32.ofInt (rx_ev r a)).toInt = (Int32.ofInt (rx_ev r b)).toInt
              omega
    · cases hz
  · cases hz
theorem bx_xh_ok {Cn : Nat → List bx_Ct} {dm : Nat} {cp : Nat → Nat → Option Nat} {sl : Nat → Nat → Option Nat} (hV : bx_VOK D.2.1 B.1) (hmd : B.2.2.2 = D.2.2.2) (hh : rx_xhOK (bx_hook B T Cn) G NW AO cl nm A xa PX l D ad dm)
    (hcp : ∀ o idx k : Nat, cp o idx = some k → (k = 0 → Jvm.Cond.methodLink (nm o) idx arraycopyName ∈ G) ∧ (k = 1 → Jvm.Cond.methodLink (nm o) idx Lib.Math.min.name ∈ G) ∧ (2 ≤ k → Jvm.Cond.methodLink (nm o) idx Lib.Math.max.name ∈ G))
    (hmw : Jvm.Cond.initialized "java/lang/Math" ∈ G ∧ (Jvm.Cond.static Lib.Math.min.name ∈ G ∧ Jvm.Cond.code Lib.Math.min.name Lib.Math.min.code 2 (some .int) ∈ G) ∧ Jvm.Cond.static Lib.Math.max.name ∈ G ∧ Jvm.Cond.code Lib.Math.max.name Lib.Math.max.code 2 (some .int) ∈ G) (hcw : Jvm.Cond.native arraycopyName ∈ G ∧ Jvm.Cond.static arraycopyName ∈ G ∧ Jvm.Cond.initialized "java/lang/System" ∈ G)
    (hsl : ∀ (s : State), PX s → ∀ o idx n : Nat, sl o idx = some n → ∃ tx : String, vk_R (nm o) idx tx (ad n) s) : rx_xhOK (bx_xh B T Cn cp sl) G NW AO cl nm A xa PX l D ad dm := by
  intro d M i len z zs hdm2 h hn p e R s m args below meth c Q H0 H locs ls r hF hA hH0 hmc hms hd hdl hdg hR K
  have h2 : rx_or (bx_xs B cp sl d M i len z) (bx_hook B T Cn d M i len z) = some zs := h
  rcases rx_or_ok h2 with h3 | h3
  · cases i with
    | ldc idx =>
      have h3 : (match sl M.1 idx with
        | some n => rx_if (len == 2) (some [rx_nx z 2 (.inr (3, (0, (n : Int))) :: rx_zst z)])
        | none => none) = some zs := h3
      split at h3
      · rename_i n hn2
        obtain ⟨hl, h4⟩ := rx_ifn h3
        subst hl
        cases h4
        obtain ⟨tx, hZ⟩ := hsl s hF.2.2.2.2.2.2.2.2.2.1 _ _ _ hn2
        obtain ⟨hx, hb, hr, hml, hown, hlk, hts, -⟩ := id hF
        rw [hn] at hZ
        refine va_ldcS hx hb hown hZ hdg ?_
        refine rx_push (v := .inr (3, (0, (n : Int)))) (d := 2) hR ?_ (rx_sc0 hR 3 _) (K _ List.mem_cons_self)
        show Value.ref (ad (rx_ev r (0, (n : Int))).toNat) = _
        rw [rx_ev0 hR.1, Int.toNat_natCast]
      · cases h3
    | invokestatic idx =>
      have h3 : (match cp M.1 idx with
        | some k => rx_if (len == 3) (bx_x_st B k d z)
        | none => none) = some zs := h3
      split at h3
      · rename_i k hk
        obtain ⟨hl, h4⟩ := rx_ifn h3
        subst hl
        obtain ⟨w0, w1, w2⟩ := hcp _ _ _ hk
        match k, w0, w1, w2, h4 with
        | 0, w0, w1, w2, h4 => exact bx_x_copy_ok hV hmd hF hn hd hdl ⟨w0 rfl, hcw⟩ hdg hR h4 K
        | 1, w0, w1, w2, h4 => exact bx_x_mm_ok (mx := false) hF hn hd hdl hmw.1 (fun _ => ⟨w1 rfl, hmw.2.1⟩) (fun h => by cases h) hdg hR h4 K
        | k + 2, w0, w1, w2, h4 => exact bx_x_mm_ok (mx := true) hF hn hd hdl hmw.1 (fun h => by cases h) (fun _ => ⟨w2 (by omega), hmw.2.2⟩) hdg hR h4 K
      · cases h3
    | _ => exact absurd (show (none : Option (List rx_Z)) = some zs from h3) (fun q => by cases q)
  · exact hh d M i len z zs hdm2 h3 hn hF hA hH0 hmc hms hd hdl hdg hR K
end BXZ
end
section
/-! THE BOX MACHINE: places of tables, contracts by quick runs -/
def rx_nth {α : Type} : List α → Nat → Option α
  | [], _ => none
  | a :: l, n => match n with
    | 0 => some a
    | m + 1 => rx_nth l m
def rx_fd (t : List (List (List (List (Option rx_Ent))))) (j pc : Nat) : Option rx_Ent := match rx_nth t (Nat.div j 16) with
  | none => none
  | some t => match rx_nth t (Nat.mod j 16) with
    | none => none
    | some t => match rx_nth t (Nat.div pc 16) with
      | none => none
      | some t => match rx_nth t (Nat.mod pc 16) with
        | some (some e) => some e
        | _ => none
/-! the places of a table hold, if those of its pieces do -/
def rx_chOK (B : bx_B) (xh : rx_Xh) (T : rx_Tb) (M : rx_Mt) : Nat → List (Option rx_Ent) → Prop
  | _, [] => True
  | b, none :: l => rx_chOK B xh T M (b + 1) l
  | b, some e :: l => rx_entOK B xh T M b e ∧ rx_chOK B xh T M (b + 1) l
def rx_mcOK (B : bx_B) (xh : rx_Xh) (T : rx_Tb) (M : rx_Mt) : Nat → List (List (Option rx_Ent)) → Prop
  | _, [] => True
  | b, c :: l => rx_chOK B xh T M b c ∧ rx_mcOK B xh T M (b + 16) l
def rx_goOK (B : bx_B) (xh : rx_Xh) (T : rx_Tb)  : Nat → List (List (List (Option rx_Ent))) → Prop
  | _, [] => True
  | j, L :: l => (∀ M, T.2.2.2.2.2 j = some M → rx_mcOK B xh T M 0 L) ∧ rx_goOK B xh T (j + 1) l
def rx_ggOK (B : bx_B) (xh : rx_Xh) (T : rx_Tb)  : Nat → List (List (List (List (Option rx_Ent)))) → Prop
  | _, [] => True
  | j, G :: l => rx_goOK B xh T j G ∧ rx_ggOK B xh T (j + 16) l
section RXF
variable {B : bx_B} {xh : rx_Xh} {T : rx_Tb} {M : rx_Mt} {b : Nat}
theorem rx_ch_nil : rx_chOK B xh T M b [] := trivial
theorem rx_ch_none {l : List (Option rx_Ent)} (h : rx_chOK B xh T M (b + 1) l) : rx_chOK B xh T M b (none :: l) := h
theorem rx_ch_some {e : rx_Ent} {l : List (Option rx_Ent)} (he : rx_entOK B xh T M b e) (h : rx_chOK B xh T M (b + 1) l) : rx_chOK B xh T M b (some e :: l) := ⟨he, h⟩
theorem rx_mc_nil : rx_mcOK B xh T M b [] := trivial
theorem rx_mc_cons {c : List (Option rx_Ent)} {l : List (List (Option rx_Ent))} (hc : rx_chOK B xh T M b c) (h : rx_mcOK B xh T M (b + 16) l) : rx_mcOK B xh T M b (c :: l) := ⟨hc, h⟩
theorem rx_go_nil : rx_goOK B xh T b [] := trivial
theorem rx_go_item {M0 : rx_Mt} {L : List (List (Option rx_Ent))} (h0 : T.2.2.2.2.2 b = some M0) (hm : rx_mcOK B xh T M0 0 L) : ∀ M, T.2.2.2.2.2 b = some M → rx_mcOK B xh T M 0 L := by
  intro M h
  rw [h0] at h
  cases h
  exact hm
theorem rx_go_cons {L : List (List (Option rx_Ent))} {l : List (List (List (Option rx_Ent)))} (hc : ∀ M, T.2.2.2.2.2 b = some M → rx_mcOK B xh T M 0 L) (h : rx_goOK B xh T (b + 1) l) : rx_goOK B xh T b (L :: l) := ⟨hc, h⟩
theorem rx_gg_nil : rx_ggOK B xh T b [] := trivial
theorem rx_gg_cons {G : List (List (List (Option rx_Ent)))} {l : List (List (List (List (Option rx_Ent))))} (hc : rx_goOK B xh T b G) (h : rx_ggOK B xh T (b + 16) l) : rx_ggOK B xh T b (G :: l) := ⟨hc, h⟩
theorem rx_ch_at : ∀ {c : List (Option rx_Ent)} {b k : Nat} {e : rx_Ent}, rx_chOK B xh T M b c → rx_nth c k = some (some e) → rx_entOK B xh T M (b + k) e
  | [], _, _, _, _, h => by cases h
  | none :: l, b, 0, e, _, h => by cases h
  | some e0 :: l, b, 0, e, hc, h => by
    cases h
    exact hc.1
  | none :: l, b, k + 1, e, hc, h => by
    have := rx_ch_at (c := l) (b := b + 1) (k := k) (e := e) hc h
    rw [show b + 1 + k = b + (k + 1) by omega] at this
    exact this
  | some e0 :: l, b, k + 1, e, hc, h => by
    have := rx_ch_at (c := l) (b := b + 1) (k := k) (e := e) hc.2 h
    rw [show b + 1 + k = b + (k + 1) by omega] at this
    exact this
theorem rx_mc_at : ∀ {L : List (List (Option rx_Ent))} {b k : Nat} {c : List (Option rx_Ent)}, rx_mcOK B xh T M b L → rx_nth L k = some c → rx_chOK B xh T M (b + 16 * k) c
  | [], _, _, _, _, h => by cases h
  | c0 :: l, b, 0, c, hc, h => by
    cases h
    exact hc.1
  | c0 :: l, b, k + 1, c, hc, h => by
    have := rx_mc_at (L := l) (b := b + 16) (k := k) (c := c) hc.2 h
    rw [show b + 16 + 16 * k = b + 16 * (k + 1) by omega] at this
    exact this
theorem rx_go_at : ∀ {G : List (List (List (Option rx_Ent)))} {b k : Nat} {L : List (List (Option rx_Ent))}, rx_goOK B xh T b G → rx_nth G k = some L → ∀ M, T.2.2.2.2.2 (b + k) = some M → rx_mcOK B xh T M 0 L
  | [], _, _, _, _, h => by cases h
  | c0 :: l, b, 0, c, hc, h => by
    cases h
    exact hc.1
  | c0 :: l, b, k + 1, c, hc, h => by
    have := rx_go_at (G := l) (b := b + 1) (k := k) (L := c) hc.2 h
    rw [show b + 1 + k = b + (k + 1) by omega] at this
    exact this
theorem rx_gg_at : ∀ {t : List (List (List (List (Option rx_Ent))))} {b k : Nat} {G : List (List (List (Option rx_Ent)))}, rx_ggOK B xh T b t → rx_nth t k = some G → rx_goOK B xh T (b + 16 * k) G
  | [], _, _, _, _, h => by cases h
  | c0 :: l, b, 0, c, hc, h => by
    cases h
    exact hc.1
  | c0 :: l, b, k + 1, c, hc, h => by
    have := rx_gg_at (t := l) (b := b + 16) (k := k) (G := c) hc.2 h
    rw [show b + 16 + 16 * k = b + 16 * (k + 1) by omega] at this
    exact this
theorem rx_fd_ok {t : List (List (List (List (Option rx_Ent))))} {j pc : Nat} {e : rx_Ent} (hg : rx_ggOK B xh T 0 t) (hm : T.2.2.2.2.2 j = some M) (h : rx_fd t j pc = some e) : rx_entOK B xh T M pc e := by
  unfold rx_fd at h
  split at h
  · cases h
  · rename_i G hG
    split at h
    · cases h
    · rename_i L hL
      split at h
      · cases h
      · rename_i c hc
        split at h
        · rename_i e0 he
          cases h
          have h1 := rx_gg_at hg hG
          have ej : 0 + 16 * (Nat.div j 16) + Nat.mod j 16 = j := by
            have := Nat.div_add_mod j 16
            show 0 + 16 * (j / 16) + j % 16 = j
            omega
          have h2 := rx_go_at h1 hL M (by rw [ej]; exact hm)
          have h3 := rx_mc_at h2 hc
          have h4 := rx_ch_at h3 he
          have ep : 0 + 16 * (Nat.div pc 16) + Nat.mod pc 16 = pc := by
            have := Nat.div_add_mod pc 16
            show 0 + 16 * (pc / 16) + pc % 16 = pc
            omega
          rw [ep] at h4
          exact h4
        · cases h
end RXF
/-- a method keeps its contract: by quick runs -/
def bx_chk2 (B : bx_B) (cx : Nat → Nat → Option rx_Ent) (mk : rx_Z → rx_Z → List rx_E) (f j : Nat) (M : rx_Mt) (ct : bx_Ct) (tab : bx_tab) : Bool := match bx_ent0 B.2.1 ct.1 bx_I0 [] with
  | some (I0, ht0, as) => match bx_ent1 B ct.2.2.2.2 I0 ht0 with
    | some (I, ht) => decide (rx_cats as ≤ M.2.2.1) && (!(bx_lg B.2.2.2) && bx_okO (bx_fE B.2.2.1 ct.2.1) (rx_ex2 cx (bx_cut B.2.2.1 mk tab none) f ct.2.2.2.1 j (I, [], ht, 0, 0, 0, rx_largs 0 as, [])) &&
      tab.all (fun q => q.2.all (fun c => decide (c.2.1.1 < q.1.1.length)) && bx_okO (bx_fE B.2.2.1 ct.2.1) (rx_ex2 cx (bx_cut B.2.2.1 mk tab (some q.2)) f ct.2.2.2.1 j q.1)))
    | none => false
  | none => false
theorem bx_okO_mono {fE : rx_End → Bool} {o1 o2 : Option (List rx_End)} (h : ∀ Es, o1 = some Es → o2 = some Es) (h1 : bx_okO fE o1 = true) : bx_okO fE o2 = true := by
  obtain ⟨Es, h2, h3⟩ := bx_okO_ok h1
  rw [h Es h2]
  exact h3
theorem bx_chk2_ok {B : bx_B} {xh : rx_Xh} {T : rx_Tb} {cx : Nat → Nat → Option rx_Ent} {mk : rx_Z → rx_Z → List rx_E} {f j : Nat} {M : rx_Mt} {ct : bx_Ct} {tab : bx_tab} (hct : ∀ j M pc e, T.2.2.2.2.2 j = some M → cx j pc = some e → rx_entOK B xh T M pc e) (hj : T.2.2.2.2.2 j = some M) (h : bx_chk2 B cx mk f j M ct tab = true) : bx_chk B xh T mk f M ct tab = true := by
  unfold bx_chk2 at h
  unfold bx_chk
  split at h
  · rename_i I0 ht0 as hent
    rw [hent]
    dsimp only
    split at h
    · rename_i I ht hen1
      rw [hen1]
      dsimp only
      rw [Bool.and_eq_true, Bool.and_eq_true, Bool.and_eq_true] at h ⊢
      obtain ⟨h1, ⟨h5, h2⟩, h3⟩ := h
      refine ⟨h1, ⟨h5, bx_okO_mono (fun Es hE => rx_ex2_ok hct _ _ _ _ _ _ _ hj hE) h2⟩, List.all_eq_true.mpr fun q hq => ?_⟩
      have h4 := List.all_eq_true.mp h3 q hq
      rw [Bool.and_eq_true] at h4 ⊢
      exact ⟨h4.1, bx_okO_mono (fun Es hE => rx_ex2_ok hct _ _ _ _ _ _ _ hj hE) h4.2⟩
    · exact absurd h Bool.false_ne_true
  · exact absurd h Bool.false_ne_true
end
