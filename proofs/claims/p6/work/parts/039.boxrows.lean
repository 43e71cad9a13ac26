/-! THE BOX MACHINE: rows -/
def rx_isTc (k : Nat) (tc : Nat) : Bool := tc == k
def rx_isRef (tc : Nat) : Bool := decide (5 ≤ tc)
theorem rx_isTc_ok {k tc : Nat} (h : rx_isTc k tc = true) : tc = k := by
  unfold rx_isTc at h
  exact beq_iff_eq.mp h
theorem rx_isRef_ok {tc : Nat} (h : rx_isRef tc = true) : ∃ n, tc = n + 5 := by
  unfold rx_isRef at h
  rw [decide_eq_true_eq] at h
  exact ⟨tc - 5, by omega⟩
section BXA
variable {p : Program} {l : Launch} {e : Env} {R : Room} {s : State} {m : MethodId} {args : Array Value} {below : List Frame} {meth : Method} {c : Code} {Q : State → Prop}
variable {D : bx_D} {cl : List vw_C} {A : Nat → Prop} {xa : Nat → Nat} {nL : Nat} {H0 H : Heap} {locs : List Loc} {ls : Array Slot} {r : Nat → Int} {ad : Nat → Nat}
variable {cc : ByteArray} {z : rx_Z} {zs : List rx_Z} {V : bx_V}
/-- an entry's bounds -/
theorem rx_ixIn {ix : rx_E} {I : rx_I} {lo hi : Int} {n : Nat} (h : rx_sat I r) (hb : rx_bi I ix = some (lo, hi)) (h0 : 0 ≤ lo) (hn : hi < (n : Int)) : vp_in (Int32.ofInt (rx_ev r ix)) n ∧ (Int32.ofInt (rx_ev r ix)).toNatClampNeg = (rx_ev r ix).toNat ∧ lo ≤ rx_ev r ix ∧ rx_ev r ix ≤ hi ∧ ix.1 < I.length := by
  obtain ⟨h1, h2, h3, h4⟩ := rx_bi_ok h hb
  refine ⟨vp_in_iff.mpr (by rw [h3]; omega), ?_, h1, h2, h4⟩
  show (Int32.ofInt (rx_ev r ix)).toInt.toNat = _
  rw [h3]
theorem bx_h_ald_ok {np : Nat} {md : Nat → Nat → Bool} {okc : Nat → Bool} (hV : bx_VOK D.2.1 V) (hnp : np = D.2.1.2.1) (hmd : md = D.2.2.2) (hR : rx_R D cl A s xa nL H0 z r ad H locs ls) (hz : bx_h_ald V np md okc z = some zs)
    (row : ∀ (ws : va_W) (tys : List (ClassId × FieldType)) (k n tc t0 : Nat) (cA : ClassId) (x : rx_cont) (i : Int32) (rest : List Value), okc tc = true → va_K D.1 cl tys s → va_P D.1 cl ws H → ws[k]? = some (ad k, .inl (cA, n, x)) → tys[t0]? = some (cA, rx_ty cl tc) → rx_sh tc x → vp_in i n →
      W p l e R s m args below meth c H locs z.2.2.2.1 z.2.2.2.2.1 Q (F0 m (rx_zpc z + 1) ls (rx_el x i.toNatClampNeg :: rest)) → W p l e R s m args below meth c H locs z.2.2.2.1 z.2.2.2.2.1 Q (F0 m (rx_zpc z) ls (.int i :: .ref (ad k) :: rest)))
    (K : ∀ z_p ∈ zs, rx_G p l e R s m args below meth c Q D cl A xa nL H0 z.1.length z.2.2.1.length r ad z_p) : W p l e R s m args below meth c H locs z.2.2.2.1 z.2.2.2.2.1 Q (F0 m (rx_zpc z) ls ((rx_zst z).map (rx_iv r ad xa))) := by
  subst hmd
  unfold bx_h_ald at hz
  split at hz
  case h_2 => cases hz
  rename_i ix t hix
  split at hz
  case h_2 => cases hz
  rename_i e0 t2 he
  split at hz
  case h_2 => cases hz
  rename_i d hd
  split at hz
  case h_2 => cases hz
  rename_i tc n g hk
  split at hz
  case isFalse => cases hz
  rename_i hokc
  split at hz
  case h_2 => cases hz
  rename_i lo hi hbi
  split at hz
  case isFalse => cases hz
  rename_i hrange
  obtain ⟨S, ⟨ws, tys, hInv, hK, hP, hD, hl, hcell⟩, hS, hsm, hkn⟩ := id hR.2.2.2.1
  have hin := bx_dm_ok hR.1 hkn hd
  obtain ⟨p1, p2, p3⟩ := hV.1 d e0.2 _ hk _ hin
  obtain ⟨c0, hw, hce⟩ := hcell _ p2
  rw [p3] at hce
  obtain ⟨cA, t0, x, hc0, htys, hsh, hel⟩ := hce
  subst hc0
  obtain ⟨i1, i2, i3, i4, i5⟩ := rx_ixIn hR.1 hbi hrange.1 hrange.2
  have hst := rx_stsc hR
  have et := bx_pp_ok he
  subst et
  rw [rx_pi_ok hix] at hst ⊢
  have hlt : e0.1 < z.1.length := hst _ (List.mem_cons_of_mem _ List.mem_cons_self)
  have hjn : (rx_ev r ix).toNat < n := by omega
  have hjz : (((rx_ev r ix).toNat : Nat) : Int) = rx_ev r ix := by omega
  have hwd : (rx_ev r ix).toNat < bx_wd (D.2.1.1 (r e0.1 + e0.2).toNat) := by
    rw [p3]
    exact hjn
  have hInvj := hInv _ _ p2 hwd
  rw [hjz] at hInvj
  have hx : rx_el x (rx_ev r ix).toNat = bx_fv ad tc (S (r e0.1 + e0.2).toNat (rx_ev r ix)) := by rw [hel _ hjn, hjz]
  split at hz
  · rename_i v hck
    cases hz
    unfold bx_ckr at hck
    split at hck
    case isFalse => cases hck
    rename_i hlh
    obtain ⟨k1, k2, k3⟩ := hkn _ (bx_ck_ok hck)
    unfold bx_kn at k3
    rw [if_neg (by dsimp only; omega)] at k3
    obtain ⟨-, -, tc2, g2, g3⟩ := k3
    have g2 : bx_tcs (D.2.1.1 (r e0.1 + e0.2).toNat) lo.toNat = some tc2 := g2
    rw [p3] at g2
    have g2 : (if lo.toNat < n then some tc else none) = some tc2 := g2
    rw [if_pos (by omega)] at g2
    cases g2
    have g3 : rx_iv r ad xa v = bx_fv ad tc (S (r e0.1 + e0.2).toNat (lo.toNat : Int)) := g3
    have elo : ((lo.toNat : Nat) : Int) = rx_ev r ix := by omega
    rw [elo] at g3
    refine row ws tys _ n tc t0 cA x _ _ hokc hK hP hw htys hsh i1 ?_
    rw [i2, hx]
    refine rx_at (K _ List.mem_cons_self) rx_same.rf rx_sameA.rf (rx_R_nx hR fun y hy => ?_) rfl rfl rfl ?_
    · rcases List.mem_cons.mp hy with h | h
      · subst h; exact rx_sc.any k2
      · exact hst y (List.mem_cons_of_mem _ (List.mem_cons_of_mem _ h))
    · show rx_iv r ad xa v :: t2.map (rx_iv r ad xa) = _
      rw [g3]
  · split at hz
    case h_2 => cases hz
    rename_i ty hty
    split at hz
    case h_2 => cases hz
    rename_i I2 ht2 v hnv
    split at hz
    case h_2 => cases hz
    rename_i ht3 hlog
    cases hz
    obtain ⟨t1, t3⟩ := bx_str_ok hR.2.1 i3
    obtain ⟨r_p, q1, q2, q3, q4, q5, q6, q7, q8⟩ := bx_nv_ok (w := S (r e0.1 + e0.2).toNat (rx_ev r ix)) hV hnp hR.1 hlt hkn hnv (hV.2.1 d e0.2 _ _ _ ty hty _ hin _ _ t1 i4 t3 hInvj)
    have hev : rx_ev r_p e0 = r e0.1 + e0.2 := rx_ev_ext hlt q1
    have hevi : rx_ev r_p ix = rx_ev r ix := rx_ev_ext i5 q1
    have hkc : bx_kns D ad xa S I2.length (bx_kc e0 lo hi v ht2) r_p ∧ (bx_lg D.2.2.2 = true → bx_chain D.2.1 I2.length r_p D.2.2.1 (bx_kc e0 lo hi v ht2) S) := by
      unfold bx_kc
      split
      · rename_i hlh
        refine ⟨fun y hy => ?_, fun hl => bx_chain_skip (bx_notE (by show lo.toNat < 3000000; omega)) (q8 _ (hsm.2 hl))⟩
        rcases List.mem_cons.mp hy with h | h
        · subst h
          refine ⟨Nat.lt_of_lt_of_le hlt q3, q4, ?_⟩
          unfold bx_kn
          rw [if_neg (by dsimp only; omega)]
          show 0 ≤ rx_ev r_p e0 ∧ (rx_ev r_p e0).toNat < D.2.1.2.1 ∧ ∃ tc : Nat, bx_tcs (D.2.1.1 (rx_ev r_p e0).toNat) lo.toNat = some tc ∧ rx_iv r_p ad xa v = bx_fv ad tc (S (rx_ev r_p e0).toNat (lo.toNat : Int))
          rw [hev, p3, show ((lo.toNat : Nat) : Int) = rx_ev r ix by omega]
          refine ⟨p1, p2, tc, ?_, q6⟩
          show (if lo.toNat < n then some tc else none) = some tc
          rw [if_pos (by omega)]
        · exact q5 y h
      · exact ⟨q5, fun hl => q8 _ (hsm.2 hl)⟩
    obtain ⟨l1, l2⟩ := bx_logR_ok (S0 := D.2.2.1) hV q2 hkc.1 hkc.2 hlog q4 (Nat.lt_of_lt_of_le hlt q3) (Nat.lt_of_lt_of_le i5 q3) (by
      rw [hev, hevi, q7])
    refine row ws tys _ n tc t0 cA x _ _ hokc hK hP hw htys hsh i1 ?_
    rw [i2, hx]
    refine rx_at (K _ List.mem_cons_self) q1 rx_sameA.rf (bx_R_nxk hR q3 q1 q2 ⟨S, ⟨ws, tys, hInv, hK, hP, hD, hl, hcell⟩, hS, ⟨hsm.1, l2⟩, l1⟩ fun y hy => ?_) rfl rfl rfl ?_ q3
    · rcases List.mem_cons.mp hy with h | h
      · subst h; exact q4
      · exact rx_sc.any (rx_sc.mono (M_p := 0) (hst y (List.mem_cons_of_mem _ (List.mem_cons_of_mem _ h))) q3 trivial)
    · show rx_iv r_p ad xa v :: t2.map (rx_iv r_p ad xa) = _
      rw [q6, rx_st_ext (fun y hy => hst y (List.mem_cons_of_mem _ (List.mem_cons_of_mem _ hy))) q1 rx_sameA.rf]
theorem bx_keepR_ok {S : Nat → Int → Int} {ht : List rx_C} {N P g tc n : Nat} {lo hi j w : Int} {I : rx_I} {q : rx_C} (hV : bx_VOK D.2.1 V) (hs : rx_sat I r) (hk : bx_kns D ad xa S N ht r) (hP : D.2.1.1 P = .inr (tc, n, g)) (h1 : lo ≤ j) (h2 : j ≤ hi) (hq : q ∈ ht.filter (bx_keepR V ht lo hi g)) : q.1.1.1 < N ∧ rx_sc N 0 q.2 ∧ bx_kn D.2.1 ad xa (bx_up S P j w) r q := by
  obtain ⟨k1, k2⟩ := List.mem_filter.mp hq
  obtain ⟨g1, g2, g3⟩ := hk q k1
  refine ⟨g1, g2, ?_⟩
  unfold bx_kn at g3 ⊢
  split
  · rename_i hc
    rw [if_pos hc] at g3
    exact g3
  · rename_i hc
    rw [if_neg hc] at g3
    obtain ⟨a1, a2, tc2, a4, a5⟩ := g3
    refine ⟨a1, a2, tc2, a4, ?_⟩
    rw [a5, bx_up_ne]
    intro hpq
    obtain ⟨e1, e2⟩ := hpq
    unfold bx_keepR at k2
    rw [Bool.or_eq_true, Bool.or_eq_true, Bool.or_eq_true, decide_eq_true_eq, decide_eq_true_eq, decide_eq_true_eq] at k2
    rcases k2 with k2 | k2 | k2 | k2
    · exact hc k2
    · omega
    · omega
    · split at k2
      case h_2 => exact Bool.false_ne_true k2
      rename_i d hd
      have hin := bx_dm_ok hs hk hd
      split at k2
      · rename_i x hk3
        obtain ⟨-, -, p3⟩ := hV.1 d q.1.1.2 _ hk3 _ hin
        have e3 : D.2.1.1 P = .inl x := by
          rw [← e1]
          exact p3
        rw [hP] at e3
        cases e3
      · rename_i tc3 n3 g4 hk3
        obtain ⟨-, -, p3⟩ := hV.1 d q.1.1.2 _ hk3 _ hin
        have e3 : D.2.1.1 P = .inr (tc3, n3, g4) := by
          rw [← e1]
          exact p3
        rw [hP] at e3
        cases e3
        rw [beq_self_eq_true] at k2
        exact Bool.false_ne_true k2
      · exact Bool.false_ne_true k2
theorem bx_h_ast_ok {dmf : Nat → Int → Bool} {md : Nat → Nat → Bool} {okc : Nat → Bool} (hV : bx_VOK D.2.1 V) (hdm : dmf = D.2.1.2.2.2) (hmd : md = D.2.2.2) (hR : rx_R D cl A s xa nL H0 z r ad H locs ls) (hz : bx_h_ast V dmf md okc z = some zs)
    (row : ∀ (ws : va_W) (tys : List (ClassId × FieldType)) (k n tc t0 : Nat) (cA : ClassId) (x : rx_cont) (i : Int32) (v : rx_V) (ty : FieldType) (rest : List Value), okc tc = true → (rx_iv r ad xa v = bx_fv ad tc (bx_num r v) ∧ ∀ ty : FieldType, rx_tyc ty = tc → narrow ty (rx_iv r ad xa v) = rx_iv r ad xa v) → va_K D.1 cl tys s → va_P D.1 cl ws H → va_D A ws → va_S A H0 H locs → ws[k]? = some (ad k, .inl (cA, n, x)) → tys[t0]? = some (cA, rx_ty cl tc) → rx_sh tc x → vp_in i n →
      (∀ (x' : rx_cont) (H1 : Heap) (locs1 : List Loc), rx_sh tc x' → (∀ j : Nat, rx_el x' j = if j = i.toNatClampNeg then rx_iv r ad xa v else rx_el x j) → va_P D.1 cl (ws.set k (ad k, .inl (cA, n, x'))) H1 → va_D A (ws.set k (ad k, .inl (cA, n, x'))) → va_S A H0 H1 locs1 → W p l e R s m args below meth c H1 locs1 z.2.2.2.1 z.2.2.2.2.1 Q (F0 m (rx_zpc z + 1) ls rest)) →
      W p l e R s m args below meth c H locs z.2.2.2.1 z.2.2.2.2.1 Q (F0 m (rx_zpc z) ls (rx_iv r ad xa v :: .int i :: .ref (ad k) :: rest)))
    (K : ∀ z_p ∈ zs, rx_G p l e R s m args below meth c Q D cl A xa nL H0 z.1.length z.2.2.1.length r ad z_p) : W p l e R s m args below meth c H locs z.2.2.2.1 z.2.2.2.2.1 Q (F0 m (rx_zpc z) ls ((rx_zst z).map (rx_iv r ad xa))) := by
  subst hdm; subst hmd
  unfold bx_h_ast at hz
  split at hz
  case h_2 => cases hz
  rename_i v t0' hv
  split at hz
  case h_2 => cases hz
  rename_i ix t hix
  split at hz
  case h_2 => cases hz
  rename_i e0 t2 he
  split at hz
  case h_2 => cases hz
  rename_i d hd
  split at hz
  case h_2 => cases hz
  rename_i tc n g hk
  split at hz
  case h_2 => cases hz
  rename_i lo hi hbi
  split at hz
  case h_2 => cases hz
  rename_i ty hty
  split at hz
  case isFalse => cases hz
  rename_i hc
  obtain ⟨c1, c2, c3, c4, c5, c6⟩ := hc
  split at hz
  case h_2 => cases hz
  rename_i ht3 hlog
  cases hz
  obtain ⟨S, ⟨ws, tys, hInv, hK, hP, hD, hl, hcell⟩, hS, hsm, hkn⟩ := id hR.2.2.2.1
  have hin := bx_dm_ok hR.1 hkn hd
  obtain ⟨p1, p2, p3⟩ := hV.1 d e0.2 _ hk _ hin
  obtain ⟨c0, hw, hce⟩ := hcell _ p2
  rw [p3] at hce
  obtain ⟨cA, t0, x, hc0, htys, hsh, hel⟩ := hce
  subst hc0
  obtain ⟨i1, i2, i3, i4, i5⟩ := rx_ixIn hR.1 hbi c3 c4
  have hst := rx_stsc hR
  have et := bx_pp_ok he
  subst et
  have et2 := rx_pi_ok hix
  subst et2
  rw [rx_pv_ok hv] at hst ⊢
  have hvsc : rx_sc z.1.length 0 v := rx_sc.any (hst _ List.mem_cons_self)
  have hlt : e0.1 < z.1.length := hst _ (List.mem_cons_of_mem _ (List.mem_cons_of_mem _ List.mem_cons_self))
  have hjn : (rx_ev r ix).toNat < n := by omega
  have hjz : (((rx_ev r ix).toNat : Nat) : Int) = rx_ev r ix := by omega
  obtain ⟨t1, t3⟩ := bx_str_ok hR.2.1 i3
  obtain ⟨n1, n2, n3⟩ := bx_fits_ok hR.1 hkn c5
  have hokT := hV.2.2.1 d e0.2 _ _ _ ty hty _ hin _ _ t1 i4 t3 n2
  have hwlen : (r e0.1 + e0.2).toNat < ws.length := by rw [hl]; exact p2
  have hkf : bx_kns D ad xa (bx_up S (r e0.1 + e0.2).toNat (rx_ev r ix) (bx_num r v)) z.1.length (z.2.2.1.filter (bx_keepR V z.2.2.1 lo hi g)) r := fun y hy => bx_keepR_ok hV hR.1 hkn p3 i3 i4 hy
  have hcf : bx_lg D.2.2.2 = true → bx_chain D.2.1 z.1.length r D.2.2.1 (z.2.2.1.filter (bx_keepR V z.2.2.1 lo hi g)) S := fun hl => bx_chain_filter (fun y hy => by
    have := bx_isE_le hy
    unfold bx_keepR
    rw [decide_eq_true (show 1000000 ≤ y.1.2 by omega), Bool.true_or]) (hsm.2 hl)
  have hkc : bx_kns D ad xa (bx_up S (r e0.1 + e0.2).toNat (rx_ev r ix) (bx_num r v)) z.1.length (bx_kc e0 lo hi v (z.2.2.1.filter (bx_keepR V z.2.2.1 lo hi g))) r ∧ (bx_lg D.2.2.2 = true → bx_chain D.2.1 z.1.length r D.2.2.1 (bx_kc e0 lo hi v (z.2.2.1.filter (bx_keepR V z.2.2.1 lo hi g))) S) := by
    unfold bx_kc
    split
    · rename_i hlh
      refine ⟨fun y hy => ?_, fun hl => bx_chain_skip (bx_notE (by show lo.toNat < 3000000; omega)) (hcf hl)⟩
      rcases List.mem_cons.mp hy with h | h
      · subst h
        refine ⟨hlt, hvsc, ?_⟩
        unfold bx_kn
        rw [if_neg (by dsimp only; omega)]
        show 0 ≤ r e0.1 + e0.2 ∧ (r e0.1 + e0.2).toNat < D.2.1.2.1 ∧ ∃ tc : Nat, bx_tcs (D.2.1.1 (r e0.1 + e0.2).toNat) lo.toNat = some tc ∧ rx_iv r ad xa v = bx_fv ad tc (bx_up S (r e0.1 + e0.2).toNat (rx_ev r ix) (bx_num r v) (r e0.1 + e0.2).toNat (lo.toNat : Int))
        rw [p3, show ((lo.toNat : Nat) : Int) = rx_ev r ix by omega, bx_up_at]
        refine ⟨p1, p2, tc, ?_, n1⟩
        show (if lo.toNat < n then some tc else none) = some tc
        rw [if_pos (by omega)]
      · exact hkf y h
    · exact ⟨hkf, hcf⟩
  obtain ⟨l1, l2⟩ := bx_logW_ok (S := bx_up S (r e0.1 + e0.2).toNat (rx_ev r ix) (bx_num r v)) (S0 := D.2.2.1) hV hR.1 hkc.1 hkc.2 hlog hvsc hlt i5 rfl
  refine row ws tys _ n tc t0 cA x _ v .int _ c1 ⟨n1, fun ty hty => (n3 ty hty).1⟩ hK hP hD hS hw htys hsh i1 fun x' H1 locs1 hsh1 hel1 hP1 hD1 hS1 => ?_
  refine rx_at (K _ List.mem_cons_self) rx_same.rf rx_sameA.rf (bx_R_nxh hR ⟨bx_up S (r e0.1 + e0.2).toNat (rx_ev r ix) (bx_num r v), ⟨_, tys, ?_, hK, hP1, hD1, by rw [List.length_set]; exact hl, ?_⟩, hS1, ⟨?_, l2⟩, l1⟩ fun y hy => rx_sc.any (hst y (List.mem_cons_of_mem _ (List.mem_cons_of_mem _ (List.mem_cons_of_mem _ hy))))) rfl rfl rfl rfl
  · intro p_p j_p hp' hj'
    by_cases hpj : p_p = (r e0.1 + e0.2).toNat ∧ (j_p : Int) = rx_ev r ix
    · obtain ⟨h1, h2⟩ := hpj
      subst h1
      rw [h2, bx_up_at]
      exact hokT
    · rw [bx_up_ne hpj]
      exact hInv p_p j_p hp' hj'
  · intro p_p hp'
    by_cases hpe : p_p = (r e0.1 + e0.2).toNat
    · subst hpe
      refine ⟨_, List.getElem?_set_self hwlen, ?_⟩
      rw [p3]
      refine ⟨cA, t0, x', rfl, htys, hsh1, fun j hj => ?_⟩
      rw [hel1 j, i2]
      by_cases hji : j = (rx_ev r ix).toNat
      · rw [if_pos hji, hji, hjz, bx_up_at, n1]
      · rw [if_neg hji, bx_up_ne (fun h => hji (by omega))]
        exact hel j hj
    · obtain ⟨e1, h1, h2⟩ := hcell p_p hp'
      refine ⟨e1, by
        show (ws.set (r e0.1 + e0.2).toNat _)[p_p]? = _
        rw [List.getElem?_set_ne (Ne.symm hpe)]
        exact h1, ?_⟩
      rw [bx_up_row hpe]
      exact h2
  · intro p_p i hp' hi hmd
    rw [bx_up_ne]
    · exact hsm.1 p_p i hp' hi hmd
    · intro h
      rw [h.1, p3] at hmd
      have hmd : D.2.2.2 (1000 + g) (bx_sk g i) = false := hmd
      rw [bx_mdr_ok c6 (by omega) (by omega)] at hmd
      exact Bool.false_ne_true hmd.symm
theorem bx_alen_ok (hexec : p.tables.exec = Jvm.exec) (hb : c.code = cc) (hV : bx_VOK D.2.1 V) (hdg : decode cc (rx_zpc z) = .ok (.arraylength, 1)) (hR : rx_R D cl A s xa nL H0 z r ad H locs ls) (hz : bx_h_alen V z = some zs)
    (K : ∀ z_p ∈ zs, rx_G p l e R s m args below meth c Q D cl A xa nL H0 z.1.length z.2.2.1.length r ad z_p) : W p l e R s m args below meth c H locs z.2.2.2.1 z.2.2.2.2.1 Q (F0 m (rx_zpc z) ls ((rx_zst z).map (rx_iv r ad xa))) := by
  unfold bx_h_alen at hz
  split at hz
  · rename_i e0 t he
    split at hz
    · rename_i d hd
      split at hz
      · rename_i tc n g hk
        cases hz
        obtain ⟨S, ⟨ws, tys, hInv, hK, hP, hD, hl, hcell⟩, hS, hsm, hkn⟩ := id hR.2.2.2.1
        have hin := bx_dm_ok hR.1 hkn hd
        obtain ⟨p1, p2, p3⟩ := hV.1 d e0.2 _ hk _ hin
        obtain ⟨c0, hw, hce⟩ := hcell _ p2
        rw [p3] at hce
        obtain ⟨cA, t0, x, hc0, htys, hsh, hel⟩ := hce
        subst hc0
        have hst := rx_stsc hR
        rw [bx_pp_ok he] at hst ⊢
        refine va_alen (v := Int32.ofInt (n : Int)) hexec hb hK hP _ t0 hw htys (by rw [Int32.ofInt_eq_ofNat]) hdg ?_
        refine rx_at (K _ List.mem_cons_self) rx_same.rf rx_sameA.rf (rx_R_nx hR fun y hy => ?_) rfl rfl rfl ?_
        · rcases List.mem_cons.mp hy with h | h
          · subst h; exact rx_sc0 hR 0 _
          · exact hst y (List.mem_cons_of_mem _ h)
        · show rx_iv r ad xa (rx_n (n : Int)) :: _ = _
          rw [rx_n_iv hR.1]
      · cases hz
    · cases hz
  · cases hz
theorem bx_iald {np : Nat} {md : Nat → Nat → Bool} (hexec : p.tables.exec = Jvm.exec) (hb : c.code = cc) (hV : bx_VOK D.2.1 V) (hnp : np = D.2.1.2.1) (hmd : md = D.2.2.2) (hdg : decode cc (rx_zpc z) = .ok (.iaload, 1)) (hR : rx_R D cl A s xa nL H0 z r ad H locs ls) (hz : bx_h_ald V np md (rx_isTc 0) z = some zs)
    (K : ∀ z_p ∈ zs, rx_G p l e R s m args below meth c Q D cl A xa nL H0 z.1.length z.2.2.1.length r ad z_p) : W p l e R s m args below meth c H locs z.2.2.2.1 z.2.2.2.2.1 Q (F0 m (rx_zpc z) ls ((rx_zst z).map (rx_iv r ad xa))) := by
  refine bx_h_ald_ok hV hnp hmd hR hz (fun ws tys k n tc t0 cA x i rest hok hK hP hw ht hsh hin kk => ?_) K
  have h0 := rx_isTc_ok hok
  subst h0
  obtain ⟨f, hf⟩ := hsh
  subst hf
  exact va_iald hexec hb hK hP k t0 hw ht hin hdg kk
theorem bx_zald {np : Nat} {md : Nat → Nat → Bool} (hexec : p.tables.exec = Jvm.exec) (hb : c.code = cc) (hV : bx_VOK D.2.1 V) (hnp : np = D.2.1.2.1) (hmd : md = D.2.2.2) (hdg : decode cc (rx_zpc z) = .ok (.baload, 1)) (hR : rx_R D cl A s xa nL H0 z r ad H locs ls) (hz : bx_h_ald V np md (rx_isTc 1) z = some zs)
    (K : ∀ z_p ∈ zs, rx_G p l e R s m args below meth c Q D cl A xa nL H0 z.1.length z.2.2.1.length r ad z_p) : W p l e R s m args below meth c H locs z.2.2.2.1 z.2.2.2.2.1 Q (F0 m (rx_zpc z) ls ((rx_zst z).map (rx_iv r ad xa))) := by
  refine bx_h_ald_ok hV hnp hmd hR hz (fun ws tys k n tc t0 cA x i rest hok hK hP hw ht hsh hin kk => ?_) K
  have h0 := rx_isTc_ok hok
  subst h0
  obtain ⟨f, hf⟩ := hsh
  subst hf
  exact va_zald hexec hb hK hP k t0 hw ht hin hdg kk
theorem bx_lald {np : Nat} {md : Nat → Nat → Bool} (hexec : p.tables.exec = Jvm.exec) (hb : c.code = cc) (hV : bx_VOK D.2.1 V) (hnp : np = D.2.1.2.1) (hmd : md = D.2.2.2) (hdg : decode cc (rx_zpc z) = .ok (.laload, 1)) (hR : rx_R D cl A s xa nL H0 z r ad H locs ls) (hz : bx_h_ald V np md (rx_isTc 2) z = some zs)
    (K : ∀ z_p ∈ zs, rx_G p l e R s m args below meth c Q D cl A xa nL H0 z.1.length z.2.2.1.length r ad z_p) : W p l e R s m args below meth c H locs z.2.2.2.1 z.2.2.2.2.1 Q (F0 m (rx_zpc z) ls ((rx_zst z).map (rx_iv r ad xa))) := by
  refine bx_h_ald_ok hV hnp hmd hR hz (fun ws tys k n tc t0 cA x i rest hok hK hP hw ht hsh hin kk => ?_) K
  have h0 := rx_isTc_ok hok
  subst h0
  obtain ⟨f, hf⟩ := hsh
  subst hf
  exact va_lald hexec hb hK hP k t0 hw ht hin hdg kk
theorem bx_aald {np : Nat} {md : Nat → Nat → Bool} (hexec : p.tables.exec = Jvm.exec) (hb : c.code = cc) (hV : bx_VOK D.2.1 V) (hnp : np = D.2.1.2.1) (hmd : md = D.2.2.2) (hdg : decode cc (rx_zpc z) = .ok (.aaload, 1)) (hR : rx_R D cl A s xa nL H0 z r ad H locs ls) (hz : bx_h_ald V np md rx_isRef z = some zs)
    (K : ∀ z_p ∈ zs, rx_G p l e R s m args below meth c Q D cl A xa nL H0 z.1.length z.2.2.1.length r ad z_p) : W p l e R s m args below meth c H locs z.2.2.2.1 z.2.2.2.2.1 Q (F0 m (rx_zpc z) ls ((rx_zst z).map (rx_iv r ad xa))) := by
  refine bx_h_ald_ok hV hnp hmd hR hz (fun ws tys k n tc t0 cA x i rest hok hK hP hw ht hsh hin kk => ?_) K
  obtain ⟨q, h0⟩ := rx_isRef_ok hok
  subst h0
  obtain ⟨f, hf⟩ := hsh
  subst hf
  exact va_aldq hexec hb hK hP k t0 hw ht hin hdg kk
theorem bx_fv_int {v : rx_V} {w : Int} (h : rx_iv r ad xa v = bx_fv ad 0 w) : ∃ x : Int32, rx_iv r ad xa v = .int x := ⟨_, h⟩
theorem bx_iast {dmf : Nat → Int → Bool} {md : Nat → Nat → Bool} (hexec : p.tables.exec = Jvm.exec) (hb : c.code = cc) (hV : bx_VOK D.2.1 V) (hdm : dmf = D.2.1.2.2.2) (hmd : md = D.2.2.2) (hdg : decode cc (rx_zpc z) = .ok (.iastore, 1)) (hR : rx_R D cl A s xa nL H0 z r ad H locs ls) (hz : bx_h_ast V dmf md (rx_isTc 0) z = some zs)
    (K : ∀ z_p ∈ zs, rx_G p l e R s m args below meth c Q D cl A xa nL H0 z.1.length z.2.2.1.length r ad z_p) : W p l e R s m args below meth c H locs z.2.2.2.1 z.2.2.2.2.1 Q (F0 m (rx_zpc z) ls ((rx_zst z).map (rx_iv r ad xa))) := by
  refine bx_h_ast_ok hV hdm hmd hR hz (fun ws tys k n tc t0 cA x i v ty rest hok hov hK hP hD hS hw ht hsh hin kk => ?_) K
  have h0 := rx_isTc_ok hok
  subst h0
  obtain ⟨f, hf⟩ := hsh
  subst hf
  obtain ⟨y, hy⟩ := bx_fv_int hov.1
  rw [hy] at kk ⊢
  refine va_iast hexec hb hK hP hD hS k t0 hw ht hin hdg fun H1 locs1 hP1 hD1 hS1 => kk (.inl _) H1 locs1 ⟨_, rfl⟩ (fun j => ?_) hP1 hD1 hS1
  show Value.int (upd f i.toNatClampNeg y j) = _
  unfold upd
  by_cases hj : j = i.toNatClampNeg
  · rw [if_pos hj, if_pos hj]
  · rw [if_neg hj, if_neg hj]; rfl
theorem bx_zast {dmf : Nat → Int → Bool} {md : Nat → Nat → Bool} (hexec : p.tables.exec = Jvm.exec) (hb : c.code = cc) (hV : bx_VOK D.2.1 V) (hdm : dmf = D.2.1.2.2.2) (hmd : md = D.2.2.2) (hdg : decode cc (rx_zpc z) = .ok (.bastore, 1)) (hR : rx_R D cl A s xa nL H0 z r ad H locs ls) (hz : bx_h_ast V dmf md (rx_isTc 1) z = some zs)
    (K : ∀ z_p ∈ zs, rx_G p l e R s m args below meth c Q D cl A xa nL H0 z.1.length z.2.2.1.length r ad z_p) : W p l e R s m args below meth c H locs z.2.2.2.1 z.2.2.2.2.1 Q (F0 m (rx_zpc z) ls ((rx_zst z).map (rx_iv r ad xa))) := by
  refine bx_h_ast_ok hV hdm hmd hR hz (fun ws tys k n tc t0 cA x i v ty rest hok hov hK hP hD hS hw ht hsh hin kk => ?_) K
  have h0 := rx_isTc_ok hok
  subst h0
  obtain ⟨f, hf⟩ := hsh
  subst hf
  obtain ⟨y, hy⟩ : ∃ x : Int32, rx_iv r ad xa v = .int x := ⟨_, hov.1⟩
  have hn := hov.2 .boolean rfl
  rw [hy] at kk hn ⊢
  have hnar : vp_nar .boolean y = y := by
    unfold vp_nar
    rw [hn]
  refine va_zast hexec hb hK hP hD hS k t0 hw ht hin hdg fun H1 locs1 hP1 hD1 hS1 => kk (.inl _) H1 locs1 ⟨_, rfl⟩ (fun j => ?_) hP1 hD1 hS1
  show Value.int (upd f i.toNatClampNeg (vp_nar .boolean y) j) = _
  rw [hnar]
  unfold upd
  by_cases hj : j = i.toNatClampNeg
  · rw [if_pos hj, if_pos hj]
  · rw [if_neg hj, if_neg hj]; rfl
theorem bx_last {dmf : Nat → Int → Bool} {md : Nat → Nat → Bool} (hexec : p.tables.exec = Jvm.exec) (hb : c.code = cc) (hV : bx_VOK D.2.1 V) (hdm : dmf = D.2.1.2.2.2) (hmd : md = D.2.2.2) (hdg : decode cc (rx_zpc z) = .ok (.lastore, 1)) (hR : rx_R D cl A s xa nL H0 z r ad H locs ls) (hz : bx_h_ast V dmf md (rx_isTc 2) z = some zs)
    (K : ∀ z_p ∈ zs, rx_G p l e R s m args below meth c Q D cl A xa nL H0 z.1.length z.2.2.1.length r ad z_p) : W p l e R s m args below meth c H locs z.2.2.2.1 z.2.2.2.2.1 Q (F0 m (rx_zpc z) ls ((rx_zst z).map (rx_iv r ad xa))) := by
  refine bx_h_ast_ok hV hdm hmd hR hz (fun ws tys k n tc t0 cA x i v ty rest hok hov hK hP hD hS hw ht hsh hin kk => ?_) K
  have h0 := rx_isTc_ok hok
  subst h0
  obtain ⟨f, hf⟩ := hsh
  subst hf
  obtain ⟨y, hy⟩ : ∃ x : Int64, rx_iv r ad xa v = .long x := ⟨_, hov.1⟩
  rw [hy] at kk ⊢
  refine va_last hexec hb hK hP hD hS k t0 hw ht hin hdg fun H1 locs1 hP1 hD1 hS1 => kk (.inr (.inl _)) H1 locs1 ⟨_, rfl⟩ (fun j => ?_) hP1 hD1 hS1
  show Value.long (vp_updL f i.toNatClampNeg y j) = _
  unfold vp_updL
  by_cases hj : j = i.toNatClampNeg
  · rw [if_pos hj, if_pos hj]
  · rw [if_neg hj, if_neg hj]; rfl
end BXA
