/-! A REFLECTED MACHINE, part 8: what rows do by their kinds, and new cells -/
section RYM
variable {p : Program} {l : Launch} {e : Env} {R : Room} {s : State} {m : MethodId} {args : Array Value} {below : List Frame} {meth : Method} {c : Code} {Q : State → Prop}
variable {D : va_G} {cl : List vw_C} {A : Nat → Prop} {xa : Nat → Nat} {nL : Nat} {H0 H : Heap} {locs : List Loc} {ls : Array Slot} {r : Nat → Int} {ad : Nat → Nat}
variable {cc : ByteArray} {z : ry_Z} {zs : List ry_Z}
theorem ry_isTc_ok {k tc : Nat} (h : ry_isTc k tc = true) : tc = k := by
  unfold ry_isTc at h
  exact beq_iff_eq.mp h
theorem ry_isRef_ok {tc : Nat} (h : ry_isRef tc = true) : ∃ n, tc = n + 5 := by
  unfold ry_isRef at h
  rw [decide_eq_true_eq] at h
  exact ⟨tc - 5, by omega⟩
theorem ry_iald (hexec : p.tables.exec = Jvm.exec) (hb : c.code = cc) (hdg : decode cc (ry_zpc z) = .ok (.iaload, 1)) (hR : ry_R D cl A s xa nL H0 z r ad H locs ls) (hz : ry_h_ald (ry_isTc 0) z = some zs)
    (K : ∀ z_p ∈ zs, ry_G p l e R s m args below meth c Q D cl A xa nL H0 z.1.length z.2.2.1.length r ad z_p) : W p l e R s m args below meth c H locs z.2.2.2.1 z.2.2.2.2.1 Q (F0 m (ry_zpc z) ls ((ry_zst z).map (ry_iv r ad xa))) := by
  refine ry_h_ald_ok hR hz (fun ws tys k n tc t0 cA x i rest hok hK hP hw ht hsh hin kk => ?_) K
  have h0 := ry_isTc_ok hok
  subst h0
  obtain ⟨f, hf⟩ := hsh
  subst hf
  exact va_iald hexec hb hK hP k t0 hw ht hin hdg kk
theorem ry_zald (hexec : p.tables.exec = Jvm.exec) (hb : c.code = cc) (hdg : decode cc (ry_zpc z) = .ok (.baload, 1)) (hR : ry_R D cl A s xa nL H0 z r ad H locs ls) (hz : ry_h_ald (ry_isTc 1) z = some zs)
    (K : ∀ z_p ∈ zs, ry_G p l e R s m args below meth c Q D cl A xa nL H0 z.1.length z.2.2.1.length r ad z_p) : W p l e R s m args below meth c H locs z.2.2.2.1 z.2.2.2.2.1 Q (F0 m (ry_zpc z) ls ((ry_zst z).map (ry_iv r ad xa))) := by
  refine ry_h_ald_ok hR hz (fun ws tys k n tc t0 cA x i rest hok hK hP hw ht hsh hin kk => ?_) K
  have h0 := ry_isTc_ok hok
  subst h0
  obtain ⟨f, hf⟩ := hsh
  subst hf
  exact va_zald hexec hb hK hP k t0 hw ht hin hdg kk
theorem ry_lald (hexec : p.tables.exec = Jvm.exec) (hb : c.code = cc) (hdg : decode cc (ry_zpc z) = .ok (.laload, 1)) (hR : ry_R D cl A s xa nL H0 z r ad H locs ls) (hz : ry_h_ald (ry_isTc 2) z = some zs)
    (K : ∀ z_p ∈ zs, ry_G p l e R s m args below meth c Q D cl A xa nL H0 z.1.length z.2.2.1.length r ad z_p) : W p l e R s m args below meth c H locs z.2.2.2.1 z.2.2.2.2.1 Q (F0 m (ry_zpc z) ls ((ry_zst z).map (ry_iv r ad xa))) := by
  refine ry_h_ald_ok hR hz (fun ws tys k n tc t0 cA x i rest hok hK hP hw ht hsh hin kk => ?_) K
  have h0 := ry_isTc_ok hok
  subst h0
  obtain ⟨f, hf⟩ := hsh
  subst hf
  exact va_lald hexec hb hK hP k t0 hw ht hin hdg kk
theorem ry_aald (hexec : p.tables.exec = Jvm.exec) (hb : c.code = cc) (hdg : decode cc (ry_zpc z) = .ok (.aaload, 1)) (hR : ry_R D cl A s xa nL H0 z r ad H locs ls) (hz : ry_h_ald ry_isRef z = some zs)
    (K : ∀ z_p ∈ zs, ry_G p l e R s m args below meth c Q D cl A xa nL H0 z.1.length z.2.2.1.length r ad z_p) : W p l e R s m args below meth c H locs z.2.2.2.1 z.2.2.2.2.1 Q (F0 m (ry_zpc z) ls ((ry_zst z).map (ry_iv r ad xa))) := by
  refine ry_h_ald_ok hR hz (fun ws tys k n tc t0 cA x i rest hok hK hP hw ht hsh hin kk => ?_) K
  obtain ⟨q, h0⟩ := ry_isRef_ok hok
  subst h0
  obtain ⟨f, hf⟩ := hsh
  subst hf
  exact va_aldq hexec hb hK hP k t0 hw ht hin hdg kk
theorem ry_fit_int {I : ry_I} {v : ry_V} (h : ry_fit I 0 v = true) : ∃ q : ry_E, v = .inr (0, q) := by
  match v, h with
  | .inr (0, q), _ => exact ⟨q, rfl⟩
  | .inl _, h => exact absurd (show false = true from h) Bool.false_ne_true
  | .inr (_ + 1, _), h => exact absurd (show false = true from h) Bool.false_ne_true
theorem ry_fit_bool {I : ry_I} {v : ry_V} (h : ry_fit I 1 v = true) : ∃ q : ry_E, v = .inr (0, q) ∧ ry_in01 I q = true := by
  match v, h with
  | .inr (0, q), h => exact ⟨q, rfl, h⟩
  | .inl _, h => exact absurd (show false = true from h) Bool.false_ne_true
  | .inr (_ + 1, _), h => exact absurd (show false = true from h) Bool.false_ne_true
theorem ry_fit_long {I : ry_I} {v : ry_V} (h : ry_fit I 2 v = true) : ∃ q : ry_E, v = .inr (1, q) := by
  match v, h with
  | .inr (1, q), _ => exact ⟨q, rfl⟩
  | .inl _, h => exact absurd (show false = true from h) Bool.false_ne_true
  | .inr (0, _), h => exact absurd (show false = true from h) Bool.false_ne_true
  | .inr (_ + 2, _), h => exact absurd (show false = true from h) Bool.false_ne_true
theorem ry_iast (hexec : p.tables.exec = Jvm.exec) (hb : c.code = cc) (hdg : decode cc (ry_zpc z) = .ok (.iastore, 1)) (hR : ry_R D cl A s xa nL H0 z r ad H locs ls) (hz : ry_h_ast (ry_isTc 0) (fun I _ _ v => ry_fit I 0 v) z = some zs)
    (K : ∀ z_p ∈ zs, ry_G p l e R s m args below meth c Q D cl A xa nL H0 z.1.length z.2.2.1.length r ad z_p) : W p l e R s m args below meth c H locs z.2.2.2.1 z.2.2.2.2.1 Q (F0 m (ry_zpc z) ls ((ry_zst z).map (ry_iv r ad xa))) := by
  refine ry_h_ast_ok hR hz (fun ws tys k n tc t0 cA x i v rest hok hov hK hP hD hS hcs hw ht hsh hin kk => ?_) K
  have h0 := ry_isTc_ok hok
  subst h0
  obtain ⟨f, hf⟩ := hsh
  subst hf
  obtain ⟨q, hq⟩ := ry_fit_int hov
  subst hq
  refine va_iast hexec hb hK hP hD hS k t0 hw ht hin hdg fun H1 locs1 hP1 hD1 hS1 => kk (.inl _) H1 locs1 ⟨_, rfl⟩ (fun j => ?_) hP1 hD1 hS1
  show Value.int (upd f i.toNatClampNeg (Int32.ofInt (ry_ev r q)) j) = _
  unfold upd
  by_cases hj : j = i.toNatClampNeg
  · rw [if_pos hj, if_pos hj]; rfl
  · rw [if_neg hj, if_neg hj]; rfl
theorem ry_zast (hexec : p.tables.exec = Jvm.exec) (hb : c.code = cc) (hdg : decode cc (ry_zpc z) = .ok (.bastore, 1)) (hR : ry_R D cl A s xa nL H0 z r ad H locs ls) (hz : ry_h_ast (ry_isTc 1) (fun I _ _ v => ry_fit I 1 v) z = some zs)
    (K : ∀ z_p ∈ zs, ry_G p l e R s m args below meth c Q D cl A xa nL H0 z.1.length z.2.2.1.length r ad z_p) : W p l e R s m args below meth c H locs z.2.2.2.1 z.2.2.2.2.1 Q (F0 m (ry_zpc z) ls ((ry_zst z).map (ry_iv r ad xa))) := by
  refine ry_h_ast_ok hR hz (fun ws tys k n tc t0 cA x i v rest hok hov hK hP hD hS hcs hw ht hsh hin kk => ?_) K
  have h0 := ry_isTc_ok hok
  subst h0
  obtain ⟨f, hf⟩ := hsh
  subst hf
  obtain ⟨q, hq, h01⟩ := ry_fit_bool hov
  subst hq
  have hnar : vp_nar .boolean (Int32.ofInt (ry_ev r q)) = Int32.ofInt (ry_ev r q) := by
    rcases ry_in01_ok hR.1 h01 with h | h <;> (rw [h]; rfl)
  refine va_zast hexec hb hK hP hD hS k t0 hw ht hin hdg fun H1 locs1 hP1 hD1 hS1 => kk (.inl _) H1 locs1 ⟨_, rfl⟩ (fun j => ?_) hP1 hD1 hS1
  show Value.int (upd f i.toNatClampNeg (vp_nar .boolean (Int32.ofInt (ry_ev r q))) j) = _
  rw [hnar]
  unfold upd
  by_cases hj : j = i.toNatClampNeg
  · rw [if_pos hj, if_pos hj]; rfl
  · rw [if_neg hj, if_neg hj]; rfl
theorem ry_last (hexec : p.tables.exec = Jvm.exec) (hb : c.code = cc) (hdg : decode cc (ry_zpc z) = .ok (.lastore, 1)) (hR : ry_R D cl A s xa nL H0 z r ad H locs ls) (hz : ry_h_ast (ry_isTc 2) (fun I _ _ v => ry_fit I 2 v) z = some zs)
    (K : ∀ z_p ∈ zs, ry_G p l e R s m args below meth c Q D cl A xa nL H0 z.1.length z.2.2.1.length r ad z_p) : W p l e R s m args below meth c H locs z.2.2.2.1 z.2.2.2.2.1 Q (F0 m (ry_zpc z) ls ((ry_zst z).map (ry_iv r ad xa))) := by
  refine ry_h_ast_ok hR hz (fun ws tys k n tc t0 cA x i v rest hok hov hK hP hD hS hcs hw ht hsh hin kk => ?_) K
  have h0 := ry_isTc_ok hok
  subst h0
  obtain ⟨f, hf⟩ := hsh
  subst hf
  obtain ⟨q, hq⟩ := ry_fit_long hov
  subst hq
  refine va_last hexec hb hK hP hD hS k t0 hw ht hin hdg fun H1 locs1 hP1 hD1 hS1 => kk (.inr (.inl _)) H1 locs1 ⟨_, rfl⟩ (fun j => ?_) hP1 hD1 hS1
  show Value.long (vp_updL f i.toNatClampNeg (Int64.ofInt (ry_ev r q)) j) = _
  unfold vp_updL
  by_cases hj : j = i.toNatClampNeg
  · rw [if_pos hj, if_pos hj]; rfl
  · rw [if_neg hj, if_neg hj]; rfl
def ry_fitA (I : ry_I) (ht : List ry_C) (tc : Nat) (v : ry_V) : Bool := match v with
  | .inl (some k) => (match ht[k]? with
    | some (.inl (ci, _)) => tc == ci + 5
    | _ => false)
  | _ => false
theorem ry_fitA_ok {I : ry_I} {ht : List ry_C} {tc : Nat} {v : ry_V} (h : ry_fitA I ht tc v = true) : ∃ (k ci : Nat) (fs : List ry_X), v = .inl (some k) ∧ ht[k]? = some (.inl (ci, fs)) ∧ tc = ci + 5 := by
  unfold ry_fitA at h
  split at h
  · rename_i k
    split at h
    · rename_i ci fs he
      exact ⟨k, ci, fs, rfl, he, beq_iff_eq.mp h⟩
    · exact absurd h Bool.false_ne_true
  · exact absurd h Bool.false_ne_true
theorem ry_aast (hexec : p.tables.exec = Jvm.exec) (hb : c.code = cc) (hdg : decode cc (ry_zpc z) = .ok (.aastore, 1)) (hR : ry_R D cl A s xa nL H0 z r ad H locs ls) (hz : ry_h_ast ry_isRef ry_fitA z = some zs)
    (K : ∀ z_p ∈ zs, ry_G p l e R s m args below meth c Q D cl A xa nL H0 z.1.length z.2.2.1.length r ad z_p) : W p l e R s m args below meth c H locs z.2.2.2.1 z.2.2.2.2.1 Q (F0 m (ry_zpc z) ls ((ry_zst z).map (ry_iv r ad xa))) := by
  refine ry_h_ast_ok hR hz (fun ws tys k n tc t0 cA x i v rest hok hov hK hP hD hS hcs hw ht hsh hin kk => ?_) K
  obtain ⟨kv, ci, fs, hv, hkv, htc⟩ := ry_fitA_ok hov
  subst hv; subst htc
  obtain ⟨f, hf⟩ := hsh
  subst hf
  obtain ⟨e1, hwv, vs, he1, -, -⟩ := hcs kv _ hkv
  subst he1
  obtain ⟨r0, hr0, -⟩ := hP kv _ hwv
  have ht2 : tys[t0]? = some (cA, .object r0.1) := by
    rw [ht]
    show some (cA, FieldType.object ((cl[ci]?).elim "" (fun q => q.1))) = _
    rw [show cl[ci]? = some r0 from hr0]
    rfl
  refine va_astq hexec hb hK hP hD hS k t0 kv ci hw ht2 hwv hr0 hin hdg fun H1 locs1 hP1 hD1 hS1 => kk (.inr (.inr (.inr (.inr _)))) H1 locs1 ⟨_, rfl⟩ (fun j => ?_) hP1 hD1 hS1
  show va_rf (va_up f i.toNatClampNeg (some (ad kv)) j) = _
  unfold va_up
  by_cases hj : j = i.toNatClampNeg
  · rw [if_pos hj, if_pos hj]; rfl
  · rw [if_neg hj, if_neg hj]; rfl
theorem ry_alen_ok {b : Nat → Int} {bs L : Nat} {xs : Nat → Int32} (hexec : p.tables.exec = Jvm.exec) (hb : c.code = cc) (hdg : decode cc (ry_zpc z) = .ok (.arraylength, 1)) (hR : ry_R D cl A s xa nL H0 z r ad H locs ls) (hz : ry_h_alen z = some zs)
    (hscr : ry_zst z = ry_zst z → ∀ t, (∃ n, ry_zst z = .inr (2, (n, 0)) :: t) → va_X (xa 0) L xs s H0 ∧ xa 0 < H0.size ∧ ¬ A (xa 0) ∧ r 1 = (L : Int))
    (K : ∀ z_p ∈ zs, ry_G p l e R s m args below meth c Q D cl A xa nL H0 z.1.length z.2.2.1.length r ad z_p) : W p l e R s m args below meth c H locs z.2.2.2.1 z.2.2.2.2.1 Q (F0 m (ry_zpc z) ls ((ry_zst z).map (ry_iv r ad xa))) := by
  unfold ry_h_alen at hz
  split at hz
  · rename_i k t hst
    split at hz
    · rename_i tc n df ov hht
      cases hz
      obtain ⟨ws, tys, hK, hP, hD, hS, hl, hc⟩ := id hR.2.2.2.1
      obtain ⟨hcs, e0, hw, hcell⟩ := hc k _ hht
      obtain ⟨cA, t0, x, he0, htys, hsh, hel⟩ := hcell
      subst he0
      have hsts := ry_stsc hR
      rw [ry_pv_ok hst] at hsts ⊢
      refine va_alen (v := Int32.ofInt (n : Int)) hexec hb hK hP k t0 hw htys (by rw [Int32.ofInt_eq_ofNat]) hdg ?_
      refine ry_at (K _ List.mem_cons_self) ry_same.rf ry_sameA.rf (ry_R_nx hR fun y hy => ?_) rfl rfl rfl ?_
      · rcases List.mem_cons.mp hy with h | h
        · subst h; exact ry_sc0 hR 0 _
        · exact hsts y (List.mem_cons_of_mem _ h)
      · show ry_iv r ad xa (ry_n (n : Int)) :: _ = _
        rw [ry_n_iv hR.1]
    · cases hz
  · rename_i n t hst
    cases hz
    have hsts := ry_stsc hR
    have est := ry_pv_ok hst
    obtain ⟨hX, hbl, hbA, hrL⟩ := hscr rfl t ⟨n, est⟩
    obtain ⟨ws, tys, hK, hP, hD, hS, hl, hc⟩ := id hR.2.2.2.1
    rw [est] at hsts ⊢
    refine va_slen hexec hb hX hbl hbA hS hdg ?_
    refine ry_at (K _ List.mem_cons_self) ry_same.rf ry_sameA.rf (ry_R_nx hR fun y hy => ?_) rfl rfl rfl ?_
    · rcases List.mem_cons.mp hy with h | h
      · subst h; exact Nat.lt_of_lt_of_le (Nat.le_of_ble_eq_true rfl) hR.1.2.1
      · exact hsts y (List.mem_cons_of_mem _ h)
    · show Value.int (Int32.ofInt (r 1 + 0)) :: _ = _
      rw [hrL, Int.add_zero, Int32.ofInt_eq_ofNat]
  · cases hz
end RYM
