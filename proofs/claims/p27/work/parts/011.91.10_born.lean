section
noncomputable def ry_dv (tc : Nat) : ry_V := match tc with
  | 0 => ry_n 0
  | 1 => ry_n 0
  | 2 => .inr (1, (0, 0))
  | _ => .inl none
theorem ry_dv_ok {I : ry_I} {r : Nat → Int} {ad xa : Nat → Nat} {ty : FieldType} (h : ry_sat I r) (h9 : ry_tyc ty ≠ 9) : ry_iv r ad xa (ry_dv (ry_tyc ty)) = defaultValue ty := by
  have e0 : ry_iv r ad xa (ry_n 0) = .int 0 := ry_n_iv h 0
  have e1 : ry_iv r ad xa (.inr (1, (0, 0))) = .long 0 := ry_nL_iv h 0
  match ty, h9 with
  | .int, _ => exact e0
  | .boolean, _ => exact e0
  | .long, _ => exact e1
  | .object _, _ => exact rfl
  | .array _, _ => exact rfl
  | .byte, h => exact absurd rfl h
  | .char, h => exact absurd rfl h
  | .short, h => exact absurd rfl h
  | .float, h => exact absurd rfl h
  | .double, h => exact absurd rfl h
theorem ry_dv_sc {N M tc : Nat} (h : 0 < N) : ry_sc N M (ry_dv tc) := by
  match tc with
  | 0 => exact h
  | 1 => exact h
  | 2 => exact h
  | _ + 3 => exact trivial
noncomputable def ry_Nok (s : State) (args : Array Value) (Ts : List Jvm.Cond) (own : String) (cl : List vw_C) (idx : Nat) (q : Nat × List Nat) : Prop :=
  ∃ (C : String) (T : u_T) (N : Nat) (ty : Nat → FieldType), cl[q.1]? = some (C, T, N) ∧ (∀ w ∈ u_ws C T N, w ∈ Ts) ∧ (∀ k, k < N → parseFieldDescriptor (T k).2.2.1 = some (ty k)) ∧ q.2.length = N ∧ (∀ k, k < N → q.2[k]? = some (ry_tyc (ty k)) ∧ ry_tyc (ty k) ≠ 9) ∧
    (Jvm.Cond.classLink own idx C).before args s = true ∧ (Jvm.Cond.instantiable C N).before args s = true ∧ (Jvm.Cond.initialized C).before args s = true
noncomputable def ry_Ook (s : State) (args : Array Value) (own : String) (cl : List vw_C) (idx : Nat) (ci : Nat) : Prop :=
  ∃ (C : String) (T : u_T) (N : Nat), cl[ci]? = some (C, T, N) ∧ (Jvm.Cond.classLink own idx C).before args s = true ∧ va_AO C s
noncomputable def ry_nxa (x : ry_C) (n : Nat) (z : ry_Z) (d : Nat) (t : List ry_V) : ry_Z := match z with
  | (I0, F1, ht0, c0, s0, pc0, lv0, _) => (I0, F1, ht0 ++ [x], c0 + 1, s0 + n, pc0 + d, lv0, .inl (some ht0.length) :: t)
noncomputable def ry_h_new (cr : Nat → Option (Nat × List Nat)) (mc ms idx : Nat) (z : ry_Z) : Option (List ry_Z) := match cr idx with
  | some q => if z.2.2.2.1 + 1 ≤ mc ∧ z.2.2.2.2.1 + q.2.length ≤ ms then some [ry_nxa (.inl (q.1, q.2.map (fun tc => .inl (ry_dv tc)))) q.2.length z 3 (ry_zst z)] else none
  | none => none
noncomputable def ry_len (I : ry_I) (e : ry_E) : Option Nat := match ry_bi I e with
  | some (lo, hi) => if lo = hi ∧ 0 ≤ lo ∧ lo ≤ 60000000 then some lo.toNat else none
  | none => none
noncomputable def ry_atc (a : ArrayType) : Option Nat := match a with
  | .int => some 0
  | .boolean => some 1
  | .long => some 2
  | _ => none
noncomputable def ry_h_newa (mc ms : Nat) (a : ArrayType) (z : ry_Z) : Option (List ry_Z) := match ry_pi (ry_zst z), ry_atc a with
  | some (e, t), some tc => match ry_len z.1 e with
    | some n => if z.2.2.2.1 + 1 ≤ mc ∧ z.2.2.2.2.1 + n ≤ ms then some [ry_nxa (.inr (tc, n, .inl (ry_dv tc), [])) n z 2 t] else none
    | none => none
  | _, _ => none
noncomputable def ry_h_newq (ar : Nat → Option Nat) (mc ms idx : Nat) (z : ry_Z) : Option (List ry_Z) := match ry_pi (ry_zst z), ar idx with
  | some (e, t), some ci => match ry_len z.1 e with
    | some n => if z.2.2.2.1 + 1 ≤ mc ∧ z.2.2.2.2.1 + n ≤ ms then some [ry_nxa (.inr (ci + 5, n, .inl (.inl none), [])) n z 3 t] else none
    | none => none
  | _, _ => none
noncomputable def ry_h_sld (z : ry_Z) : Option (List ry_Z) := match ry_pi (ry_zst z) with
  | some (ix, .inr (2, (_, 0)) :: t) => match ry_bi z.1 ix, ry_bi z.1 (1, 0) with
    | some (lo, hi), some (llo, _) => if lo = hi ∧ 0 ≤ lo ∧ lo < llo ∧ lo < 6 then some [ry_nx z 1 (.inr (0, (2 + lo.toNat, 0)) :: t)] else none
    | _, _ => none
  | _ => none
noncomputable def ry_tcase (z : ry_Z) (a : ry_E) (t : List ry_V) (lo al ah : Int) (offs : Array Int) (j : Nat) : List ry_Z :=
  if al ≤ lo + (j : Int) ∧ lo + (j : Int) ≤ ah then ry_way z (2, a, (0, lo + (j : Int))) ((ry_zpc z : Int) + offs.getD j 0).toNat t else []
noncomputable def ry_h_table (dflt lo hi : Int) (offs : Array Int) (z : ry_Z) : Option (List ry_Z) := match ry_pi (ry_zst z), ry_off (ry_zpc z) dflt with
  | some (a, t), some dt => match ry_bi z.1 a with
    | some (al, ah) => if (offs.size : Int) = hi - lo + 1 ∧ offs.toList.all (fun o => decide (0 ≤ (ry_zpc z : Int) + o)) = true ∧ lo ≤ hi + 1 then
        some ((List.range offs.size).flatMap (ry_tcase z (ry_nm z.1 a) t lo al ah offs) ++ ((if al < lo then ry_way z (0, ry_nm z.1 a, (0, lo)) dt t else []) ++ (if hi < ah then ry_way z (0, (0, hi), ry_nm z.1 a) dt t else [])))
      else none
    | none => none
  | _, _ => none
section RYN
variable {p : Program} {l : Launch} {e : Env} {R : Room} {s : State} {m : MethodId} {args : Array Value} {below : List Frame} {meth : Method} {c : Code} {Q : State → Prop}
variable {D : va_G} {cl : List vw_C} {A : Nat → Prop} {xa : Nat → Nat} {nL : Nat} {H0 H : Heap} {locs : List Loc} {ls : Array Slot} {r : Nat → Int} {ad : Nat → Nat}
variable {cc : ByteArray} {z : ry_Z} {zs : List ry_Z}
noncomputable def ry_ad (ad : Nat → Nat) (n q : Nat) : Nat → Nat := fun j => if j = n then q else ad j
theorem ry_ad_same {n q : Nat} : ry_sameA n ad (ry_ad ad n q) := fun j hj => by
  unfold ry_ad
  rw [if_neg (Nat.ne_of_lt hj)]
theorem ry_ad_self {n q : Nat} : ry_ad ad n q n = q := by simp [ry_ad]
theorem ry_made {x : ry_C} {n d q : Nat} {t : List ry_V} {ws : va_W} {tys tys_p : List (ClassId × FieldType)} {e_p : va_E} {H1 : Heap} {k n_p : Nat} (hR : ry_R D cl A s xa nL H0 z r ad H locs ls) (ht : ∀ v ∈ t, ry_sc z.1.length z.2.2.1.length v)
    (hl : ws.length = z.2.2.1.length) (hc : ∀ (k : Nat) (x : ry_C), z.2.2.1[k]? = some x → ry_csc z.1.length z.2.2.1.length x ∧ ∃ e : va_E, ws[k]? = some (ad k, e) ∧ ry_cell cl tys r ad xa x e)
    (htys : ∀ (x : ry_C) (e : va_E), ry_cell cl tys r ad xa x e → ry_cell cl tys_p r ad xa x e) (hK1 : va_K D cl tys_p s) (hP1 : va_P D cl (ws ++ [(q, e_p)]) H1) (hD1 : va_D A (ws ++ [(q, e_p)])) (hS1 : va_S A H0 H1 locs) (hx : ry_csc z.1.length z.2.2.1.length x) (he : ry_cell cl tys_p r ad xa x e_p)
    (hk : z.2.2.2.1 + 1 = k) (hn : z.2.2.2.2.1 + n = n_p)
    (K : ry_G p l e R s m args below meth c Q D cl A xa nL H0 z.1.length z.2.2.1.length r ad (ry_nxa x n z d t)) : W p l e R s m args below meth c H1 locs k n_p Q (F0 m (ry_zpc z + d) ls (.ref q :: t.map (ry_iv r ad xa))) := by
  have ha : ry_sameA z.2.2.1.length ad (ry_ad ad z.2.2.1.length q) := ry_ad_same
  have hlen : (z.2.2.1 ++ [x]).length = z.2.2.1.length + 1 := by simp
  have hW : ry_W D cl A s xa z.1.length (z.2.2.1 ++ [x]) r (ry_ad ad z.2.2.1.length q) H0 H1 locs := by
    refine ⟨ws ++ [(q, e_p)], tys_p, hK1, hP1, hD1, hS1, by simp [hl], fun j y hj => ?_⟩
    rw [hlen]
    by_cases hlt : j < z.2.2.1.length
    · rw [List.getElem?_append_left hlt] at hj
      obtain ⟨h1, e2, h2, h3⟩ := hc j y hj
      refine ⟨ry_csc.mono h1 (Nat.le_refl _) (Nat.le_succ _), e2, ?_, ry_cell_ext (htys _ _ h3) h1 ry_same.rf ha⟩
      rw [List.getElem?_append_left (by rw [hl]; exact hlt), ha j hlt]
      exact h2
    · rw [List.getElem?_append_right (Nat.not_lt.mp hlt)] at hj
      have hz : j - z.2.2.1.length < 1 := (List.getElem?_eq_some_iff.mp hj).1
      have e : j = z.2.2.1.length := by omega
      subst e
      rw [Nat.sub_self] at hj
      cases hj
      refine ⟨ry_csc.mono hx (Nat.le_refl _) (Nat.le_succ _), e_p, ?_, ry_cell_ext he hx ry_same.rf ha⟩
      rw [← hl, List.getElem?_append_right (Nat.le_refl _), Nat.sub_self, hl, ry_ad_self]
      rfl
  have hR_p : ry_R D cl A s xa nL H0 (ry_nxa x n z d t) r (ry_ad ad z.2.2.1.length q) H1 locs ls := by
    refine ⟨hR.1, hR.2.1, hR.2.2.1, hW, ?_, ?_, ?_⟩
    · have h := ry_lvh hR
      show lv_has ls nL (ry_lvs r (ry_ad ad z.2.2.1.length q) xa (ry_zlv z))
      rw [ry_lvs_ext (ry_lvsc hR) ry_same.rf ha]
      exact h
    · intro y hy
      show ry_sc z.1.length (z.2.2.1 ++ [x]).length y.2
      rw [hlen]
      exact ry_sc.mono (ry_lvsc hR y hy) (Nat.le_refl _) (Nat.le_succ _)
    · intro y hy
      show ry_sc z.1.length (z.2.2.1 ++ [x]).length y
      rw [hlen]
      rcases List.mem_cons.mp hy with h | h
      · subst h; exact Nat.lt_succ_self _
      · exact ry_sc.mono (ht y h) (Nat.le_refl _) (Nat.le_succ _)
  refine ry_at K ry_same.rf ha hR_p rfl hk hn ?_
  show Value.ref (ry_ad ad z.2.2.1.length q z.2.2.1.length) :: t.map (ry_iv r (ry_ad ad z.2.2.1.length q) xa) = _
  rw [ry_ad_self, ry_st_ext ht ry_same.rf ha]
theorem ry_h_new_ok {cr : Nat → Option (Nat × List Nat)} {mc ms idx : Nat} {Ts : List Jvm.Cond} {own : String} (hexec : p.tables.exec = Jvm.exec) (hb : c.code = cc) (hts : ∀ w ∈ Ts, w.before args s = true) (hown : s.vm.findClass own = some m.cls) (hA : ∀ q, H0.size ≤ q → A q) (hmc : mc ≤ R.cells) (hms : ms ≤ R.slots) (hC : ∀ q, cr idx = some q → ry_Nok s args Ts own cl idx q) (hdg : decode cc (ry_zpc z) = .ok (.new idx, 3))
    (hR : ry_R D cl A s xa nL H0 z r ad H locs ls) (hz : ry_h_new cr mc ms idx z = some zs)
    (K : ∀ z_p ∈ zs, ry_G p l e R s m args below meth c Q D cl A xa nL H0 z.1.length z.2.2.1.length r ad z_p) : W p l e R s m args below meth c H locs z.2.2.2.1 z.2.2.2.2.1 Q (F0 m (ry_zpc z) ls ((ry_zst z).map (ry_iv r ad xa))) := by
  unfold ry_h_new at hz
  split at hz
  · rename_i q hq
    split at hz
    · rename_i hroom
      cases hz
      obtain ⟨ws, tys, hK, hP, hD, hS, hl, hc⟩ := id hR.2.2.2.1
      obtain ⟨C, T, N, ty, f1, f2, f3, f4, f5, f6, f7, f8⟩ := hC q hq
      rw [f4] at hroom
      have hlen : (q.2.map (fun tc => ry_iv r ad xa (ry_dv tc))).length = N := by rw [List.length_map, f4]
      refine va_new (ci := q.1) (fs := q.2.map (fun tc => ry_iv r ad xa (ry_dv tc))) hexec hb hts f2 ty f3 hown f6 f7 f8 hK hP hD hS hA f1 (fun j hj => ?_) (Nat.le_trans hroom.1 hmc) (Nat.le_trans hroom.2 hms) hdg (fun a H1 hP1 hD1 hS1 => ?_)
      · obtain ⟨g1, g2⟩ := f5 j hj
        unfold vp_V
        rw [List.getD_eq_getElem?_getD, List.getElem?_map, g1]
        exact (ry_dv_ok hR.1 g2).symm
      · refine ry_made hR (ry_stsc hR) hl hc (fun _ _ h => h) hK hP1 hD1 hS1 ?_ ?_ rfl (by rw [f4]) (K _ List.mem_cons_self)
        · intro j f hj
          rw [List.getElem?_map] at hj
          obtain ⟨tc, h1, h2⟩ := Option.map_eq_some_iff.mp hj
          subst h2
          exact ry_dv_sc (ry_pos hR.1)
        · refine ⟨_, rfl, by rw [List.length_map, List.length_map], fun j f hj => ?_⟩
          rw [List.getElem?_map] at hj
          obtain ⟨tc, h1, h2⟩ := Option.map_eq_some_iff.mp hj
          subst h2
          exact ⟨_, by rw [List.getElem?_map, h1]; rfl, rfl⟩
    · cases hz
  · cases hz
theorem ry_len_ok {I : ry_I} {ee : ry_E} {n : Nat} (h : ry_sat I r) (hn : ry_len I ee = some n) : ¬ Int32.ofInt (ry_ev r ee) < 0 ∧ (Int32.ofInt (ry_ev r ee)).toNatClampNeg = n ∧ n ≤ 60000000 := by
  unfold ry_len at hn
  split at hn
  · rename_i lo hi he
    split at hn
    · rename_i hc
      cases hn
      obtain ⟨h1, h2, h3, -⟩ := ry_bi_ok h he
      refine ⟨?_, ?_, by omega⟩
      · rw [Int32.lt_iff_toInt_lt, h3, Int32.toInt_zero]; omega
      · show (Int32.ofInt (ry_ev r ee)).toInt.toNat = _
        rw [h3]; omega
    · cases hn
  · cases hn
theorem ry_h_newa_ok {mc ms : Nat} {a : ArrayType} (hexec : p.tables.exec = Jvm.exec) (hb : c.code = cc) (harr : (Jvm.Cond.arrayClass (newarray.typeOf a)).before args s = true) (hA : ∀ q, H0.size ≤ q → A q) (hmc : mc ≤ R.cells) (hms : ms ≤ R.slots) (hdg : decode cc (ry_zpc z) = .ok (.newarray a, 2))
    (hR : ry_R D cl A s xa nL H0 z r ad H locs ls) (hz : ry_h_newa mc ms a z = some zs)
    (K : ∀ z_p ∈ zs, ry_G p l e R s m args below meth c Q D cl A xa nL H0 z.1.length z.2.2.1.length r ad z_p) : W p l e R s m args below meth c H locs z.2.2.2.1 z.2.2.2.2.1 Q (F0 m (ry_zpc z) ls ((ry_zst z).map (ry_iv r ad xa))) := by
  unfold ry_h_newa at hz
  split at hz
  · rename_i ee t tc he htc
    split at hz
    · rename_i n hn
      split at hz
      · rename_i hroom
        cases hz
        obtain ⟨ws, tys, hK, hP, hD, hS, hl, hc⟩ := id hR.2.2.2.1
        obtain ⟨n1, n2, n3⟩ := ry_len_ok hR.1 hn
        have hsts := ry_stsc hR
        rw [ry_pi_ok he] at hsts ⊢
        have ht : ∀ v ∈ t, ry_sc z.1.length z.2.2.1.length v := fun v hv => hsts v (List.mem_cons_of_mem _ hv)
        have e0 : ry_iv r ad xa (ry_dv 0) = .int 0 := ry_n_iv hR.1 0
        have e2 : ry_iv r ad xa (ry_dv 2) = .long 0 := ry_nL_iv hR.1 0
        have hx : ry_csc z.1.length z.2.2.1.length (.inr (tc, n, .inl (ry_dv tc), [])) := fun j hj => ry_dv_sc (ry_pos hR.1)
        match a, htc, harr, hdg with
        | .int, htc, harr, hdg =>
          cases htc
          exact va_newa (atype := .int) (ty := .int) (a0 := (n, .inl (fun _ => 0))) hexec hb harr rfl hK hP hD hS hA (fun _ => rfl) n1 n2 (by show n * 4 ≤ _; omega) (Nat.le_trans hroom.1 hmc) (Nat.le_trans hroom.2 hms) hdg (fun q cA H1 hK1 hP1 hD1 hS1 => ry_made (n := n) hR ht hl hc (fun _ _ h => ry_cell_tys h) hK1 hP1 hD1 hS1 hx ⟨cA, tys.length, _, rfl, by simp; rfl, ⟨_, rfl⟩, fun j hj => e0.symm⟩ rfl rfl (K _ List.mem_cons_self))
        | .boolean, htc, harr, hdg =>
          cases htc
          exact va_newa (atype := .boolean) (ty := .boolean) (a0 := (n, .inl (fun _ => 0))) hexec hb harr rfl hK hP hD hS hA (fun _ => rfl) n1 n2 (by show n * 1 ≤ _; omega) (Nat.le_trans hroom.1 hmc) (Nat.le_trans hroom.2 hms) hdg (fun q cA H1 hK1 hP1 hD1 hS1 => ry_made (n := n) hR ht hl hc (fun _ _ h => ry_cell_tys h) hK1 hP1 hD1 hS1 hx ⟨cA, tys.length, _, rfl, by simp; rfl, ⟨_, rfl⟩, fun j hj => e0.symm⟩ rfl rfl (K _ List.mem_cons_self))
        | .long, htc, harr, hdg =>
          cases htc
          exact va_newa (atype := .long) (ty := .long) (a0 := (n, .inr (.inl (fun _ => 0)))) hexec hb harr rfl hK hP hD hS hA (fun _ => rfl) n1 n2 (by show n * 8 ≤ _; omega) (Nat.le_trans hroom.1 hmc) (Nat.le_trans hroom.2 hms) hdg (fun q cA H1 hK1 hP1 hD1 hS1 => ry_made (n := n) hR ht hl hc (fun _ _ h => ry_cell_tys h) hK1 hP1 hD1 hS1 hx ⟨cA, tys.length, _, rfl, by simp; rfl, ⟨_, rfl⟩, fun j hj => e2.symm⟩ rfl rfl (K _ List.mem_cons_self))
        | .char, htc, _, _ => cases htc
        | .float, htc, _, _ => cases htc
        | .double, htc, _, _ => cases htc
        | .byte, htc, _, _ => cases htc
        | .short, htc, _, _ => cases htc
      · cases hz
    · cases hz
  · cases hz
theorem ry_h_newq_ok {ar : Nat → Option Nat} {mc ms idx : Nat} {own : String} (hexec : p.tables.exec = Jvm.exec) (hb : c.code = cc) (hown : s.vm.findClass own = some m.cls) (hA : ∀ q, H0.size ≤ q → A q) (hmc : mc ≤ R.cells) (hms : ms ≤ R.slots) (hC : ∀ ci, ar idx = some ci → ry_Ook s args own cl idx ci) (hdg : decode cc (ry_zpc z) = .ok (.anewarray idx, 3))
    (hR : ry_R D cl A s xa nL H0 z r ad H locs ls) (hz : ry_h_newq ar mc ms idx z = some zs)
    (K : ∀ z_p ∈ zs, ry_G p l e R s m args below meth c Q D cl A xa nL H0 z.1.length z.2.2.1.length r ad z_p) : W p l e R s m args below meth c H locs z.2.2.2.1 z.2.2.2.2.1 Q (F0 m (ry_zpc z) ls ((ry_zst z).map (ry_iv r ad xa))) := by
  unfold ry_h_newq at hz
  split at hz
  · rename_i ee t ci he hci
    split at hz
    · rename_i n hn
      split at hz
      · rename_i hroom
        cases hz
        obtain ⟨ws, tys, hK, hP, hD, hS, hl, hc⟩ := id hR.2.2.2.1
        obtain ⟨n1, n2, n3⟩ := ry_len_ok hR.1 hn
        obtain ⟨C, T, N, f1, f2, f3⟩ := hC ci hci
        have hsts := ry_stsc hR
        rw [ry_pi_ok he] at hsts ⊢
        have ht : ∀ v ∈ t, ry_sc z.1.length z.2.2.1.length v := fun v hv => hsts v (List.mem_cons_of_mem _ hv)
        have hty : ry_ty cl (ci + 5) = .object C := by
          show FieldType.object ((cl[ci]?).elim "" (fun q => q.1)) = _
          rw [f1]
          rfl
        exact va_newq hexec hb hown f2 f3 hK hP hD hS hA n1 n2 (by omega) (Nat.le_trans hroom.1 hmc) (Nat.le_trans hroom.2 hms) hdg (fun q cA H1 hK1 hP1 hD1 hS1 => ry_made (x := .inr (ci + 5, n, .inl (.inl none), [])) hR ht hl hc (fun _ _ h => ry_cell_tys h) hK1 hP1 hD1 hS1 (fun j hj => trivial) ⟨cA, tys.length, _, rfl, by rw [hty]; simp, ⟨_, rfl⟩, fun j hj => rfl⟩ rfl rfl (K _ List.mem_cons_self))
      · cases hz
    · cases hz
  · cases hz
theorem ry_h_sld_ok {L : Nat} {xs : Nat → Int32} (hexec : p.tables.exec = Jvm.exec) (hb : c.code = cc) (hX : va_X (xa 0) L xs s H0) (hbl : xa 0 < H0.size) (hbA : ¬ A (xa 0)) (hrL : r 1 = (L : Int)) (hrx : ∀ j : Nat, j < 6 → r (2 + j) = (xs j).toInt) (hdg : decode cc (ry_zpc z) = .ok (.iaload, 1))
    (hR : ry_R D cl A s xa nL H0 z r ad H locs ls) (hz : ry_h_sld z = some zs)
    (K : ∀ z_p ∈ zs, ry_G p l e R s m args below meth c Q D cl A xa nL H0 z.1.length z.2.2.1.length r ad z_p) : W p l e R s m args below meth c H locs z.2.2.2.1 z.2.2.2.2.1 Q (F0 m (ry_zpc z) ls ((ry_zst z).map (ry_iv r ad xa))) := by
  unfold ry_h_sld at hz
  split at hz
  · rename_i ix n t hst
    split at hz
    · rename_i lo hi llo lhi h1 h2
      split at hz
      · rename_i hcond
        obtain ⟨c1, c2, c3, c4⟩ := hcond
        cases hz
        obtain ⟨ws, tys, hK, hP, hD, hS, hl, hc⟩ := id hR.2.2.2.1
        obtain ⟨g1, g2, g3, g4⟩ := ry_bi_ok hR.1 h1
        obtain ⟨k1, k2, -, -⟩ := ry_bi_ok hR.1 h2
        have eL : ry_ev r (1, 0) = (L : Int) := by
          unfold ry_ev
          rw [hrL]
          exact Int.add_zero _
        rw [eL] at k1
        have hsts := ry_stsc hR
        rw [ry_pi_ok hst] at hsts ⊢
        have hin : vp_in (Int32.ofInt (ry_ev r ix)) L := vp_in_iff.mpr (by rw [g3]; omega)
        refine va_sld hexec hb hX hbl hbA hS hin hdg ?_
        have ei : (Int32.ofInt (ry_ev r ix)).toNatClampNeg = lo.toNat := by
          show (Int32.ofInt (ry_ev r ix)).toInt.toNat = _
          rw [g3]
          omega
        rw [ei]
        refine ry_at (K _ List.mem_cons_self) ry_same.rf ry_sameA.rf (ry_R_nx hR fun y hy => ?_) rfl rfl rfl ?_
        · rcases List.mem_cons.mp hy with h | h
          · subst h
            have := hR.1.2.1
            show 2 + lo.toNat < z.1.length
            omega
          · exact hsts y (List.mem_cons_of_mem _ (List.mem_cons_of_mem _ h))
        · show Value.int (Int32.ofInt (r (2 + lo.toNat) + 0)) :: _ = _
          rw [hrx _ (by omega), Int.add_zero, Int32.ofInt_toInt]
      · cases hz
    · cases hz
  · cases hz
theorem ry_h_table_ok {dflt lo hi : Int} {offs : Array Int} {len : Nat} (hexec : p.tables.exec = Jvm.exec) (hb : c.code = cc) (hdg : decode cc (ry_zpc z) = .ok (.tableswitch dflt lo hi offs, len))
    (hR : ry_R D cl A s xa nL H0 z r ad H locs ls) (hz : ry_h_table dflt lo hi offs z = some zs)
    (K : ∀ z_p ∈ zs, ry_G p l e R s m args below meth c Q D cl A xa nL H0 z.1.length z.2.2.1.length r ad z_p) : W p l e R s m args below meth c H locs z.2.2.2.1 z.2.2.2.2.1 Q (F0 m (ry_zpc z) ls ((ry_zst z).map (ry_iv r ad xa))) := by
  unfold ry_h_table at hz
  split at hz
  · rename_i a t dt ha hdt
    split at hz
    · rename_i al ah hbi
      split at hz
      · rename_i hcond
        obtain ⟨c1, c2, c3⟩ := hcond
        cases hz
        obtain ⟨g1, g2, g3, g4⟩ := ry_bi_ok hR.1 hbi
        obtain ⟨m1, m2⟩ := ry_nm_ok (e := a) hR.1
        have hsts := ry_stsc hR
        rw [ry_pi_ok ha] at hsts ⊢
        have ht : ∀ v ∈ t, ry_sc z.1.length z.2.2.1.length v := fun v hv => hsts v (List.mem_cons_of_mem _ hv)
        by_cases hlo : ry_ev r a < lo
        · refine lv_tableOut hexec hb hdg (Or.inl (by rw [g3]; exact hlo)) (ry_off_ok hdt) ?_
          refine ry_way_ok (f := (0, ry_nm z.1 a, (0, lo))) hR ?_ (Nat.le_of_ble_eq_true rfl) (m2 g4) (ry_pos hR.1) ht fun z_p hz_p => K z_p (List.mem_append_right _ (List.mem_append_left _ ?_))
          · show ry_ev r (ry_nm z.1 a) < ry_ev r (0, lo)
            rw [m1, ry_ev0 hR.1]
            exact hlo
          · rw [if_pos (by omega)]
            exact hz_p
        · by_cases hhi : hi < ry_ev r a
          · refine lv_tableOut hexec hb hdg (Or.inr (by rw [g3]; exact hhi)) (ry_off_ok hdt) ?_
            refine ry_way_ok (f := (0, (0, hi), ry_nm z.1 a)) hR ?_ (Nat.le_of_ble_eq_true rfl) (ry_pos hR.1) (m2 g4) ht fun z_p hz_p => K z_p (List.mem_append_right _ (List.mem_append_right _ ?_))
            · show ry_ev r (0, hi) < ry_ev r (ry_nm z.1 a)
              rw [m1, ry_ev0 hR.1]
              exact hhi
            · rw [if_pos (by omega)]
              exact hz_p
          · have hj : (ry_ev r a - lo).toNat < offs.size := by omega
            have hget : offs[(ry_ev r a - lo).toNat]? = some (offs[(ry_ev r a - lo).toNat]) := Array.getElem?_eq_getElem hj
            have hgd : offs.getD (ry_ev r a - lo).toNat 0 = offs[(ry_ev r a - lo).toNat] := by
              rw [Array.getD_eq_getD_getElem?, hget]
              rfl
            have hpos : 0 ≤ (ry_zpc z : Int) + offs[(ry_ev r a - lo).toNat] := by
              have := List.all_eq_true.mp c2 offs[(ry_ev r a - lo).toNat] (by simp)
              exact of_decide_eq_true this
            refine lv_tableIn hexec hb hdg (by rw [g3]; exact hlo) (by rw [g3]; exact hhi) (off := offs[(ry_ev r a - lo).toNat]) (tgt := ((ry_zpc z : Int) + offs[(ry_ev r a - lo).toNat]).toNat) (by rw [g3]; exact hget) (by omega) ?_
            rw [← hgd]
            have hcast : lo + (((ry_ev r a - lo).toNat : Nat) : Int) = ry_ev r a := by omega
            refine ry_way_ok (f := (2, ry_nm z.1 a, (0, lo + (((ry_ev r a - lo).toNat : Nat) : Int)))) hR ?_ (Nat.le_of_ble_eq_true rfl) (m2 g4) (ry_pos hR.1) ht fun z_p hz_p => K z_p (List.mem_append_left _ (List.mem_flatMap.mpr ⟨(ry_ev r a - lo).toNat, List.mem_range.mpr hj, ?_⟩))
            · show ry_ev r (ry_nm z.1 a) = ry_ev r (0, _)
              rw [m1, ry_ev0 hR.1]
              exact hcast.symm
            · unfold ry_tcase
              rw [if_pos (by rw [hcast]; exact ⟨g1, g2⟩)]
              exact hz_p
      · cases hz
    · cases hz
  · cases hz
end RYN
end
section
noncomputable abbrev ry_Mt : Type := Nat × ByteArray × Nat × Option FieldType × MethodName × Bool × Nat × Nat
noncomputable abbrev ry_J : Type := Nat × Nat × Nat × Nat
noncomputable abbrev ry_Tb : Type := (Nat → Nat → Option ry_Q) × (Nat → Nat → Option (Nat × List Nat)) × (Nat → Nat → Option Nat) × (Nat → Nat → Option ry_V) × (Nat → Nat → Option ry_J) × (Nat → Option ry_Mt)
noncomputable def ry_if {α : Type} (b : Bool) (x : Option α) : Option α := match b with
  | true => x
  | false => none
theorem ry_if_ok {α : Type} {b : Bool} {x : Option α} {y : α} (h : ry_if b x = some y) : b = true ∧ x = some y := by
  cases b with
  | true => exact ⟨rfl, h⟩
  | false => exact absurd (show (none : Option α) = some y from h) (fun q => by cases q)
theorem ry_ifn {α : Type} {a b : Nat} {x : Option α} {y : α} (h : ry_if (a == b) x = some y) : a = b ∧ x = some y := ⟨beq_iff_eq.mp (ry_if_ok h).1, (ry_if_ok h).2⟩
noncomputable def ry_or {α : Type} (x y : Option α) : Option α := match x with
  | some a => some a
  | none => y
theorem ry_or_ok {α : Type} {x y : Option α} {a : α} (h : ry_or x y = some a) : x = some a ∨ y = some a := by
  cases x with
  | some b => exact Or.inl h
  | none => exact Or.inr h
noncomputable def ry_h_const (kc : Nat → Nat → Option ry_V) (o idx kd d : Nat) (z : ry_Z) : Option (List ry_Z) := match kc o idx with
  | some (.inr (k, (0, n))) => ry_if (k == kd) (ry_h_push (.inr (k, (0, n))) d z)
  | _ => none
noncomputable def ry_topc (z : ry_Z) : Bool := match ry_pv (ry_zst z) with
  | some (.inl _, _) => true
  | _ => false
noncomputable def ry_step (T : ry_Tb) (lw : Bool) (M : ry_Mt) (i : Instr) (len : Nat) (nx : Except DecodeError (Instr × Nat)) (z : ry_Z) : Option (List ry_Z) := match i with
  | .iconst n => ry_if (len == 1) (ry_h_push (ry_n n) 1 z)
  | .bipush n => ry_if (len == 2) (ry_h_push (ry_n (Int8.ofInt n).toInt32.toInt) 2 z)
  | .sipush n => ry_if (len == 3) (ry_h_push (ry_n (Int16.ofInt n).toInt32.toInt) 3 z)
  | .lconst n => ry_if (len == 1) (ry_h_push (.inr (1, (0, ((n : Nat) : Int)))) 1 z)
  | .aconst_null => ry_if (len == 1) (ry_h_push (.inl none) 1 z)
  | .ldc idx => ry_if (len == 2) (ry_h_const T.2.2.2.1 M.1 idx 0 2 z)
  | .ldc_w idx => ry_if (len == 3) (ry_h_const T.2.2.2.1 M.1 idx 0 3 z)
  | .ldc2_w idx => ry_if (len == 3) (ry_h_const T.2.2.2.1 M.1 idx 1 3 z)
  | .iload_n k => ry_if (len == 1) (ry_h_load 0 k 1 z)
  | .iload k => ry_if (len == 2) (ry_h_load 0 k 2 z)
  | .lload_n k => ry_if (len == 1) (ry_h_load 1 k 1 z)
  | .lload k => ry_if (len == 2) (ry_h_load 1 k 2 z)
  | .aload_n k => ry_if (len == 1) (ry_h_loadA k 1 z)
  | .aload k => ry_if (len == 2) (ry_h_loadA k 2 z)
  | .istore_n k => ry_if (len == 1) (ry_h_istore M.2.2.1 k 1 z)
  | .istore k => ry_if (len == 2) (ry_h_istore M.2.2.1 k 2 z)
  | .lstore_n k => ry_if (len == 1) (ry_h_lstore M.2.2.1 k 1 z)
  | .lstore k => ry_if (len == 2) (ry_h_lstore M.2.2.1 k 2 z)
  | .astore_n k => ry_if (len == 1) (ry_h_astore M.2.2.1 k 1 z)
  | .astore k => ry_if (len == 2) (ry_h_astore M.2.2.1 k 2 z)
  | .iinc k n => ry_if (len == 3) (ry_h_iinc M.2.2.1 k n z)
  | .iadd => ry_if (len == 1) (ry_h_bin 0 z)
  | .isub => ry_if (len == 1) (ry_h_bin 1 z)
  | .imul => ry_if (len == 1) (ry_h_bin 2 z)
  | .idiv => ry_if (len == 1) (ry_h_div 3 z)
  | .irem => ry_if (len == 1) (ry_h_div 4 z)
  | .iand => ry_if (len == 1) (ry_h_bin 5 z)
  | .ior => ry_if (len == 1) (ry_h_bin 6 z)
  | .ixor => ry_if (len == 1) (ry_h_bin 7 z)
  | .ishl => ry_if (len == 1) (ry_h_bin 8 z)
  | .ishr => ry_if (len == 1) (ry_h_bin 9 z)
  | .iushr => ry_if (len == 1) (ry_h_bin 10 z)
  | .ineg => ry_if (len == 1) (ry_h_ineg z)
  | .ladd => ry_if (len == 1) (ry_h_binL 0 z)
  | .lsub => ry_if (len == 1) (ry_h_binL 1 z)
  | .lmul => ry_if (len == 1) (ry_h_binL 2 z)
  | .ldiv => ry_if (len == 1) (ry_h_divL 3 z)
  | .lrem => ry_if (len == 1) (ry_h_divL 4 z)
  | .i2l => ry_if (len == 1) (ry_h_i2l z)
  | .lcmp => ry_if (len == 1) (ry_h_lcmp nx z)
  | .ifCond cnd off => ry_if (len == 3) (ry_h_if cnd off z)
  | .if_icmp cnd off => ry_if (len == 3) (ry_h_icmp cnd off z)
  | .goto off => ry_if (len == 3) (ry_h_goto off z)
  | .tableswitch dflt lo hi offs => ry_h_table dflt lo hi offs z
  | .dup => ry_if (len == 1) (ry_h_dup z)
  | .dup2 => ry_if (len == 1) (ry_h_dup2 z)
  | .pop => ry_if (len == 1) (ry_h_pop z)
  | .getfield idx => ry_if (len == 3) (ry_h_get (T.1 M.1) idx z)
  | .putfield idx => ry_if (len == 3) (ry_h_put (T.1 M.1) M.2.2.2.2.2.1 idx z)
  | .arraylength => ry_if (len == 1 && (lw || ry_topc z)) (ry_h_alen z)
  | .iaload => ry_if (len == 1) (ry_or (ry_h_ald (ry_isTc 0) z) (ry_if lw (ry_h_sld z)))
  | .baload => ry_if (len == 1) (ry_h_ald (ry_isTc 1) z)
  | .laload => ry_if (len == 1) (ry_h_ald (ry_isTc 2) z)
  | .aaload => ry_if (len == 1) (ry_h_ald ry_isRef z)
  | .iastore => ry_if (len == 1) (ry_h_ast (ry_isTc 0) (fun I _ _ v => ry_fit I 0 v) z)
  | .bastore => ry_if (len == 1) (ry_h_ast (ry_isTc 1) (fun I _ _ v => ry_fit I 1 v) z)
  | .lastore => ry_if (len == 1) (ry_h_ast (ry_isTc 2) (fun I _ _ v => ry_fit I 2 v) z)
  | .aastore => ry_if (len == 1) (ry_h_ast ry_isRef ry_fitA z)
  | .new idx => ry_if (len == 3) (ry_h_new (T.2.1 M.1) M.2.2.2.2.2.2.1 M.2.2.2.2.2.2.2 idx z)
  | .newarray a => ry_if (len == 2) (ry_h_newa M.2.2.2.2.2.2.1 M.2.2.2.2.2.2.2 a z)
  | .anewarray idx => ry_if (len == 3) (ry_h_newq (T.2.2.1 M.1) M.2.2.2.2.2.2.1 M.2.2.2.2.2.2.2 idx z)
  | _ => none
noncomputable def ry_Fr (G NW : List Jvm.Cond) (AO : List String) (PX : State → Prop) (p : Program) (s : State) (m : MethodId) (args : Array Value) (meth : Method) (c : Code) (M : ry_Mt) : Prop :=
  p.tables.exec = Jvm.exec ∧ c.code = M.2.1 ∧ meth.sig.returnType = M.2.2.2.1 ∧ c.maxLocals = M.2.2.1 ∧ s.vm.findClass M.2.2.2.2.1.cls = some m.cls ∧ meth.locks = false ∧ (∀ w ∈ G, w.before args s = true) ∧ (∀ w ∈ NW, va_Nw w s) ∧ (∀ C ∈ AO, va_AO C s) ∧ PX s ∧ (M.2.2.2.2.2.1 = true → meth.name = "<init>")
noncomputable def ry_frOK (G NW : List Jvm.Cond) (cl : List vw_C) (nm : Nat → String) (T : ry_Tb) : Prop := ∀ (o idx : Nat) (q : ry_Q), T.1 o idx = some q →
  ∃ (C : String) (F : u_T) (N : Nat) (ty : Nat → FieldType), cl[q.1]? = some (C, F, N) ∧ q.2.1 < N ∧ (∀ w ∈ u_ws C F N, w ∈ G) ∧ (∀ k, k < N → parseFieldDescriptor (F k).2.2.1 = some (ty k)) ∧ (∀ a, a < N → ∀ b, b < N → a ≠ b → (F a).2.1 ≠ (F b).2.1) ∧
    ry_tyc (ty q.2.1) = q.2.2.1 ∧ (F q.2.1).2.2.2 = q.2.2.2.1 ∧ (q.2.2.2.1 = true → q.2.2.2.2 = false → (F q.2.1).1 = nm o) ∧
    ((q.2.2.2.2 = false ∧ Jvm.Cond.fieldLink (nm o) idx (F q.2.1).1 (F q.2.1).2.1 (F q.2.1).2.2.1 ∈ G) ∨ (q.2.2.2.2 = true ∧ ∃ host : String, Jvm.Cond.fieldLinkNest (nm o) idx (F q.2.1).1 (F q.2.1).2.1 (F q.2.1).2.2.1 host ∈ NW))
noncomputable def ry_crOK (G : List Jvm.Cond) (cl : List vw_C) (nm : Nat → String) (T : ry_Tb) : Prop := ∀ (o idx : Nat) (q : Nat × List Nat), T.2.1 o idx = some q →
  ∃ (C : String) (F : u_T) (N : Nat) (ty : Nat → FieldType), cl[q.1]? = some (C, F, N) ∧ (∀ w ∈ u_ws C F N, w ∈ G) ∧ (∀ k, k < N → parseFieldDescriptor (F k).2.2.1 = some (ty k)) ∧ q.2.length = N ∧ (∀ k, k < N → q.2[k]? = some (ry_tyc (ty k)) ∧ ry_tyc (ty k) ≠ 9) ∧
    Jvm.Cond.classLink (nm o) idx C ∈ G ∧ Jvm.Cond.instantiable C N ∈ G ∧ Jvm.Cond.initialized C ∈ G
noncomputable def ry_arOK (G : List Jvm.Cond) (AO : List String) (cl : List vw_C) (nm : Nat → String) (T : ry_Tb) : Prop := ∀ (o idx ci : Nat), T.2.2.1 o idx = some ci →
  ∃ (C : String) (F : u_T) (N : Nat), cl[ci]? = some (C, F, N) ∧ Jvm.Cond.classLink (nm o) idx C ∈ G ∧ C ∈ AO
noncomputable def ry_kcOK (G : List Jvm.Cond) (nm : Nat → String) (T : ry_Tb) : Prop := ∀ (o idx k : Nat) (n : Int), T.2.2.2.1 o idx = some (.inr (k, (0, n))) →
  (k = 0 → Jvm.Cond.constant (nm o) idx (Int32.ofInt n) ∈ G) ∧ (k = 1 → Jvm.Cond.constantLong (nm o) idx (Int64.ofInt n) ∈ G)
noncomputable def ry_acOK (G : List Jvm.Cond) : Prop := Jvm.Cond.arrayClass .int ∈ G ∧ Jvm.Cond.arrayClass .boolean ∈ G ∧ Jvm.Cond.arrayClass .long ∈ G
noncomputable def ry_Scr (lw : Bool) (A : Nat → Prop) (s : State) (xa : Nat → Nat) (H0 : Heap) (r : Nat → Int) : Prop := lw = true → ∃ (L : Nat) (xs : Nat → Int32), va_X (xa 0) L xs s H0 ∧ xa 0 < H0.size ∧ ¬ A (xa 0) ∧ r 1 = (L : Int) ∧ ∀ j : Nat, j < 6 → r (2 + j) = (xs j).toInt
section RYT
variable {p : Program} {l : Launch} {e : Env} {R : Room} {s : State} {m : MethodId} {args : Array Value} {below : List Frame} {meth : Method} {c : Code} {Q : State → Prop}
variable {D : va_G} {cl : List vw_C} {A : Nat → Prop} {xa : Nat → Nat} {H0 H : Heap} {locs : List Loc} {ls : Array Slot} {r : Nat → Int} {ad : Nat → Nat}
variable {z : ry_Z} {zs : List ry_Z} {G NW : List Jvm.Cond} {AO : List String} {PX : State → Prop} {T : ry_Tb} {M : ry_Mt} {nm : Nat → String}
theorem ry_Fok_of (hF : ry_Fr G NW AO PX p s m args meth c M) (hn : nm M.1 = M.2.2.2.2.1.cls) (hT : ry_frOK G NW cl nm T) {idx : Nat} {q : ry_Q} (hq : T.1 M.1 idx = some q) : ry_Fok s args G M.2.2.2.2.1.cls cl idx q := by
  obtain ⟨C, F, N, ty, h1, h2, h3, h4, h5, h6, h7, h8, h9⟩ := hT M.1 idx q hq
  rw [hn] at h8 h9
  refine ⟨C, F, N, ty, h1, h2, h3, h4, h5, h6, h7, h8, ?_⟩
  rcases h9 with ⟨k1, k2⟩ | ⟨k1, host, k2⟩
  · exact Or.inl ⟨k1, hF.2.2.2.2.2.2.1 _ k2⟩
  · exact Or.inr ⟨k1, host, va_Nw.use rfl (hF.2.2.2.2.2.2.2.1 _ k2)⟩
theorem ry_Nok_of (hF : ry_Fr G NW AO PX p s m args meth c M) (hn : nm M.1 = M.2.2.2.2.1.cls) (hT : ry_crOK G cl nm T) {idx : Nat} {q : Nat × List Nat} (hq : T.2.1 M.1 idx = some q) : ry_Nok s args G M.2.2.2.2.1.cls cl idx q := by
  obtain ⟨C, F, N, ty, h1, h2, h3, h4, h5, h6, h7, h8⟩ := hT M.1 idx q hq
  rw [hn] at h6
  exact ⟨C, F, N, ty, h1, h2, h3, h4, h5, hF.2.2.2.2.2.2.1 _ h6, hF.2.2.2.2.2.2.1 _ h7, hF.2.2.2.2.2.2.1 _ h8⟩
theorem ry_Ook_of (hF : ry_Fr G NW AO PX p s m args meth c M) (hn : nm M.1 = M.2.2.2.2.1.cls) (hT : ry_arOK G AO cl nm T) {idx ci : Nat} (hq : T.2.2.1 M.1 idx = some ci) : ry_Ook s args M.2.2.2.2.1.cls cl idx ci := by
  obtain ⟨C, F, N, h1, h2, h3⟩ := hT M.1 idx ci hq
  rw [hn] at h2
  exact ⟨C, F, N, h1, hF.2.2.2.2.2.2.1 _ h2, hF.2.2.2.2.2.2.2.2.1 _ h3⟩
set_option maxHeartbeats 4000000 in
theorem ry_step_ok {lw : Bool} {i : Instr} {len : Nat} (hF : ry_Fr G NW AO PX p s m args meth c M) (hn : nm M.1 = M.2.2.2.2.1.cls) (t1 : ry_frOK G NW cl nm T) (t2 : ry_crOK G cl nm T) (t3 : ry_arOK G AO cl nm T) (t4 : ry_kcOK G nm T) (t5 : ry_acOK G)
    (hA : ∀ q, H0.size ≤ q → A q) (hmc : M.2.2.2.2.2.2.1 ≤ R.cells) (hms : M.2.2.2.2.2.2.2 ≤ R.slots) (hscr : ry_Scr lw A s xa H0 r) (hdg : decode M.2.1 (ry_zpc z) = .ok (i, len))
    (hR : ry_R D cl A s xa M.2.2.1 H0 z r ad H locs ls) (hz : ry_step T lw M i len (decode M.2.1 (ry_zpc z + 1)) z = some zs)
    (K : ∀ z_p ∈ zs, ry_G p l e R s m args below meth c Q D cl A xa M.2.2.1 H0 z.1.length z.2.2.1.length r ad z_p) : W p l e R s m args below meth c H locs z.2.2.2.1 z.2.2.2.2.1 Q (F0 m (ry_zpc z) ls ((ry_zst z).map (ry_iv r ad xa))) := by
  obtain ⟨hx, hb, hr, hml, hown, hlk, hts, hnw, hao, hpx, hini⟩ := id hF
  cases i with
  | iconst n =>
    obtain ⟨hl, hz⟩ := ry_ifn hz
    subst hl
    exact ry_h_push_ok hR hz (ry_n_iv hR.1 n) (ry_sc0 hR 0 n) (fun k => lv_iconst hx hb hdg rfl k) K
  | bipush n =>
    obtain ⟨hl, hz⟩ := ry_ifn hz
    subst hl
    exact ry_h_push_ok hR hz (by rw [ry_n_iv hR.1, Int32.ofInt_toInt]) (ry_sc0 hR 0 _) (fun k => lv_bipush hx hb hdg rfl k) K
  | sipush n =>
    obtain ⟨hl, hz⟩ := ry_ifn hz
    subst hl
    exact ry_h_push_ok hR hz (by rw [ry_n_iv hR.1, Int32.ofInt_toInt]) (ry_sc0 hR 0 _) (fun k => lv_sipush hx hb hdg rfl k) K
  | lconst n =>
    obtain ⟨hl, hz⟩ := ry_ifn hz
    subst hl
    exact ry_h_push_ok hR hz (ry_nL_iv hR.1 _) (ry_sc0 hR 1 _) (fun k => lv_lconst hx hb hdg (by rw [← Int64.ofInt_eq_ofNat]) k) K
  | aconst_null =>
    obtain ⟨hl, hz⟩ := ry_ifn hz
    subst hl
    exact ry_h_push_ok hR hz rfl trivial (fun k => lv_null hx hb hdg k) K
  | ldc idx =>
    obtain ⟨hl, hz⟩ := ry_ifn hz
    subst hl
    have hz : ry_h_const T.2.2.2.1 M.1 idx 0 2 z = some zs := hz
    unfold ry_h_const at hz
    split at hz
    · rename_i k n hk
      obtain ⟨hk0, hz⟩ := ry_ifn hz
      subst hk0
      have hw := (t4 M.1 idx _ n hk).1 rfl
      rw [hn] at hw
      exact ry_h_push_ok hR hz (ry_n_iv hR.1 n) (ry_sc0 hR 0 n) (fun k => lv_ldc hx hb hown (hts _ hw) hdg k) K
    · cases hz
  | ldc_w idx =>
    obtain ⟨hl, hz⟩ := ry_ifn hz
    subst hl
    have hz : ry_h_const T.2.2.2.1 M.1 idx 0 3 z = some zs := hz
    unfold ry_h_const at hz
    split at hz
    · rename_i k n hk
      obtain ⟨hk0, hz⟩ := ry_ifn hz
      subst hk0
      have hw := (t4 M.1 idx _ n hk).1 rfl
      rw [hn] at hw
      exact ry_h_push_ok hR hz (ry_n_iv hR.1 n) (ry_sc0 hR 0 n) (fun k => lv_ldcw hx hb hown (hts _ hw) hdg k) K
    · cases hz
  | ldc2_w idx =>
    obtain ⟨hl, hz⟩ := ry_ifn hz
    subst hl
    have hz : ry_h_const T.2.2.2.1 M.1 idx 1 3 z = some zs := hz
    unfold ry_h_const at hz
    split at hz
    · rename_i k n hk
      obtain ⟨hk0, hz⟩ := ry_ifn hz
      subst hk0
      have hw := (t4 M.1 idx _ n hk).2 rfl
      rw [hn] at hw
      exact ry_h_push_ok hR hz (ry_nL_iv hR.1 n) (ry_sc0 hR 1 n) (fun k => lv_ldc2 hx hb hown (hts _ hw) hdg k) K
    · cases hz
  | iload_n k =>
    obtain ⟨hl, hz⟩ := ry_ifn hz
    subst hl
    exact ry_h_load_ok hR hz (fun e0 h k => lv_iload_n hx hb hdg rfl h k) K
  | iload k =>
    obtain ⟨hl, hz⟩ := ry_ifn hz
    subst hl
    exact ry_h_load_ok hR hz (fun e0 h k => lv_iload hx hb hdg h k) K
  | lload_n k =>
    obtain ⟨hl, hz⟩ := ry_ifn hz
    subst hl
    exact ry_h_load_ok hR hz (fun e0 h k => lv_lload_n hx hb hdg rfl h k) K
  | lload k =>
    obtain ⟨hl, hz⟩ := ry_ifn hz
    subst hl
    exact ry_h_load_ok hR hz (fun e0 h k => lv_lload hx hb hdg h k) K
  | aload_n k =>
    obtain ⟨hl, hz⟩ := ry_ifn hz
    subst hl
    exact ry_h_loadA_ok hR hz (fun h k => lv_aload_nN hx hb hdg rfl h k) (fun a h k => lv_aload_n hx hb hdg rfl h k) K
  | aload k =>
    obtain ⟨hl, hz⟩ := ry_ifn hz
    subst hl
    exact ry_h_loadA_ok hR hz (fun h k => lv_aloadN hx hb hdg h k) (fun a h k => lv_aload hx hb hdg h k) K
  | istore_n k =>
    obtain ⟨hl, hz⟩ := ry_ifn hz
    subst hl
    exact ry_h_istore_ok hR hz (fun x rest h k => lv_istore_n hx hb hdg rfl (ry_lvh hR) h rfl k) K
  | istore k =>
    obtain ⟨hl, hz⟩ := ry_ifn hz
    subst hl
    exact ry_h_istore_ok hR hz (fun x rest h k => lv_istore hx hb hdg (ry_lvh hR) h rfl k) K
  | lstore_n k =>
    obtain ⟨hl, hz⟩ := ry_ifn hz
    subst hl
    exact ry_h_lstore_ok hR hz (fun x rest h k => lv_lstore_n hx hb hdg rfl (ry_lvh hR) h rfl k) K
  | lstore k =>
    obtain ⟨hl, hz⟩ := ry_ifn hz
    subst hl
    exact ry_h_lstore_ok hR hz (fun x rest h k => lv_lstore hx hb hdg (ry_lvh hR) h rfl k) K
  | astore_n k =>
    obtain ⟨hl, hz⟩ := ry_ifn hz
    subst hl
    refine ry_h_astore_ok hR hz (fun o rest h k => ?_) K
    cases o with
    | none => exact lv_astore_nN hx hb hdg rfl (ry_lvh hR) h rfl k
    | some a => exact lv_astore_n hx hb hdg rfl (ry_lvh hR) h rfl k
  | astore k =>
    obtain ⟨hl, hz⟩ := ry_ifn hz
    subst hl
    refine ry_h_astore_ok hR hz (fun o rest h k => ?_) K
    cases o with
    | none => exact lv_astoreN hx hb hdg (ry_lvh hR) h rfl k
    | some a => exact lv_astore hx hb hdg (ry_lvh hR) h rfl k
  | iinc k n =>
    obtain ⟨hl, hz⟩ := ry_ifn hz
    subst hl
    exact ry_h_iinc_ok hR hz (fun x v j h1 h2 h3 k => lv_iinc hx hb hdg (ry_lvh hR) h2 h3 h1 rfl k) K
  | iadd =>
    obtain ⟨hl, hz⟩ := ry_ifn hz
    subst hl
    exact ry_h_bin_ok hR hz (fun a b t _ k => lv_iadd hx hb hdg k) K
  | isub =>
    obtain ⟨hl, hz⟩ := ry_ifn hz
    subst hl
    exact ry_h_bin_ok hR hz (fun a b t _ k => lv_isub hx hb hdg k) K
  | imul =>
    obtain ⟨hl, hz⟩ := ry_ifn hz
    subst hl
    exact ry_h_bin_ok hR hz (fun a b t _ k => lv_imul hx hb hdg k) K
  | idiv =>
    obtain ⟨hl, hz⟩ := ry_ifn hz
    subst hl
    exact ry_h_div_ok hR hz (fun x y t h k => lv_idiv hx hb hdg h k) K
  | irem =>
    obtain ⟨hl, hz⟩ := ry_ifn hz
    subst hl
    exact ry_h_div_ok hR hz (fun x y t h k => lv_irem hx hb hdg h k) K
  | iand =>
    obtain ⟨hl, hz⟩ := ry_ifn hz
    subst hl
    exact ry_h_bin_ok hR hz (fun a b t _ k => lv_iand hx hb hdg k) K
  | ior =>
    obtain ⟨hl, hz⟩ := ry_ifn hz
    subst hl
    exact ry_h_bin_ok hR hz (fun a b t _ k => lv_ior hx hb hdg k) K
  | ixor =>
    obtain ⟨hl, hz⟩ := ry_ifn hz
    subst hl
    exact ry_h_bin_ok hR hz (fun a b t _ k => lv_ixor hx hb hdg k) K
  | ishl =>
    obtain ⟨hl, hz⟩ := ry_ifn hz
    subst hl
    exact ry_h_bin_ok hR hz (fun a b t _ k => lv_ishl hx hb hdg k) K
  | ishr =>
    obtain ⟨hl, hz⟩ := ry_ifn hz
    subst hl
    exact ry_h_bin_ok hR hz (fun a b t _ k => lv_ishr hx hb hdg k) K
  | iushr =>
    obtain ⟨hl, hz⟩ := ry_ifn hz
    subst hl
    exact ry_h_bin_ok hR hz (fun a b t _ k => lv_iushr hx hb hdg rfl k) K
  | ineg =>
    obtain ⟨hl, hz⟩ := ry_ifn hz
    subst hl
    exact ry_h_ineg_ok hR hz (fun x t k => lv_ineg hx hb hdg k) K
  | ladd =>
    obtain ⟨hl, hz⟩ := ry_ifn hz
    subst hl
    exact ry_h_binL_ok hR hz (fun a b t _ k => lv_ladd hx hb hdg k) K
  | lsub =>
    obtain ⟨hl, hz⟩ := ry_ifn hz
    subst hl
    exact ry_h_binL_ok hR hz (fun a b t _ k => lv_lsub hx hb hdg k) K
  | lmul =>
    obtain ⟨hl, hz⟩ := ry_ifn hz
    subst hl
    exact ry_h_binL_ok hR hz (fun a b t _ k => lv_lmul hx hb hdg k) K
  | ldiv =>
    obtain ⟨hl, hz⟩ := ry_ifn hz
    subst hl
    exact ry_h_divL_ok hR hz (fun x y t h k => lv_ldiv hx hb hdg h k) K
  | lrem =>
    obtain ⟨hl, hz⟩ := ry_ifn hz
    subst hl
    exact ry_h_divL_ok hR hz (fun x y t h k => lv_lrem hx hb hdg h k) K
  | i2l =>
    obtain ⟨hl, hz⟩ := ry_ifn hz
    subst hl
    exact ry_h_i2l_ok hR hz (fun x t k => lv_i2l hx hb hdg rfl k) K
  | lcmp =>
    obtain ⟨hl, hz⟩ := ry_ifn hz
    subst hl
    exact ry_h_lcmp_ok hx hb hdg hR hz K
  | ifCond cnd off =>
    obtain ⟨hl, hz⟩ := ry_ifn hz
    subst hl
    exact ry_h_if_ok hx hb hdg hR hz K
  | if_icmp cnd off =>
    obtain ⟨hl, hz⟩ := ry_ifn hz
    subst hl
    exact ry_h_icmp_ok hx hb hdg hR hz K
  | goto off =>
    obtain ⟨hl, hz⟩ := ry_ifn hz
    subst hl
    exact ry_h_goto_ok hx hb hdg hR hz K
  | tableswitch dflt lo hi offs =>
    have hz : ry_h_table dflt lo hi offs z = some zs := hz
    exact ry_h_table_ok hx hb hdg hR hz K
  | dup =>
    obtain ⟨hl, hz⟩ := ry_ifn hz
    subst hl
    exact ry_h_dup_ok hR hz (fun v t h k => lv_dup hx hb hdg h k) K
  | dup2 =>
    obtain ⟨hl, hz⟩ := ry_ifn hz
    subst hl
    exact ry_h_dup2_ok hR hz (fun v t h k => lv_dup2_2 hx hb hdg h k) (fun v w t h1 h2 k => lv_dup2_11 hx hb hdg h1 h2 k) K
  | pop =>
    obtain ⟨hl, hz⟩ := ry_ifn hz
    subst hl
    exact ry_h_pop_ok hR hz (fun v t h k => lv_pop hx hb hdg h k) K
  | getfield idx =>
    obtain ⟨hl, hz⟩ := ry_ifn hz
    subst hl
    exact ry_h_get_ok hx hb hts hown (fun q hq => ry_Fok_of hF hn t1 hq) hdg hR hz K
  | putfield idx =>
    obtain ⟨hl, hz⟩ := ry_ifn hz
    subst hl
    exact ry_h_put_ok hx hb hts hown hini (fun q hq => ry_Fok_of hF hn t1 hq) hdg hR hz K
  | arraylength =>
    obtain ⟨hl, hz1⟩ := ry_if_ok hz
    rw [Bool.and_eq_true, Bool.or_eq_true] at hl
    obtain ⟨hl, hlw⟩ := hl
    have hl := beq_iff_eq.mp hl
    subst hl
    by_cases hlw2 : lw = true
    · obtain ⟨L, xs, hX, hbl, hbA, hrL, -⟩ := hscr hlw2
      exact ry_alen_ok (b := r) (bs := 0) (L := L) (xs := xs) hx hb hdg hR hz1 (fun _ _ _ => ⟨hX, hbl, hbA, hrL⟩) K
    · refine ry_alen_ok (b := r) (bs := 0) (L := 0) (xs := fun _ => 0) hx hb hdg hR hz1 (fun _ t ht => ?_) K
      obtain ⟨n, hn2⟩ := ht
      rcases hlw with h | h
      · exact absurd h hlw2
      · unfold ry_topc at h
        rw [hn2] at h
        exact absurd (show false = true from h) Bool.false_ne_true
  | iaload =>
    obtain ⟨hl, hz⟩ := ry_ifn hz
    subst hl
    rcases ry_or_ok hz with hz | hz
    · exact ry_iald hx hb hdg hR hz K
    · obtain ⟨hlw, hz⟩ := ry_if_ok hz
      obtain ⟨L, xs, hX, hbl, hbA, hrL, hrx⟩ := hscr hlw
      exact ry_h_sld_ok hx hb hX hbl hbA hrL hrx hdg hR hz K
  | baload =>
    obtain ⟨hl, hz⟩ := ry_ifn hz
    subst hl
    exact ry_zald hx hb hdg hR hz K
  | laload =>
    obtain ⟨hl, hz⟩ := ry_ifn hz
    subst hl
    exact ry_lald hx hb hdg hR hz K
  | aaload =>
    obtain ⟨hl, hz⟩ := ry_ifn hz
    subst hl
    exact ry_aald hx hb hdg hR hz K
  | iastore =>
    obtain ⟨hl, hz⟩ := ry_ifn hz
    subst hl
    exact ry_iast hx hb hdg hR hz K
  | bastore =>
    obtain ⟨hl, hz⟩ := ry_ifn hz
    subst hl
    exact ry_zast hx hb hdg hR hz K
  | lastore =>
    obtain ⟨hl, hz⟩ := ry_ifn hz
    subst hl
    exact ry_last hx hb hdg hR hz K
  | aastore =>
    obtain ⟨hl, hz⟩ := ry_ifn hz
    subst hl
    exact ry_aast hx hb hdg hR hz K
  | new idx =>
    obtain ⟨hl, hz⟩ := ry_ifn hz
    subst hl
    exact ry_h_new_ok hx hb hts hown hA hmc hms (fun q hq => ry_Nok_of hF hn t2 hq) hdg hR hz K
  | newarray a =>
    obtain ⟨hl, hz⟩ := ry_ifn hz
    subst hl
    have harr : (Jvm.Cond.arrayClass (newarray.typeOf a)).before args s = true := by
      have hz : ry_h_newa M.2.2.2.2.2.2.1 M.2.2.2.2.2.2.2 a z = some zs := hz
      unfold ry_h_newa at hz
      split at hz
      · rename_i ee t tc he htc
        cases a with
        | int => exact hts _ t5.1
        | boolean => exact hts _ t5.2.1
        | long => exact hts _ t5.2.2
        | char => cases htc
        | float => cases htc
        | double => cases htc
        | byte => cases htc
        | short => cases htc
      · cases hz
    exact ry_h_newa_ok hx hb harr hA hmc hms hdg hR hz K
  | anewarray idx =>
    obtain ⟨hl, hz⟩ := ry_ifn hz
    subst hl
    exact ry_h_newq_ok hx hb hown hA hmc hms (fun ci hq => ry_Ook_of hF hn t3 hq) hdg hR hz K
  | _ => exact absurd (show (none : Option (List ry_Z)) = some zs from hz) (fun q => by cases q)
end RYT
end
section
noncomputable abbrev ry_End : Type := ry_I × ry_F × List ry_C × Option ry_V
noncomputable def ry_bind {α β : Type} (g : α → Option (List β)) : List α → Option (List β)
  | [] => some []
  | a :: l => match g a with
    | none => none
    | some x => match ry_bind g l with
      | none => none
      | some y => some (x ++ y)
theorem ry_bind_ok {α β : Type} {g : α → Option (List β)} : ∀ {l : List α} {ys : List β}, ry_bind g l = some ys → ∀ a ∈ l, ∃ xs, g a = some xs ∧ ∀ x ∈ xs, x ∈ ys
  | [], _, _, a, ha => absurd ha List.not_mem_nil
  | b :: l, ys, h, a, ha => by
    rw [ry_bind] at h
    split at h
    · cases h
    · rename_i x hx
      split at h
      · cases h
      · rename_i y hy
        cases h
        rcases List.mem_cons.mp ha with e | e
        · subst e
          exact ⟨x, hx, fun w hw => List.mem_append_left _ hw⟩
        · obtain ⟨xs, h1, h2⟩ := ry_bind_ok hy a e
          exact ⟨xs, h1, fun w hw => List.mem_append_right _ (h2 w hw)⟩
noncomputable def ry_cats : List ry_V → Nat
  | [] => 0
  | v :: l => (if ry_k2 v then 2 else 1) + ry_cats l
noncomputable def ry_largs : Nat → List ry_V → List (Nat × ry_V)
  | _, [] => []
  | i, v :: l => (i, v) :: ry_largs (if ry_k2 v then i + 2 else i + 1) l
theorem ry_cats_sum {r : Nat → Int} {ad xa : Nat → Nat} : ∀ (t : List ry_V), ((t.map (ry_iv r ad xa)).map fun v => v.category).sum = ry_cats t
  | [] => rfl
  | v :: t => by
    rw [List.map_cons, List.map_cons, List.sum_cons, ry_cats_sum t, ry_cats]
    cases h : ry_k2 v with
    | true => rw [ry_cat2 h, if_pos rfl]
    | false => rw [ry_cat h, if_neg Bool.false_ne_true]
theorem ry_cats_sl {r : Nat → Int} {ad xa : Nat → Nat} : ∀ (t : List ry_V), (lg_sl (t.map (ry_iv r ad xa))).length = ry_cats t
  | [] => rfl
  | v :: t => by
    have ih := ry_cats_sl (r := r) (ad := ad) (xa := xa) t
    rw [List.map_cons, ry_cats]
    unfold lg_sl at ih ⊢
    rw [List.flatMap_cons, List.length_append, ih]
    cases h : ry_k2 v with
    | true => rw [if_pos (ry_cat2 h), if_pos rfl]; rfl
    | false => rw [if_neg (by rw [ry_cat h]; exact Nat.succ_ne_self 1 ∘ Eq.symm), if_neg Bool.false_ne_true]; rfl
theorem ry_largs_lv {r : Nat → Int} {ad xa : Nat → Nat} : ∀ (t : List ry_V) (i : Nat), ry_lvs r ad xa (ry_largs i t) = lv_args i (t.map (ry_iv r ad xa))
  | [], _ => rfl
  | v :: t, i => by
    rw [List.map_cons, ry_largs, lv_args]
    show (i, ry_iv r ad xa v) :: ry_lvs r ad xa (ry_largs _ t) = _
    rw [ry_largs_lv t]
    cases h : ry_k2 v with
    | true => rw [if_pos (ry_cat2 h), if_pos rfl]
    | false => rw [if_neg Bool.false_ne_true, if_neg (by rw [ry_cat h]; exact Nat.succ_ne_self 1 ∘ Eq.symm)]
theorem ry_largs_mem : ∀ {t : List ry_V} {i : Nat} {q : Nat × ry_V}, q ∈ ry_largs i t → q.2 ∈ t
  | [], _, _, h => absurd h List.not_mem_nil
  | v :: t, i, q, h => by
    rw [ry_largs] at h
    rcases List.mem_cons.mp h with e | e
    · subst e; exact List.mem_cons_self
    · exact List.mem_cons_of_mem _ (ry_largs_mem e)
noncomputable def ry_take : Nat → List ry_V → List ry_V → Option (List ry_V × List ry_V)
  | 0, acc, t => some (acc, t)
  | n + 1, acc, t => match t with
    | [] => none
    | v :: t2 => ry_take n (v :: acc) t2
theorem ry_take_ok : ∀ {n : Nat} {acc t as rest : List ry_V}, ry_take n acc t = some (as, rest) → as.length = n + acc.length ∧ acc.reverse ++ t = as.reverse ++ rest
  | 0, acc, t, as, rest, h => by
    rw [ry_take] at h
    cases h
    exact ⟨(Nat.zero_add _).symm, rfl⟩
  | n + 1, acc, [], as, rest, h => absurd (show (none : Option (List ry_V × List ry_V)) = some (as, rest) from h) (fun q => by cases q)
  | n + 1, acc, v :: t2, as, rest, h => by
    have h : ry_take n (v :: acc) t2 = some (as, rest) := h
    obtain ⟨h1, h2⟩ := ry_take_ok h
    refine ⟨by rw [h1, List.length_cons]; omega, ?_⟩
    rw [← h2, List.reverse_cons, List.append_assoc]
    rfl
noncomputable def ry_cidx (i : Instr) : Option (Nat × Nat) := match i with
  | .invokevirtual idx => some (0, idx)
  | .invokestatic idx => some (1, idx)
  | .invokespecial idx => some (2, idx)
  | _ => none
noncomputable def ry_rcv (ht : List ry_C) (ci : Nat) (t : List ry_V) : Option (Nat × List ry_V) := match ry_pr t with
  | some (some k, t2) => match ht[k]? with
    | some (.inl (ci_p, _)) => ry_if (ci_p == ci) (some (k, t2))
    | _ => none
  | _ => none
noncomputable def ry_z0 (z : ry_Z) (as : List ry_V) : ry_Z := match z with
  | (I0, F1, ht0, _, _, _, _, _) => (I0, F1, ht0, 0, 0, 0, ry_largs 0 as, [])
noncomputable def ry_may (M M_p : ry_Mt) (z : ry_Z) (as t : List ry_V) : Bool :=
  decide (ry_cats t ≤ 8) && (decide (ry_cats as ≤ M_p.2.2.1) && (decide (M_p.2.2.1 ≤ 21) && (decide (z.2.2.2.1 + M_p.2.2.2.2.2.2.1 ≤ M.2.2.2.2.2.2.1) && decide (z.2.2.2.2.1 + M_p.2.2.2.2.2.2.2 ≤ M.2.2.2.2.2.2.2))))
noncomputable def ry_prep (T : ry_Tb) (M : ry_Mt) (i : Instr) (len : Nat) (z : ry_Z) : Option (ry_J × ry_Mt × List ry_V × List ry_V) := match ry_cidx i with
  | none => none
  | some (op, idx) => match T.2.2.2.2.1 M.1 idx with
    | none => none
    | some q => match T.2.2.2.2.2 q.2.2.2, ry_take q.2.1 [] (ry_zst z) with
      | some M_p, some (as, t) => ry_if (len == 3 && (q.1 % 3 == op && decide (q.1 < 6))) (
        if op = 1 then ry_if (ry_may M M_p z as t) (some (q, M_p, as, t))
        else match ry_rcv z.2.2.1 q.2.2.1 t with
          | some (k, t2) => ry_if (ry_may M M_p z (.inl (some k) :: as) t2) (some (q, M_p, .inl (some k) :: as, t2))
          | none => none)
      | _, _ => none
noncomputable def ry_back (M_p : ry_Mt) (z : ry_Z) (t : List ry_V) (E : ry_End) : ry_Z := match z, E with
  | (_, _, _, c0, s0, pc0, lv0, _), (I0, F1, ht0, v0) => (I0, F1, ht0, c0 + M_p.2.2.2.2.2.2.1, s0 + M_p.2.2.2.2.2.2.2, pc0 + 3, lv0, v0.toList ++ t)
noncomputable def ry_retk (M : ry_Mt) (i : Instr) (len : Nat) (z : ry_Z) : Option ry_End :=
  ry_if (len == 1 && (decide (z.2.2.2.1 ≤ M.2.2.2.2.2.2.1) && decide (z.2.2.2.2.1 ≤ M.2.2.2.2.2.2.2))) (match i with
    | .ireturn => (match ry_zst z with
      | [.inr (0, e)] => (match M.2.2.2.1 with
        | some .int => some (z.1, z.2.1, z.2.2.1, some (.inr (0, e)))
        | some .boolean => ry_if (ry_in01 z.1 e) (some (z.1, z.2.1, z.2.2.1, some (.inr (0, e))))
        | _ => none)
      | _ => none)
    | .lreturn => (match ry_zst z with
      | [.inr (1, e)] => (match M.2.2.2.1 with
        | some .long => some (z.1, z.2.1, z.2.2.1, some (.inr (1, e)))
        | _ => none)
      | _ => none)
    | .areturn => (match ry_zst z with
      | [.inl o] => (match M.2.2.2.1 with
        | some (.object _) => some (z.1, z.2.1, z.2.2.1, some (.inl o))
        | some (.array _) => some (z.1, z.2.1, z.2.2.1, some (.inl o))
        | _ => none)
      | _ => none)
    | .return_ => (match ry_zst z with
      | [] => (match M.2.2.2.1 with
        | none => some (z.1, z.2.1, z.2.2.1, none)
        | _ => none)
      | _ => none)
    | _ => none)
noncomputable abbrev ry_Xh : Type := Nat → ry_Mt → Instr → Nat → ry_Z → Option (List ry_Z)
noncomputable def ry_exec (xh : ry_Xh) (T : ry_Tb) : Nat → Nat → Bool → ry_Mt → ry_Z → Option (List ry_End)
  | 0, _, _, _, _ => none
  | f + 1, d, lw, M, z => match decode M.2.1 (ry_zpc z) with
    | .error _ => none
    | .ok (i, len) => match ry_retk M i len z with
      | some E => some [E]
      | none => match ry_or (xh d M i len z) (ry_step T lw M i len (decode M.2.1 (ry_zpc z + 1)) z) with
        | some zs => ry_bind (ry_exec xh T f d lw M) zs
        | none => match d with
          | 0 => none
          | d_p + 1 => match ry_prep T M i len z with
            | none => none
            | some (_, M_p, as, t) => match ry_exec xh T f d_p false M_p (ry_z0 z as) with
              | none => none
              | some Es => ry_bind (fun E => ry_exec xh T f (d_p + 1) lw M (ry_back M_p z t E)) Es
noncomputable def ry_mlOK (G : List Jvm.Cond) (nm : Nat → String) (T : ry_Tb) : Prop := ∀ (j : Nat) (M : ry_Mt), T.2.2.2.2.2 j = some M →
  nm M.1 = M.2.2.2.2.1.cls ∧ Jvm.Cond.code M.2.2.2.2.1 M.2.1 M.2.2.1 M.2.2.2.1 ∈ G ∧ plainName M.2.2.2.2.1.cls = true ∧ Jvm.Cond.initialized M.2.2.2.2.1.cls ∈ G ∧ (M.2.2.2.2.1.cls ≠ "java/lang/invoke/MethodHandle" ∧ M.2.2.2.2.1.cls ≠ "java/lang/invoke/VarHandle") ∧ (M.2.2.2.2.2.1 = true → M.2.2.2.2.1.name = "<init>")
noncomputable def ry_cjOK (G NW : List Jvm.Cond) (cl : List vw_C) (nm : Nat → String) (T : ry_Tb) : Prop := ∀ (o idx : Nat) (q : ry_J) (M : ry_Mt), T.2.2.2.2.1 o idx = some q → T.2.2.2.2.2 q.2.2.2 = some M →
  (parseMethodDescriptor M.2.2.2.2.1.desc).map (fun d => d.parameters.length) = some q.2.1 ∧
  (q.1 < 3 → Jvm.Cond.methodLink (nm o) idx M.2.2.2.2.1 ∈ G) ∧ (3 ≤ q.1 → ∃ host : String, Jvm.Cond.methodLinkNest (nm o) idx M.2.2.2.2.1 host ∈ NW) ∧
  (q.1 % 3 = 1 → Jvm.Cond.static M.2.2.2.2.1 ∈ G) ∧ (q.1 % 3 ≠ 1 → Jvm.Cond.instanceMethod M.2.2.2.2.1 ∈ G ∧ ∃ (F : u_T) (N : Nat), cl[q.2.2.1]? = some (M.2.2.2.2.1.cls, F, N)) ∧ (q.1 % 3 = 0 → Jvm.Cond.selects M.2.2.2.2.1.cls M.2.2.2.2.1 M.2.2.2.2.1 ∈ G) ∧ (q.1 % 3 = 2 → M.2.2.2.2.1.name = "<init>" ∧ M.2.2.2.1 = none)
noncomputable def ry_W0 (D : va_G) (cl : List vw_C) (A : Nat → Prop) (s : State) (xa : Nat → Nat) (N : Nat) (ht : List ry_C) (r : Nat → Int) (ad : Nat → Nat) (H : Heap) : Prop :=
  ∃ (ws : va_W) (tys : List (ClassId × FieldType)), va_K D cl tys s ∧ va_P D cl ws H ∧ va_D A ws ∧ ws.length = ht.length ∧
    ∀ (k : Nat) (x : ry_C), ht[k]? = some x → ry_csc N ht.length x ∧ ∃ e : va_E, ws[k]? = some (ad k, e) ∧ ry_cell cl tys r ad xa x e
theorem ry_W.to0 {D : va_G} {cl : List vw_C} {A : Nat → Prop} {s : State} {xa : Nat → Nat} {N : Nat} {ht : List ry_C} {r : Nat → Int} {ad : Nat → Nat} {H0 H : Heap} {locs : List Loc} (h : ry_W D cl A s xa N ht r ad H0 H locs) : ry_W0 D cl A s xa N ht r ad H ∧ va_S A H0 H locs := by
  obtain ⟨ws, tys, hK, hP, hD, hS, hl, hc⟩ := h
  exact ⟨⟨ws, tys, hK, hP, hD, hl, hc⟩, hS⟩
theorem ry_W0.to {D : va_G} {cl : List vw_C} {A : Nat → Prop} {s : State} {xa : Nat → Nat} {N : Nat} {ht : List ry_C} {r : Nat → Int} {ad : Nat → Nat} {H0 H : Heap} {locs : List Loc} (h : ry_W0 D cl A s xa N ht r ad H) (hS : va_S A H0 H locs) : ry_W D cl A s xa N ht r ad H0 H locs := by
  obtain ⟨ws, tys, hK, hP, hD, hl, hc⟩ := h
  exact ⟨ws, tys, hK, hP, hD, hS, hl, hc⟩
theorem ry_W0.moved {D : va_G} {cl : List vw_C} {A : Nat → Prop} {s U : State} {xa : Nat → Nat} {N : Nat} {ht : List ry_C} {r : Nat → Int} {ad : Nat → Nat} {H : Heap} (h : ry_W0 D cl A s xa N ht r ad H) (hvm : s.vm.Alike U.vm) : ry_W0 D cl A U xa N ht r ad H := by
  obtain ⟨ws, tys, hK, hP, hD, hl, hc⟩ := h
  exact ⟨ws, tys, va_K.moved hvm hK, hP, hD, hl, hc⟩
noncomputable def ry_RE (D : va_G) (cl : List vw_C) (A : Nat → Prop) (s : State) (xa : Nat → Nat) (E : ry_End) (r : Nat → Int) (ad : Nat → Nat) (H : Heap) : Prop :=
  ry_sat E.1 r ∧ ry_facts E.2.1 r ∧ ry_fsc E.1.length E.2.1 ∧ ry_W0 D cl A s xa E.1.length E.2.2.1 r ad H ∧ ∀ v, E.2.2.2 = some v → ry_sc E.1.length E.2.2.1.length v
noncomputable def ry_rti (M : ry_Mt) (pc : Nat) (r : Nat → Int) (ad xa : Nat → Nat) (v : Option ry_V) : Prop := match v with
  | none => decode M.2.1 pc = .ok (.return_, 1) ∧ M.2.2.2.1 = none
  | some (.inr (0, e)) => decode M.2.1 pc = .ok (.ireturn, 1) ∧ ∃ ty, M.2.2.2.1 = some ty ∧ narrow ty (ry_iv r ad xa (.inr (0, e))) = ry_iv r ad xa (.inr (0, e))
  | some (.inr (1, _)) => decode M.2.1 pc = .ok (.lreturn, 1) ∧ M.2.2.2.1 = some .long
  | some (.inr (_ + 2, _)) => False
  | some (.inl _) => decode M.2.1 pc = .ok (.areturn, 1) ∧ ∃ ty, M.2.2.2.1 = some ty ∧ ((∃ n, ty = .object n) ∨ ∃ t, ty = .array t)
theorem ry_retk_ok {M : ry_Mt} {i : Instr} {len : Nat} {z : ry_Z} {E : ry_End} {r : Nat → Int} {ad xa : Nat → Nat} (hs : ry_sat z.1 r) (h : ry_retk M i len z = some E) (hdg : decode M.2.1 (ry_zpc z) = .ok (i, len)) : E.1 = z.1 ∧ E.2.1 = z.2.1 ∧ E.2.2.1 = z.2.2.1 ∧ ry_zst z = E.2.2.2.toList ∧ z.2.2.2.1 ≤ M.2.2.2.2.2.2.1 ∧ z.2.2.2.2.1 ≤ M.2.2.2.2.2.2.2 ∧ ry_rti M (ry_zpc z) r ad xa E.2.2.2 := by
  unfold ry_retk at h
  obtain ⟨h1, h2⟩ := ry_if_ok h
  rw [Bool.and_eq_true, Bool.and_eq_true, beq_iff_eq, decide_eq_true_eq, decide_eq_true_eq] at h1
  obtain ⟨hl, hc, hsl⟩ := h1
  subst hl
  split at h2
  · split at h2
    · rename_i e hst
      split at h2
      · rename_i hret
        cases h2
        exact ⟨rfl, rfl, rfl, hst, hc, hsl, hdg, .int, hret, rfl⟩
      · rename_i hret
        obtain ⟨h01, h2⟩ := ry_if_ok h2
        cases h2
        refine ⟨rfl, rfl, rfl, hst, hc, hsl, hdg, .boolean, hret, ?_⟩
        exact (ry_fit_ok (tc := 1) (ty := .boolean) (v := .inr (0, e)) hs h01 rfl).1
      · cases h2
    · cases h2
  · split at h2
    · rename_i e hst
      split at h2
      · rename_i hret
        cases h2
        exact ⟨rfl, rfl, rfl, hst, hc, hsl, hdg, hret⟩
      · cases h2
    · cases h2
  · split at h2
    · rename_i o hst
      split at h2
      · rename_i n hret
        cases h2
        exact ⟨rfl, rfl, rfl, hst, hc, hsl, hdg, _, hret, Or.inl ⟨n, rfl⟩⟩
      · rename_i n hret
        cases h2
        exact ⟨rfl, rfl, rfl, hst, hc, hsl, hdg, _, hret, Or.inr ⟨n, rfl⟩⟩
      · cases h2
    · cases h2
  · split at h2
    · rename_i hst
      split at h2
      · rename_i hret
        cases h2
        exact ⟨rfl, rfl, rfl, hst, hc, hsl, hdg, hret⟩
      · cases h2
    · cases h2
  · cases h2
section RYC
variable {p : Program} {l : Launch} {e : Env} {R : Room} {s : State} {m : MethodId} {args : Array Value} {below : List Frame} {meth : Method} {c : Code} {H : Heap} {locs : List Loc} {cells slots : Nat} {Q : State → Prop}
variable {pc : Nat} {ls : Array Slot} {rest st0 : List Value} {A : Nat → Prop} {H0 : Heap} {mc ms : Nat}
theorem ry_call {Qa : State → Outcome → State → Prop} (hr : va_Run p l e R s m args below meth c H locs cells slots mc ms (F0 m pc ls st0) rest Qa A) (hS : va_S A H0 H locs) (hQ : ∀ st oc t, Qa st oc t → va_F A st t)
    (kk : ∀ (v : Option Value) (st t : State) (H1 : Heap) (locs1 : List Loc), t.heap = H1 → st.heap = H → s.vm.Alike t.vm → Qa st (.returned v) t → va_S A H0 H1 locs1 → W p l e R s m args below meth c H1 locs1 (cells + mc) (slots + ms) Q (F0 m (pc + 3) ls (v.toList ++ rest))) : W p l e R s m args below meth c H locs cells slots Q (F0 m pc ls st0) := by
  intro T hT X
  obtain ⟨v, st₀, t, T_p, L, h0, X_p, hL, e1, e2, hq, st⟩ := hr T hT X
  obtain ⟨hz, hk⟩ := hQ _ _ _ hq
  rw [h0] at hz hk
  obtain ⟨t2, a1, b1⟩ := kk v st₀ t T_p.heap (locs ++ L) e1.symm h0 (by rw [← e2]; exact X_p.warmed.alike) hq
    ⟨Nat.le_trans hS.1 (by rw [e1]; exact hz), fun q h1 h2 => by rw [e1, hk q (Nat.lt_of_lt_of_le h1 hS.1) h2]; exact hS.2.1 q h1 h2, fun q hq => by
      rcases List.mem_append.mp hq with h | h
      · exact hS.2.2 q h
      · exact hL q h⟩ T_p rfl X_p
  exact ⟨t2, st t2 a1, b1⟩
end RYC

section RYV
variable {G NW : List Jvm.Cond} {AO : List String} {cl : List vw_C} {T : ry_Tb} {nm : Nat → String} {xh : ry_Xh}
noncomputable def ry_Pre (NW : List Jvm.Cond) (AO : List String) (PX : State → Prop) (D : va_G) (cl : List vw_C) (A : Nat → Prop) (xa : Nat → Nat) (z : ry_Z) (r : Nat → Int) (ad : Nat → Nat) (U : State) : Prop :=
  (∀ w ∈ NW, va_Nw w U) ∧ (∀ C ∈ AO, va_AO C U) ∧ PX U ∧ ry_W0 D cl A U xa z.1.length z.2.2.1 r ad U.heap ∧ ∀ q, U.heap.size ≤ q → A q
noncomputable def ry_Post (D : va_G) (cl : List vw_C) (A : Nat → Prop) (xa : Nat → Nat) (N M : Nat) (r : Nat → Int) (ad : Nat → Nat) (Es : List ry_End) : Array Value → State → Outcome → State → Prop := fun _ st oc t =>
  (∃ E ∈ Es, ∃ (r_p : Nat → Int) (ad_p : Nat → Nat), N ≤ E.1.length ∧ M ≤ E.2.2.1.length ∧ ry_same N r r_p ∧ ry_sameA M ad ad_p ∧ ry_RE D cl A t xa E r_p ad_p t.heap ∧ oc = .returned (E.2.2.2.map (ry_iv r_p ad_p xa))) ∧ va_F A st t
noncomputable def ry_Goal (f d : Nat) (lw : Bool) (xh : ry_Xh) (T : ry_Tb) (G NW : List Jvm.Cond) (AO : List String) (cl : List vw_C) (nm : Nat → String) (A : Nat → Prop) (xa : Nat → Nat) (PX : State → Prop) (l : Launch) (D : va_G) : Prop :=
  ∀ (M : ry_Mt) (z : ry_Z) (Es : List ry_End), ry_exec xh T f d lw M z = some Es → nm M.1 = M.2.2.2.2.1.cls →
  ∀ {p : Program} {e : Env} {R : Room} {s : State} {m : MethodId} {args : Array Value} {below : List Frame} {meth : Method} {c : Code} {Q : State → Prop} {H0 H : Heap} {locs : List Loc} {ls : Array Slot} {r : Nat → Int} {ad : Nat → Nat},
    ry_Fr G NW AO PX p s m args meth c M → (∀ q, H0.size ≤ q → A q) → H0 = s.heap → M.2.2.2.2.2.2.1 ≤ R.cells → M.2.2.2.2.2.2.2 ≤ R.slots → d ≤ R.frames → d * 40 ≤ R.locals → ry_Scr lw A s xa H0 r → ry_R D cl A s xa M.2.2.1 H0 z r ad H locs ls →
    (∀ E ∈ Es, ∀ (r_p : Nat → Int) (ad_p : Nat → Nat) (H_p : Heap) (locs_p : List Loc) (ls_p : Array Slot) (pc_p k_p n_p : Nat), z.1.length ≤ E.1.length → z.2.2.1.length ≤ E.2.2.1.length → ry_same z.1.length r r_p → ry_sameA z.2.2.1.length ad ad_p → ry_RE D cl A s xa E r_p ad_p H_p → va_S A H0 H_p locs_p → k_p ≤ M.2.2.2.2.2.2.1 → n_p ≤ M.2.2.2.2.2.2.2 → ry_rti M pc_p r_p ad_p xa E.2.2.2 →
      W p l e R s m args below meth c H_p locs_p k_p n_p Q (F0 m pc_p ls_p (E.2.2.2.toList.map (ry_iv r_p ad_p xa)))) →
    W p l e R s m args below meth c H locs z.2.2.2.1 z.2.2.2.2.1 Q (F0 m (ry_zpc z) ls ((ry_zst z).map (ry_iv r ad xa)))
theorem ry_toList_map {r : Nat → Int} {ad xa : Nat → Nat} (v : Option ry_V) : (v.map (ry_iv r ad xa)).toList = v.toList.map (ry_iv r ad xa) := by
  cases v <;> rfl
set_option maxHeartbeats 1000000 in
theorem ry_met {A : Nat → Prop} {xa : Nat → Nat} {PX : State → Prop} {l : Launch} {D : va_G} {f d j : Nat} (hGG : ∀ w ∈ G, goodWord w = true) (tm : ry_mlOK G nm T) (ih : ry_Goal f d false xh T G NW AO cl nm A xa PX l D) {M_p : ry_Mt} (hj : T.2.2.2.2.2 j = some M_p) {z : ry_Z} {as : List ry_V} {Es : List ry_End} {r : Nat → Int} {ad : Nat → Nat}
    (hex : ry_exec xh T f d false M_p (ry_z0 z as) = some Es) (hsat : ry_sat z.1 r) (hfa : ry_facts z.2.1 r) (hfs : ry_fsc z.1.length z.2.1) (has : ∀ v ∈ as, ry_sc z.1.length z.2.2.1.length v) (hcats : ry_cats as ≤ M_p.2.2.1) :
    Met l M_p.2.2.2.2.1 (Jvm.Cond.code M_p.2.2.2.2.1 M_p.2.1 M_p.2.2.1 M_p.2.2.2.1 :: G) { frames := d, cells := M_p.2.2.2.2.2.2.1, slots := M_p.2.2.2.2.2.2.2, locals := d * 40 } (va_Pc (as.map (ry_iv r ad xa)) (ry_Pre NW AO PX D cl A xa z r ad)) (ry_Post D cl A xa z.1.length z.2.2.1.length r ad Es) M_p.2.2.2.2.2.2.1 M_p.2.2.2.2.2.2.2 A := by
  obtain ⟨m1, m2, m3, m4, m5, m6⟩ := tm j M_p hj
  refine Met.ofW (cc := M_p.2.1) (maxL := M_p.2.2.1) (ret := M_p.2.2.2.1) m3 rfl ?_
  intro p e s m args below meth c s₁ B hml hv
  obtain ⟨hargs, hnw, hao, hpx, hW0, hA⟩ := hv
  subst hargs
  have hx := B.exec
  have hb := B.bytes
  have hr := B.returns
  have hts0 := atoms_spec (ws := Jvm.Cond.code M_p.2.2.2.2.1 M_p.2.1 M_p.2.2.1 M_p.2.2.2.1 :: G) B.pre
  have hts : ∀ w ∈ G, w.before (as.map (ry_iv r ad xa)).toArray s = true := fun w hw => hts0 w (List.mem_cons_of_mem _ hw)
  have hown : s.vm.findClass M_p.2.2.2.2.1.cls = some m.cls := findClass_of_methodNamed B.named
  have hlocks := B.notSynchronized
  have hname : meth.name = M_p.2.2.2.2.1.name := (name_of_methodNamed B.named B.method).1
  have hF : ry_Fr G NW AO PX p s m (as.map (ry_iv r ad xa)).toArray meth c M_p := ⟨hx, hb, hr, hml, hown, hlocks, hts, hnw, hao, hpx, fun hi => hname.trans (m6 hi)⟩
  have hl := lv_entry (as.map (ry_iv r ad xa)) (n := M_p.2.2.1) (by rw [ry_cats_sl]; exact hcats)
  rw [lg_entry_eq]
  generalize (lg_sl (as.map (ry_iv r ad xa)) ++ List.replicate (M_p.2.2.1 - (lg_sl (as.map (ry_iv r ad xa))).length) Slot.unset).toArray = ls at hl ⊢
  rw [← ry_largs_lv] at hl
  have hR0 : ry_R D cl A s xa M_p.2.2.1 s.heap (ry_z0 z as) r ad s.heap [] ls :=
    ⟨hsat, hfa, hfs, hW0.to va_S.rf, hl, fun q hq => has _ (ry_largs_mem hq), fun v hv => absurd hv List.not_mem_nil⟩
  refine ih M_p (ry_z0 z as) Es hex m1 hF hA rfl (Nat.le_refl _) (Nat.le_refl _) (Nat.le_refl _) (Nat.le_refl _) (fun h => absurd h Bool.false_ne_true) hR0 ?_
  intro E hE r_p ad_p H_p locs_p ls_p pc_p k_p n_p hN hM hsr hsa hRE hS hk hn hrt
  have hpost : ∀ t : State, t.heap = H_p → s.WarmedH t.vm → ry_Post D cl A xa z.1.length z.2.2.1.length r ad Es (as.map (ry_iv r ad xa)).toArray s (.returned (E.2.2.2.map (ry_iv r_p ad_p xa))) t := by
    intro t ht hW
    refine ⟨⟨E, hE, r_p, ad_p, hN, hM, hsr, hsa, ⟨hRE.1, hRE.2.1, hRE.2.2.1, ?_, hRE.2.2.2.2⟩, rfl⟩, hS.F ht⟩
    rw [ht]
    exact hRE.2.2.2.1.moved hW.alike
  refine W.widen hk hn ?_
  obtain ⟨eI, eF, eh, v⟩ := E
  match v, hrt, hpost with
  | none, hrt, hpost => exact W.vret hx hb (hr.trans hrt.2) hpost hS.2.2 hrt.1
  | some (.inl none), hrt, hpost =>
    obtain ⟨h1, ty, h2, h3⟩ := hrt
    exact W.aret hx hb (hr.trans h2) h3 (Or.inl rfl) hpost hS.2.2 h1
  | some (.inl (some k)), hrt, hpost =>
    obtain ⟨h1, ty, h2, h3⟩ := hrt
    exact W.aret hx hb (hr.trans h2) h3 (Or.inr ⟨_, rfl⟩) hpost hS.2.2 h1
  | some (.inr (0, q)), hrt, hpost =>
    obtain ⟨h1, ty, h2, h3⟩ := hrt
    exact W.zret hx hb (hr.trans h2) h3 hpost hS.2.2 h1
  | some (.inr (1, q)), hrt, hpost => exact W.lret hx hb (hr.trans hrt.2) hpost hS.2.2 hrt.1
  | some (.inr (_ + 2, q)), hrt, hpost => exact hrt.elim
end RYV
end
section
noncomputable def ry_PXOK (NW : List Jvm.Cond) (A : Nat → Prop) (PX : State → Prop) : Prop :=
  (∀ w ∈ NW, w.onTables = true ∧ ∀ (s U : State), s.WarmedH U.vm → va_Nw w s → va_Nw w U) ∧ (∀ (U : State) (g : JFrame) (mk : MethodId) (a : Array Value), PX U → PX (U.calling g mk a)) ∧
  ∀ u U : State, PX u → u.WarmedH U.vm → (∀ a : Nat, a < u.heap.size → ¬ A a → U.heap[a]? = u.heap[a]?) → PX U
noncomputable def ry_xhOK (xh : ry_Xh) (G NW : List Jvm.Cond) (AO : List String) (cl : List vw_C) (nm : Nat → String) (A : Nat → Prop) (xa : Nat → Nat) (PX : State → Prop) (l : Launch) (D : va_G) : Prop :=
  ∀ (d : Nat) (M : ry_Mt) (i : Instr) (len : Nat) (z : ry_Z) (zs : List ry_Z), xh d M i len z = some zs → nm M.1 = M.2.2.2.2.1.cls →
  ∀ {p : Program} {e : Env} {R : Room} {s : State} {m : MethodId} {args : Array Value} {below : List Frame} {meth : Method} {c : Code} {Q : State → Prop} {H0 H : Heap} {locs : List Loc} {ls : Array Slot} {r : Nat → Int} {ad : Nat → Nat},
    ry_Fr G NW AO PX p s m args meth c M → (∀ q, H0.size ≤ q → A q) → H0 = s.heap → M.2.2.2.2.2.2.1 ≤ R.cells → M.2.2.2.2.2.2.2 ≤ R.slots → d ≤ R.frames → d * 40 ≤ R.locals → decode M.2.1 (ry_zpc z) = .ok (i, len) → ry_R D cl A s xa M.2.2.1 H0 z r ad H locs ls →
    (∀ z_p ∈ zs, ry_G p l e R s m args below meth c Q D cl A xa M.2.2.1 H0 z.1.length z.2.2.1.length r ad z_p) →
    W p l e R s m args below meth c H locs z.2.2.2.1 z.2.2.2.2.1 Q (F0 m (ry_zpc z) ls ((ry_zst z).map (ry_iv r ad xa)))
theorem ry_rcv_ok {ht : List ry_C} {ci k : Nat} {t t2 : List ry_V} (h : ry_rcv ht ci t = some (k, t2)) : t = .inl (some k) :: t2 ∧ ∃ fs, ht[k]? = some (.inl (ci, fs)) := by
  unfold ry_rcv at h
  split at h
  · rename_i k0 t0 hpr
    split at h
    · rename_i ci_p fs hht
      obtain ⟨h1, h2⟩ := ry_ifn h
      cases h2
      subst h1
      exact ⟨ry_pr_ok hpr, fs, hht⟩
    · cases h
  · cases h
theorem ry_prep_ok {T : ry_Tb} {M M_p : ry_Mt} {i : Instr} {len : Nat} {z : ry_Z} {q : ry_J} {as t : List ry_V} (h : ry_prep T M i len z = some (q, M_p, as, t)) :
    ∃ op idx, ry_cidx i = some (op, idx) ∧ len = 3 ∧ T.2.2.2.2.1 M.1 idx = some q ∧ T.2.2.2.2.2 q.2.2.2 = some M_p ∧ q.1 % 3 = op ∧ q.1 < 6 ∧ ry_may M M_p z as t = true ∧
      ((op = 1 ∧ as.length = q.2.1 ∧ ry_zst z = as.reverse ++ t) ∨ (op ≠ 1 ∧ ∃ (k : Nat) (as2 : List ry_V) (fs : List ry_X), as = .inl (some k) :: as2 ∧ as2.length = q.2.1 ∧ ry_zst z = as2.reverse ++ .inl (some k) :: t ∧ z.2.2.1[k]? = some (.inl (q.2.2.1, fs)))) := by
  unfold ry_prep at h
  split at h
  · cases h
  · rename_i op idx hc
    split at h
    · cases h
    · rename_i q0 hq
      split at h
      · rename_i M0 as0 t0 hM hta
        obtain ⟨h1, h2⟩ := ry_if_ok h
        rw [Bool.and_eq_true, Bool.and_eq_true, beq_iff_eq, beq_iff_eq, decide_eq_true_eq] at h1
        obtain ⟨hl, ho, h6⟩ := h1
        obtain ⟨g1, g2⟩ := ry_take_ok hta
        rw [List.length_nil, Nat.add_zero] at g1
        rw [List.reverse_nil, List.nil_append] at g2
        split at h2
        · rename_i hop
          obtain ⟨h3, h4⟩ := ry_if_ok h2
          cases h4
          exact ⟨op, idx, hc, hl, hq, hM, ho, h6, h3, Or.inl ⟨hop, g1, g2⟩⟩
        · rename_i hop
          split at h2
          · rename_i k t2 hrc
            obtain ⟨h3, h4⟩ := ry_if_ok h2
            cases h4
            obtain ⟨k1, fs, k2⟩ := ry_rcv_ok hrc
            exact ⟨op, idx, hc, hl, hq, hM, ho, h6, h3, Or.inr ⟨hop, k, as0, fs, rfl, g1, by rw [g2, k1], k2⟩⟩
          · cases h2
      · cases h
theorem ry_cidx_ok {i : Instr} {op idx : Nat} (h : ry_cidx i = some (op, idx)) : (op = 0 ∧ i = .invokevirtual idx) ∨ (op = 1 ∧ i = .invokestatic idx) ∨ (op = 2 ∧ i = .invokespecial idx) := by
  unfold ry_cidx at h
  split at h
  · cases h; exact Or.inl ⟨rfl, rfl⟩
  · cases h; exact Or.inr (Or.inl ⟨rfl, rfl⟩)
  · cases h; exact Or.inr (Or.inr ⟨rfl, rfl⟩)
  · cases h
theorem ry_Scr.to {lw : Bool} {A : Nat → Prop} {s : State} {xa : Nat → Nat} {H0 : Heap} {r r_p : Nat → Int} {N : Nat} (h : ry_Scr lw A s xa H0 r) (hN : 8 ≤ N) (hr : ry_same N r r_p) : ry_Scr lw A s xa H0 r_p := fun hl => by
  obtain ⟨L, xs, h1, h2, h3, h4, h5⟩ := h hl
  exact ⟨L, xs, h1, h2, h3, by rw [hr 1 (by omega)]; exact h4, fun j hj => by rw [hr (2 + j) (by omega)]; exact h5 j hj⟩
section RYG
variable {G NW : List Jvm.Cond} {AO : List String} {cl : List vw_C} {T : ry_Tb} {nm : Nat → String} {xh : ry_Xh}
variable {p : Program} {l : Launch} {e : Env} {R : Room} {s : State} {m : MethodId} {args : Array Value} {below : List Frame} {meth : Method} {c : Code} {Q : State → Prop}
variable {D : va_G} {A : Nat → Prop} {xa : Nat → Nat} {H0 H : Heap} {locs : List Loc} {ls : Array Slot} {r : Nat → Int} {ad : Nat → Nat} {PX : State → Prop}
theorem ry_blind {z : ry_Z} {as : List Value} (hPX : ry_PXOK NW A PX) : FrameBlind (va_Pc as (ry_Pre NW AO PX D cl A xa z r ad)) := fun a U g mk h => by
  obtain ⟨h0, h1, h2, h3, h4, h5⟩ := h
  exact ⟨h0, fun w hw => va_Nw.same (u := U) (U := U.calling g mk a) (hPX.1 w hw).1 rfl (h1 w hw), fun C hC => va_AO.moved (Vm.Alike.refl U.vm) (h2 C hC), hPX.2.1 U g mk a h3, h4.moved (U := U.calling g mk a) (Vm.Alike.refl U.vm), h5⟩
theorem ry_pre_at {z : ry_Z} {M : ry_Mt} (hPX : ry_PXOK NW A PX) (hF : ry_Fr G NW AO PX p s m args meth c M) (hA : ∀ q, H0.size ≤ q → A q) (hH0 : H0 = s.heap) (hR : ry_R D cl A s xa M.2.2.1 H0 z r ad H locs ls) (U : State) (hU : U.heap = H) (hW : s.WarmedH U.vm) : ry_Pre NW AO PX D cl A xa z r ad U := by
  obtain ⟨hW0, hS⟩ := hR.2.2.2.1.to0
  refine ⟨fun w hw => (hPX.1 w hw).2 s U hW (hF.2.2.2.2.2.2.2.1 w hw), fun C hC => va_AO.moved hW.alike (hF.2.2.2.2.2.2.2.2.1 C hC), hPX.2.2 s U hF.2.2.2.2.2.2.2.2.2.1 hW (fun a h1 h2 => ?_), ?_, fun q hq => hA q ?_⟩
  · rw [hU, ← hH0]
    exact hS.2.1 a (by rw [hH0]; exact h1) h2
  · rw [hU]
    exact hW0.moved hW.alike
  · rw [hU] at hq
    exact Nat.le_trans hS.1 hq
set_option maxHeartbeats 2000000 in
theorem ry_run {f d : Nat} {M M_p : ry_Mt} {i : Instr} {len : Nat} {z : ry_Z} {q : ry_J} {as t : List ry_V} {Es : List ry_End} (hGG : ∀ w ∈ G, goodWord w = true) (hPX : ry_PXOK NW A PX) (tm : ry_mlOK G nm T) (tc : ry_cjOK G NW cl nm T) (ih : ry_Goal f d false xh T G NW AO cl nm A xa PX l D) (hn : nm M.1 = M.2.2.2.2.1.cls)
    (hF : ry_Fr G NW AO PX p s m args meth c M) (hA : ∀ q, H0.size ≤ q → A q) (hH0 : H0 = s.heap) (hmc : M.2.2.2.2.2.2.1 ≤ R.cells) (hms : M.2.2.2.2.2.2.2 ≤ R.slots) (hd : d + 1 ≤ R.frames) (hdl : (d + 1) * 40 ≤ R.locals) (hR : ry_R D cl A s xa M.2.2.1 H0 z r ad H locs ls) (hdg : decode M.2.1 (ry_zpc z) = .ok (i, len))
    (hprep : ry_prep T M i len z = some (q, M_p, as, t)) (hex : ry_exec xh T f d false M_p (ry_z0 z as) = some Es) :
    ∃ as2 : List ry_V, va_Run p l e R s m args below meth c H locs z.2.2.2.1 z.2.2.2.2.1 M_p.2.2.2.2.2.2.1 M_p.2.2.2.2.2.2.2 (F0 m (ry_zpc z) ls ((ry_zst z).map (ry_iv r ad xa))) (t.map (ry_iv r ad xa)) (ry_Post D cl A xa z.1.length z.2.2.1.length r ad Es (as2.map (ry_iv r ad xa)).toArray) A := by
  obtain ⟨op, idx, hci, hlen, hq, hM_p, hop, h6, hmay, hshape⟩ := ry_prep_ok hprep
  subst hlen
  unfold ry_may at hmay
  simp only [Bool.and_eq_true, decide_eq_true_eq] at hmay
  obtain ⟨y1, y2, y3, y4, y5⟩ := hmay
  obtain ⟨m1, m2, m3, m4, m5, m6⟩ := tm _ _ hM_p
  obtain ⟨c1, c2, c3, c4, c5, c6, c7⟩ := tc _ _ _ _ hq hM_p
  rw [hn] at c2 c3
  obtain ⟨hx, hb, hr, hml, hown, hlk, hts, hnw, hao, hpx, hini⟩ := id hF
  have hst := ry_stsc hR
  have has : ∀ v ∈ as, ry_sc z.1.length z.2.2.1.length v := by
    intro v hv
    rcases hshape with ⟨-, -, e1⟩ | ⟨-, k, as2, fs, e0, -, e1, -⟩
    · exact hst v (by rw [e1]; exact List.mem_append_left _ (List.mem_reverse.mpr hv))
    · rw [e0] at hv
      rcases List.mem_cons.mp hv with h | h
      · exact hst v (by rw [e1, h]; exact List.mem_append_right _ List.mem_cons_self)
      · exact hst v (by rw [e1]; exact List.mem_append_left _ (List.mem_reverse.mpr h))
  have hMet := ry_met (l := l) (D := D) (ad := ad) hGG tm ih hM_p hex hR.1 hR.2.1 hR.2.2.1 has y2
  have hGI : GoodIn G (Jvm.Cond.code M_p.2.2.2.2.1 M_p.2.1 M_p.2.2.1 M_p.2.2.2.1 :: G) := fun w hw => by
    rcases List.mem_cons.mp hw with h | h
    · subst h; exact ⟨m2, good_of_word (hGG _ m2)⟩
    · exact ⟨h, good_of_word (hGG _ h)⟩
  have S : CallFix p m c M.2.1 M.2.2.1 s args G M.2.2.2.2.1.cls := ⟨hx, hb, hml, hown, hts⟩
  have hroomF : d + 1 ≤ R.frames ∧ 8 + (M_p.2.2.1 + 11) + d * 40 ≤ R.locals := ⟨hd, by omega⟩
  have hdesc : ∀ sig, parseMethodDescriptor M_p.2.2.2.2.1.desc = some sig → q.2.1 = sig.parameters.length := fun sig h => by
    rw [h] at c1
    exact (Option.some.inj c1).symm
  have hws : ∀ w ∈ (Jvm.Cond.code M_p.2.2.2.2.1 M_p.2.1 M_p.2.2.1 M_p.2.2.2.1 :: G), ∀ (a_p : Array Value) (U : State), s.WarmedH U.vm → w.before a_p U = true := pay_in hts hGI
  have hrest : 2 * (F0 m (ry_zpc z) ls ((ry_zst z).map (ry_iv r ad xa))).monitorRoom + ((t.map (ry_iv r ad xa)).map fun v => v.category).sum ≤ 8 := lv_room (by rw [ry_cats_sum]; exact y1)
  have hf : z.2.2.2.1 + M_p.2.2.2.2.2.2.1 ≤ R.cells ∧ z.2.2.2.2.1 + M_p.2.2.2.2.2.2.2 ≤ R.slots := ⟨Nat.le_trans y4 hmc, Nat.le_trans y5 hms⟩
  have hlsz : ls.size = M.2.2.1 := (ry_lvh hR).1
  have hpre := ry_pre_at hPX hF hA hH0 hR
  rcases hshape with ⟨ho, hlen, hstk⟩ | ⟨ho, k, as2, fs, hase, hlen, hstk, hkc⟩
  · -- static
    have hi : i = .invokestatic idx := by
      rcases ry_cidx_ok hci with ⟨h, -⟩ | ⟨-, h⟩ | ⟨h, -⟩
      · omega
      · exact h
      · omega
    subst hi
    have hstk2 : (F0 m (ry_zpc z) ls ((ry_zst z).map (ry_iv r ad xa))).stack = (as.map (ry_iv r ad xa)).reverse ++ t.map (ry_iv r ad xa) := by
      show (ry_zst z).map (ry_iv r ad xa) = _
      rw [hstk, List.map_append, List.map_reverse]
    have hlen2 : (as.map (ry_iv r ad xa)).length = q.2.1 := by rw [List.length_map]; exact hlen
    have hstat := hts _ (c4 (hop.trans ho))
    have hp : PreS s H (va_Pc (as.map (ry_iv r ad xa)) (ry_Pre NW AO PX D cl A xa z r ad)) (as.map (ry_iv r ad xa)) := ⟨ry_blind hPX, fun U hU hW => ⟨rfl, hpre U hU hW⟩⟩
    refine ⟨as, ?_⟩
    by_cases h3 : q.1 < 3
    · exact va_runS S hMet ⟨⟨rfl, rfl, hroomF.1, hroomF.2, hws, List.mem_cons_self, hts _ m2, hts _ m4, m5, hdesc, hts _ (c2 h3)⟩, hstat⟩ hp rfl hlen2 hlsz hstk2 hrest hdg hf
    · obtain ⟨host, hh⟩ := c3 (Nat.le_of_not_lt h3)
      exact va_runSN (host := host) S hMet ⟨⟨⟨rfl, rfl, hroomF.1, hroomF.2, hws, List.mem_cons_self⟩, hts _ m2, hts _ m4, m5, hdesc, va_Nw.use rfl (hnw _ hh)⟩, hstat, trivial⟩ hp rfl hlen2 hlsz hstk2 hrest hdg hf
  · -- with a receiver
    subst hase
    obtain ⟨hinm, F, N, hcl⟩ := c5 (by rw [hop]; exact ho)
    have hinst := hts _ hinm
    have hstk2 : (F0 m (ry_zpc z) ls ((ry_zst z).map (ry_iv r ad xa))).stack = (as2.map (ry_iv r ad xa)).reverse ++ .ref (ad k) :: t.map (ry_iv r ad xa) := by
      show (ry_zst z).map (ry_iv r ad xa) = _
      rw [hstk, List.map_append, List.map_reverse]
      rfl
    have hlen2 : (as2.map (ry_iv r ad xa)).length = q.2.1 := by rw [List.length_map]; exact hlen
    have hpc : ∀ U : State, U.heap = H → s.WarmedH U.vm → va_Pc ((Sum.inl (some k) :: as2).map (ry_iv r ad xa)) (ry_Pre NW AO PX D cl A xa z r ad) (Value.ref (ad k) :: as2.map (ry_iv r ad xa)).toArray U := fun U hU hW => ⟨rfl, hpre U hU hW⟩
    obtain ⟨ws, tys, hK, hP, hD, hS, hl, hc⟩ := id hR.2.2.2.1
    obtain ⟨-, e0, hw, vs, he0, -, -⟩ := hc k _ hkc
    subst he0
    have hrecv := va_recv hK hP hcl hw
    have hpV : PreV s H M_p.2.2.2.2.1.cls (ad k) (va_Pc ((Sum.inl (some k) :: as2).map (ry_iv r ad xa)) (ry_Pre NW AO PX D cl A xa z r ad)) (as2.map (ry_iv r ad xa)) := ⟨ry_blind hPX, hrecv, hpc⟩
    refine ⟨Sum.inl (some k) :: as2, ?_⟩
    rcases ry_cidx_ok hci with ⟨h0, hi⟩ | ⟨h0, -⟩ | ⟨h0, hi⟩
    · subst hi
      have hsel := hts _ (c6 (hop.trans h0))
      by_cases h3 : q.1 < 3
      · exact va_runV S hMet ⟨⟨rfl, rfl, hroomF.1, hroomF.2, hws, List.mem_cons_self, hts _ m2, hts _ m4, m5, hdesc, hts _ (c2 h3)⟩, hinst, hsel⟩ hpV rfl hlen2 hlsz hstk2 hrest hdg hf
      · obtain ⟨host, hh⟩ := c3 (Nat.le_of_not_lt h3)
        exact va_runVN (host := host) S hMet ⟨⟨⟨rfl, rfl, hroomF.1, hroomF.2, hws, List.mem_cons_self⟩, hts _ m2, hts _ m4, m5, hdesc, va_Nw.use rfl (hnw _ hh)⟩, hinst, hsel⟩ hpV rfl hlen2 hlsz hstk2 hrest hdg hf
    · exact absurd h0 ho
    · subst hi
      obtain ⟨hy1, hret⟩ := c7 (hop.trans h0)
      have hpS : PreS s H (va_Pc ((Sum.inl (some k) :: as2).map (ry_iv r ad xa)) (ry_Pre NW AO PX D cl A xa z r ad)) (.ref (ad k) :: as2.map (ry_iv r ad xa)) := ⟨ry_blind hPX, hpc⟩
      have hcode2 := hts _ m2
      rw [hret] at hcode2 hMet hws
      by_cases h3 : q.1 < 3
      · exact va_runI S hMet ⟨⟨rfl, rfl, hroomF.1, hroomF.2, hws, List.mem_cons_self, hcode2, hts _ m4, m5, hdesc, hts _ (c2 h3)⟩, hy1, hinst⟩ hpS rfl hlen2 hlsz hstk2 hrest hdg hf
      · obtain ⟨host, hh⟩ := c3 (Nat.le_of_not_lt h3)
        exact va_runIN (host := host) S hMet ⟨⟨⟨rfl, rfl, hroomF.1, hroomF.2, hws, List.mem_cons_self⟩, hcode2, hts _ m4, m5, hdesc, va_Nw.use rfl (hnw _ hh)⟩, hy1, hinst⟩ hpS rfl hlen2 hlsz hstk2 hrest hdg hf
set_option maxHeartbeats 2000000 in
theorem ry_goal (hGG : ∀ w ∈ G, goodWord w = true) (hPX : ry_PXOK NW A PX) (t1 : ry_frOK G NW cl nm T) (t2 : ry_crOK G cl nm T) (t3 : ry_arOK G AO cl nm T) (t4 : ry_kcOK G nm T) (t5 : ry_acOK G) (tm : ry_mlOK G nm T) (tc : ry_cjOK G NW cl nm T) (hxh : ry_xhOK xh G NW AO cl nm A xa PX l D) : ∀ (f d : Nat) (lw : Bool), ry_Goal f d lw xh T G NW AO cl nm A xa PX l D := by
  intro f
  induction f with
  | zero =>
    intro d lw M z Es hex
    exact absurd (show (none : Option (List ry_End)) = some Es from hex) (fun q => by cases q)
  | succ f ih =>
    intro d lw M z Es hex hn p e R s m args below meth c Q H0 H locs ls r ad hF hA hH0 hmc hms hd hdl hscr hR hret
    rw [ry_exec] at hex
    split at hex
    · cases hex
    · rename_i i len hdg
      split at hex
      · rename_i E hE
        cases hex
        obtain ⟨a1, a2, a3, a4, a5, a6, a7⟩ := ry_retk_ok (r := r) (ad := ad) (xa := xa) hR.1 hE hdg
        obtain ⟨hW0, hS⟩ := hR.2.2.2.1.to0
        obtain ⟨eI, eF, eh, ev⟩ := E
        dsimp only at a1 a2 a3 a4 a7
        subst a1; subst a2; subst a3
        rw [a4]
        refine hret _ List.mem_cons_self r ad H locs ls (ry_zpc z) z.2.2.2.1 z.2.2.2.2.1 (Nat.le_refl _) (Nat.le_refl _) ry_same.rf ry_sameA.rf ⟨hR.1, hR.2.1, hR.2.2.1, hW0, fun v hv => ry_stsc hR v ?_⟩ hS a5 a6 a7
        rw [a4]
        have hv2 : ev = some v := hv
        rw [hv2]
        exact List.mem_cons_self
      · split at hex
        · rename_i zs hzs
          have K : ∀ z_p ∈ zs, ry_G p l e R s m args below meth c Q D cl A xa M.2.2.1 H0 z.1.length z.2.2.1.length r ad z_p := by
            intro z_p hz_p r_p ad_p H_p locs_p ls_p hN hM hr ha hR_p
            obtain ⟨xs, hx1, hx2⟩ := ry_bind_ok hex z_p hz_p
            exact ih d lw M z_p xs hx1 hn hF hA hH0 hmc hms hd hdl (hscr.to hR.1.2.1 hr) hR_p fun E hE r2 ad2 H2 locs2 ls2 pc2 k2 n2 hN2 hM2 hr2 ha2 => hret E (hx2 E hE) r2 ad2 H2 locs2 ls2 pc2 k2 n2 (Nat.le_trans hN hN2) (Nat.le_trans hM hM2) (hr.tr hr2 hN) (ha.tr ha2 hM)
          rcases ry_or_ok hzs with h | h
          · exact hxh d M i len z zs h hn hF hA hH0 hmc hms hd hdl hdg hR K
          · exact ry_step_ok hF hn t1 t2 t3 t4 t5 hA hmc hms hscr hdg hR h K
        · split at hex
          · cases hex
          · rename_i d_p hno
            split at hex
            · cases hex
            · rename_i q M_p as t hprep
              split at hex
              · cases hex
              · rename_i Es_p hex_p
                obtain ⟨as2, hrun⟩ := ry_run (l := l) (D := D) hGG hPX tm tc (ih d_p false) hn hF hA hH0 hmc hms hd hdl hR hdg hprep hex_p
                obtain ⟨hW0, hS⟩ := hR.2.2.2.1.to0
                refine ry_call hrun hS (fun _ _ _ h => h.2) fun v st tt H1 locs1 ht hst hvm hpost hS1 => ?_
                obtain ⟨⟨E, hE, r_p, ad_p, hN, hM, hsr, hsa, hRE, hov⟩, -⟩ := hpost
                cases hov
                obtain ⟨xs, hx1, hx2⟩ := ry_bind_ok hex E hE
                obtain ⟨b1, b2, b3, b4, b5⟩ := hRE
                rw [ht] at b4
                have b4 := b4.moved hvm.symm
                have hstz := ry_stsc hR
                have htsc : ∀ y ∈ t, ry_sc z.1.length z.2.2.1.length y := by
                  obtain ⟨op, idx, -, -, -, -, -, -, -, hsh⟩ := ry_prep_ok hprep
                  intro y hy
                  rcases hsh with ⟨-, -, e1⟩ | ⟨-, k, as3, fs, -, -, e1, -⟩
                  · exact hstz y (by rw [e1]; exact List.mem_append_right _ hy)
                  · exact hstz y (by rw [e1]; exact List.mem_append_right _ (List.mem_cons_of_mem _ hy))
                have hR_p : ry_R D cl A s xa M.2.2.1 H0 (ry_back M_p z t E) r_p ad_p H1 locs1 ls := by
                  refine ⟨b1, b2, b3, b4.to hS1, ?_, fun y hy => ry_sc.mono (ry_lvsc hR y hy) hN hM, fun y hy => ?_⟩
                  · have h := ry_lvh hR
                    show lv_has ls M.2.2.1 (ry_lvs r_p ad_p xa (ry_zlv z))
                    rw [ry_lvs_ext (ry_lvsc hR) hsr hsa]
                    exact h
                  · rcases List.mem_append.mp hy with h | h
                    · refine b5 y ?_
                      cases hv : E.2.2.2 with
                      | none => rw [hv] at h; exact absurd h List.not_mem_nil
                      | some w =>
                        rw [hv] at h
                        rcases List.mem_cons.mp h with h | h
                        · rw [h]
                        · exact absurd h List.not_mem_nil
                    · exact ry_sc.mono (htsc y h) hN hM
                have hgo := ih (d_p + 1) lw M (ry_back M_p z t E) xs hx1 hn hF hA hH0 hmc hms hd hdl (hscr.to hR.1.2.1 hsr) hR_p fun E2 hE2 r2 ad2 H2 locs2 ls2 pc2 k2 n2 hN2 hM2 hr2 ha2 => hret E2 (hx2 E2 hE2) r2 ad2 H2 locs2 ls2 pc2 k2 n2 (Nat.le_trans hN hN2) (Nat.le_trans hM hM2) (hsr.tr hr2 hN) (hsa.tr ha2 hM)
                have hstk : (ry_zst (ry_back M_p z t E)).map (ry_iv r_p ad_p xa) = (E.2.2.2.map (ry_iv r_p ad_p xa)).toList ++ t.map (ry_iv r ad xa) := by
                  show (E.2.2.2.toList ++ t).map (ry_iv r_p ad_p xa) = _
                  rw [List.map_append, ry_toList_map, ry_st_ext htsc hsr hsa]
                rw [hstk] at hgo
                exact hgo
end RYG
end
section
noncomputable def ry_x_init (d : Nat) (z : ry_Z) : Option (List ry_Z) := match ry_pr (ry_zst z) with
  | some (some _, t) => ry_if (decide (1 ≤ d) && decide (ry_cats t ≤ 8)) (some [ry_nx z 3 t])
  | _ => none
noncomputable def ry_x_fill (d : Nat) (z : ry_Z) : Option (List ry_Z) := match ry_pi (ry_zst z) with
  | some (v, t) => match ry_pr t with
    | some (some k, t2) => match (z.2.2.1)[k]? with
      | some (.inr (tc, n, _, _)) => ry_if (tc == 0 && (decide (1 ≤ d) && (decide (ry_cats t2 ≤ 8) && decide (n < 2000000000)))) (some [ry_nxh ((z.2.2.1).set k (.inr (0, n, .inl (.inr (0, v)), []))) z 3 t2])
      | _ => none
    | _ => none
  | none => none
noncomputable def ry_pt (z : ry_Z) (e : ry_E) : Option Int := match ry_bi z.1 e with
  | some (lo, hi) => if lo = hi then some lo else none
  | none => none
noncomputable def ry_x_copy (d : Nat) (z : ry_Z) : Option (List ry_Z) := match ry_pi (ry_zst z) with
  | some (n, t) => match ry_pi t with
    | some (dp, t) => match ry_pr t with
      | some (some k1, t) => match ry_pi t with
        | some (sp, t) => match ry_pr t with
          | some (some k0, t) => match (z.2.2.1)[k0]?, (z.2.2.1)[k1]? with
            | some (.inr (tc0, n0, df, ov)), some (.inr (tc1, n1, _, _)) => ry_if (tc0 == 0 && (tc1 == 0 && (n0 == n1 && (ry_pt z n == some (n0 : Int) && (ry_pt z dp == some 0 && (ry_pt z sp == some 0 && (decide (1 ≤ d) && (decide (ry_cats t ≤ 8) && decide (n0 < 2000000000))))))))) (some [ry_nxh ((z.2.2.1).set k1 (.inr (0, n0, df, ov))) z 3 t])
            | _, _ => none
          | _ => none
        | none => none
      | _ => none
    | none => none
  | none => none
noncomputable def ry_x_min (d : Nat) (z : ry_Z) : Option (List ry_Z) := match ry_pi (ry_zst z) with
  | some (b, t) => match ry_pi t with
    | some (a, t) => match ry_pt z a, ry_pt z b with
      | some x, some y => ry_if (decide (1 ≤ d) && decide (ry_cats t ≤ 8)) (some [ry_nx z 3 (ry_n (if x < y then x else y) :: t)])
      | _, _ => none
    | none => none
  | none => none
noncomputable def ry_x_str (sl : Nat → Nat → Option Nat) (o idx : Nat) (z : ry_Z) : Option (List ry_Z) := match sl o idx with
  | some i => some [ry_nx z 2 (.inr (2, (0, (i : Int))) :: ry_zst z)]
  | none => none
noncomputable def ry_x_slen (len : List Nat) (d : Nat) (z : ry_Z) : Option (List ry_Z) := match ry_zst z with
  | .inr (2, (_, i)) :: t => match len[i.toNat]? with
    | some n => ry_if (decide (1 ≤ i) && (decide (2 ≤ d) && decide (ry_cats t ≤ 8))) (some [ry_nx z 3 (ry_n (n : Int) :: t)])
    | none => none
  | _ => none
noncomputable def ry_isO (v : ry_X) : Option Nat := match v with
  | .inl (.inl (some b)) => some b
  | _ => none
noncomputable def ry_is0 (v : ry_X) : Bool := match v with
  | .inl (.inr (0, (0, 0))) => true
  | _ => false
noncomputable def ry_st0 (st : List ry_V) : Bool := match st with
  | [.inr (0, (0, 0))] => true
  | _ => false
noncomputable def ry_objOf (ht : List ry_C) (k ci : Nat) : Option (List ry_X) := match ht[k]? with
  | some (.inl (c, fs)) => if c = ci then some fs else none
  | _ => none
noncomputable def ry_rowOf (ht : List ry_C) (k tc n : Nat) : Option (ry_X × List (Nat × ry_V)) := match ht[k]? with
  | some (.inr (t, m, df, ov)) => if t = tc ∧ m = n then some (df, ov) else none
  | _ => none
noncomputable def ry_x_image (z : ry_Z) : Option (List ry_Z) := match z with
  | (I, F, ht, c, s, _, lv, st) => match ry_lk lv 0, ry_lk lv 1, ry_lk lv 2 with
    | some (.inl (some k)), some (.inr (0, e)), some (.inr (0, (0, 0))) => match ry_objOf ht k 12, ry_bi I e with
      | some fs, some (lo, hi) => match (fs[3]?).bind ry_isO, (fs[4]?).bind ry_isO with
        | some b, some a => match ry_rowOf ht b 0 6180, ry_rowOf ht a 0 12360 with
          | some (db, ob), some (da, oa) =>
            ry_if (ry_st0 st && (ry_is0 db && (ry_is0 da && (oa.isEmpty && (decide (lo = hi) && (decide (0 ≤ lo) && (decide (lo ≤ 1) && ob.all (fun q => Nat.blt q.1 6180))))))))
              (some [(I, F, ht.set a (.inr (0, 12360, .inl (ry_n 0), ob.map (fun q => (6180 * lo.toNat + q.1, q.2)))), c, s, 54, (2, ry_n 6180) :: ry_del lv 2, [])])
          | _, _ => none
        | _, _ => none
      | _, _ => none
    | _, _, _ => none
noncomputable abbrev ry_Im : Type := ry_Mt → Int → Nat → Bool
noncomputable def ry_xm (M : ry_Mt) (z : ry_Z) : Bool := decide (z.2.2.2.1 ≤ M.2.2.2.2.2.2.1) && decide (z.2.2.2.2.1 ≤ M.2.2.2.2.2.2.2)
noncomputable def ry_xh (xt sl : Nat → Nat → Option Nat) (len : List Nat) (im : ry_Im) : ry_Xh := fun d M i ln z => match i with
  | .ldc idx => ry_if (ln == 2) (ry_x_str sl M.1 idx z)
  | .sipush n => ry_if (ln == 3 && im M n (ry_zpc z)) (ry_x_image z)
  | .invokespecial idx => ry_if (ln == 3 && xt M.1 idx == some 10) (ry_x_init d z)
  | .invokestatic idx => ry_if (ln == 3) (match xt M.1 idx with
    | some 11 => ry_x_copy d z
    | some 12 => ry_if (ry_xm M z) (ry_x_fill d z)
    | some 13 => ry_if (ry_xm M z) (ry_x_min d z)
    | _ => none)
  | .invokevirtual idx => ry_if (ln == 3 && xt M.1 idx == some 14) (ry_if (ry_xm M z) (ry_x_slen len d z))
  | _ => none
end
section
noncomputable abbrev ry_Act : Type := Nat → ry_Z → Option (List ry_Z)
noncomputable abbrev ry_Ent : Type := ry_Act ⊕ ((ry_Z → Option ry_End) ⊕ (Nat × ry_Mt × (ry_Z → Option (List ry_V × List ry_V))))
noncomputable def ry_ex2 (ct : Nat → Nat → Option ry_Ent) : Nat → Nat → Nat → ry_Z → Option (List ry_End)
  | 0, _, _, _ => none
  | f + 1, d, j, (I, F, ht, c, s, pc, lv, st) => match ct j pc with
    | none => none
    | some (.inl g) => match g d (I, F, ht, c, s, pc, lv, st) with
      | none => none
      | some zs => ry_bind (ry_ex2 ct f d j) zs
    | some (.inr (.inl g)) => match g (I, F, ht, c, s, pc, lv, st) with
      | none => none
      | some E => some [E]
    | some (.inr (.inr (j_p, M_p, g))) => match d with
      | 0 => none
      | d_p + 1 => match g (I, F, ht, c, s, pc, lv, st) with
        | none => none
        | some (as, t) => match ry_ex2 ct f d_p j_p (I, F, ht, 0, 0, 0, ry_largs 0 as, []) with
          | none => none
          | some Es => ry_bind (fun E => ry_ex2 ct f (d_p + 1) j (ry_back M_p (I, F, ht, c, s, pc, lv, st) t E)) Es
noncomputable def ry_entOK (xh : ry_Xh) (T : ry_Tb) (lw : Bool) (M : ry_Mt) (pc : Nat) (e : ry_Ent) : Prop :=
  ∃ (i : Instr) (len : Nat), decode M.2.1 pc = .ok (i, len) ∧ match e with
    | .inl g => ∀ (d : Nat) (I : ry_I) (F : ry_F) (ht : List ry_C) (c s : Nat) (lv : List (Nat × ry_V)) (st : List ry_V), ry_retk M i len (I, F, ht, c, s, pc, lv, st) = none ∧
        ∀ zs, g d (I, F, ht, c, s, pc, lv, st) = some zs → ry_or (xh d M i len (I, F, ht, c, s, pc, lv, st)) (ry_step T lw M i len (decode M.2.1 (pc + 1)) (I, F, ht, c, s, pc, lv, st)) = some zs
    | .inr (.inl g) => ∀ (I : ry_I) (F : ry_F) (ht : List ry_C) (c s : Nat) (lv : List (Nat × ry_V)) (st : List ry_V) (E : ry_End), g (I, F, ht, c, s, pc, lv, st) = some E → ry_retk M i len (I, F, ht, c, s, pc, lv, st) = some E
    | .inr (.inr (j_p, M_p, g)) => T.2.2.2.2.2 j_p = some M_p ∧ ∀ (d : Nat) (I : ry_I) (F : ry_F) (ht : List ry_C) (c s : Nat) (lv : List (Nat × ry_V)) (st : List ry_V), ry_retk M i len (I, F, ht, c, s, pc, lv, st) = none ∧
        ry_or (xh d M i len (I, F, ht, c, s, pc, lv, st)) (ry_step T lw M i len (decode M.2.1 (pc + 1)) (I, F, ht, c, s, pc, lv, st)) = none ∧
        ∀ as t, g (I, F, ht, c, s, pc, lv, st) = some (as, t) → ∃ q, ry_prep T M i len (I, F, ht, c, s, pc, lv, st) = some (q, M_p, as, t)
theorem ry_ex2_ok {xh : ry_Xh} {T : ry_Tb} {ct : Nat → Nat → Option ry_Ent} {mo : Nat → Option (ry_Mt × Bool)} (hct : ∀ j M lw pc e, mo j = some (M, lw) → ct j pc = some e → ry_entOK xh T lw M pc e) (hmo : ∀ j M, T.2.2.2.2.2 j = some M → mo j = some (M, false)) :
    ∀ (f d j : Nat) (M : ry_Mt) (lw : Bool) (z : ry_Z) (Es : List ry_End), mo j = some (M, lw) → ry_ex2 ct f d j z = some Es → ry_exec xh T f d lw M z = some Es := by
  intro f
  induction f with
  | zero =>
    intro d j M lw z Es _ h
    exact absurd (show (none : Option (List ry_End)) = some Es from h) (fun q => by cases q)
  | succ f ih =>
    intro d j M lw z Es hM h
    obtain ⟨I, F, ht, c, s, pc, lv, st⟩ := z
    rw [ry_ex2] at h
    rw [ry_exec]
    have hb : ∀ {α : Type} (zs : List α) (g1 g2 : α → Option (List ry_End)) (Es : List ry_End), (∀ a Es, g1 a = some Es → g2 a = some Es) → ry_bind g1 zs = some Es → ry_bind g2 zs = some Es := by
      intro α zs g1 g2 Es hg
      induction zs generalizing Es with
      | nil => exact fun h => h
      | cons a l ihl =>
        intro h
        rw [ry_bind] at h ⊢
        split at h
        · cases h
        · rename_i x hx
          split at h
          · cases h
          · rename_i y hy
            rw [hg a x hx, ihl y hy]
            exact h
    split at h
    · cases h
    · rename_i g hg
      obtain ⟨i, len, hd, hk⟩ := hct j M lw pc _ hM hg
      have hk := hk d I F ht c s lv st
      have hd2 : decode M.2.1 (ry_zpc (I, F, ht, c, s, pc, lv, st)) = .ok (i, len) := hd
      rw [hd2]
      dsimp only
      rw [hk.1]
      split at h
      · cases h
      · rename_i zs hzs
        have h3 := hk.2 zs hzs
        have h4 : ry_or (xh d M i len (I, F, ht, c, s, pc, lv, st)) (ry_step T lw M i len (decode M.2.1 (ry_zpc (I, F, ht, c, s, pc, lv, st) + 1)) (I, F, ht, c, s, pc, lv, st)) = some zs := h3
        dsimp only
        rw [h4]
        exact hb zs _ _ Es (fun a Es_p h => ih d j M lw a Es_p hM h) h
    · rename_i g hg
      obtain ⟨i, len, hd, hk⟩ := hct j M lw pc _ hM hg
      have hk := hk I F ht c s lv st
      have hd2 : decode M.2.1 (ry_zpc (I, F, ht, c, s, pc, lv, st)) = .ok (i, len) := hd
      rw [hd2]
      split at h
      · cases h
      · rename_i E hE
        dsimp only
        rw [hk E hE]
        exact h
    · rename_i j_p M_p g hg
      obtain ⟨i, len, hd, hj, hk⟩ := hct j M lw pc _ hM hg
      have hk := hk d I F ht c s lv st
      have hd2 : decode M.2.1 (ry_zpc (I, F, ht, c, s, pc, lv, st)) = .ok (i, len) := hd
      rw [hd2]
      dsimp only
      rw [hk.1]
      have h4 : ry_or (xh d M i len (I, F, ht, c, s, pc, lv, st)) (ry_step T lw M i len (decode M.2.1 (ry_zpc (I, F, ht, c, s, pc, lv, st) + 1)) (I, F, ht, c, s, pc, lv, st)) = none := hk.2.1
      dsimp only
      rw [h4]
      dsimp only
      cases d with
      | zero => cases h
      | succ d_p =>
        dsimp only at h ⊢
        split at h
        · cases h
        · rename_i as t hast
          obtain ⟨q, hq⟩ := hk.2.2 as t hast
          rw [hq]
          dsimp only
          split at h
          · cases h
          · rename_i Es_p hEs_p
            have h5 := ih d_p j_p M_p false _ Es_p (hmo j_p M_p hj) hEs_p
            have h6 : ry_exec xh T f d_p false M_p (ry_z0 (I, F, ht, c, s, pc, lv, st) as) = some Es_p := h5
            rw [h6]
            dsimp only
            exact hb Es_p _ _ Es (fun a Es_pp h => ih (d_p + 1) j M lw _ Es_pp hM h) h
end
