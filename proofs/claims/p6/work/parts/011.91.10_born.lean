/-! A REFLECTED MACHINE, part 9: new cells; switches; the script -/
def ry_dv (tc : Nat) : ry_V := match tc with
  | 0 => ry_n 0
  | 1 => ry_n 0
  | 2 => .inr (1, (0, 0))
  | _ => .inl none
theorem ry_dv_ok {I : ry_I} {r : Nat → Int} {ad xa : Nat → Nat} {ty : FieldType} (h : ry_sat I r) (h9 : ry_tyc ty ≠ 9) : ry_iv r ad xa (ry_dv (ry_tyc ty)) = defaultValue ty := by
  have e0 : ry_iv r ad xa (ry_n 0) = .int 0 := ry_n_iv h 0
  have e1 : ry_iv r ad xa (.inr (1, (0, 0))) = .long 0 := ry_nL_iv h 0
  match ty, h9 with
  | .int, _ => exact e0
  | .boolean, _ => exact e0
  | .long, _ => exact e1
  | .object _, _ => exact rfl
  | .array _, _ => exact rfl
  | .byte, h => exact absurd rfl h
  | .char, h => exact absurd rfl h
  | .short, h => exact absurd rfl h
  | .float, h => exact absurd rfl h
  | .double, h => exact absurd rfl h
theorem ry_dv_sc {N M tc : Nat} (h : 0 < N) : ry_sc N M (ry_dv tc) := by
  match tc with
  | 0 => exact h
  | 1 => exact h
  | 2 => exact h
  | _ + 3 => exact trivial
/-- a class that is made: its number, the kinds of its fields -/
def ry_Nok (s : State) (args : Array Value) (Ts : List Jvm.Cond) (own : String) (cl : List vw_C) (idx : Nat) (q : Nat × List Nat) : Prop :=
  ∃ (C : String) (T : u_T) (N : Nat) (ty : Nat → FieldType), cl[q.1]? = some (C, T, N) ∧ (∀ w ∈ u_ws C T N, w ∈ Ts) ∧ (∀ k, k < N → parseFieldDescriptor (T k).2.2.1 = some (ty k)) ∧ q.2.length = N ∧ (∀ k, k < N → q.2[k]? = some (ry_tyc (ty k)) ∧ ry_tyc (ty k) ≠ 9) ∧
    (Jvm.Cond.classLink own idx C).before args s = true ∧ (Jvm.Cond.instantiable C N).before args s = true ∧ (Jvm.Cond.initialized C).before args s = true
def ry_Ook (s : State) (args : Array Value) (own : String) (cl : List vw_C) (idx : Nat) (ci : Nat) : Prop :=
  ∃ (C : String) (T : u_T) (N : Nat), cl[ci]? = some (C, T, N) ∧ (Jvm.Cond.classLink own idx C).before args s = true ∧ va_AO C s
def ry_nxa (x : ry_C) (n : Nat) (z : ry_Z) (d : Nat) (t : List ry_V) : ry_Z := match z with
  | (I0, F1, ht0, c0, s0, pc0, lv0, _) => (I0, F1, ht0 ++ [x], c0 + 1, s0 + n, pc0 + d, lv0, .inl (some ht0.length) :: t)
def ry_h_new (cr : Nat → Option (Nat × List Nat)) (mc ms idx : Nat) (z : ry_Z) : Option (List ry_Z) := match cr idx with
  | some q => if z.2.2.2.1 + 1 ≤ mc ∧ z.2.2.2.2.1 + q.2.length ≤ ms then some [ry_nxa (.inl (q.1, q.2.map (fun tc => .inl (ry_dv tc)))) q.2.length z 3 (ry_zst z)] else none
  | none => none
def ry_len (I : ry_I) (e : ry_E) : Option Nat := match ry_bi I e with
  | some (lo, hi) => if lo = hi ∧ 0 ≤ lo ∧ lo ≤ 60000000 then some lo.toNat else none
  | none => none
def ry_atc (a : ArrayType) : Option Nat := match a with
  | .int => some 0
  | .boolean => some 1
  | .long => some 2
  | _ => none
def ry_h_newa (mc ms : Nat) (a : ArrayType) (z : ry_Z) : Option (List ry_Z) := match ry_pi (ry_zst z), ry_atc a with
  | some (e, t), some tc => match ry_len z.1 e with
    | some n => if z.2.2.2.1 + 1 ≤ mc ∧ z.2.2.2.2.1 + n ≤ ms then some [ry_nxa (.inr (tc, n, .inl (ry_dv tc), [])) n z 2 t] else none
    | none => none
  | _, _ => none
def ry_h_newq (ar : Nat → Option Nat) (mc ms idx : Nat) (z : ry_Z) : Option (List ry_Z) := match ry_pi (ry_zst z), ar idx with
  | some (e, t), some ci => match ry_len z.1 e with
    | some n => if z.2.2.2.1 + 1 ≤ mc ∧ z.2.2.2.2.1 + n ≤ ms then some [ry_nxa (.inr (ci + 5, n, .inl (.inl none), [])) n z 3 t] else none
    | none => none
  | _, _ => none
/-- the script's own entries: symbol 2 + its place; the length is symbol 1 -/
def ry_h_sld (z : ry_Z) : Option (List ry_Z) := match ry_pi (ry_zst z) with
  | some (ix, .inr (2, (_, 0)) :: t) => match ry_bi z.1 ix, ry_bi z.1 (1, 0) with
    | some (lo, hi), some (llo, _) => if lo = hi ∧ 0 ≤ lo ∧ lo < llo ∧ lo < 6 then some [ry_nx z 1 (.inr (0, (2 + lo.toNat, 0)) :: t)] else none
    | _, _ => none
  | _ => none
def ry_tcase (z : ry_Z) (a : ry_E) (t : List ry_V) (lo al ah : Int) (offs : Array Int) (j : Nat) : List ry_Z :=
  if al ≤ lo + (j : Int) ∧ lo + (j : Int) ≤ ah then ry_way z (2, a, (0, lo + (j : Int))) ((ry_zpc z : Int) + offs.getD j 0).toNat t else []
def ry_h_table (dflt lo hi : Int) (offs : Array Int) (z : ry_Z) : Option (List ry_Z) := match ry_pi (ry_zst z), ry_off (ry_zpc z) dflt with
  | some (a, t), some dt => match ry_bi z.1 a with
    | some (al, ah) => if (offs.size : Int) = hi - lo + 1 ∧ offs.toList.all (fun o => decide (0 ≤ (ry_zpc z : Int) + o)) = true ∧ lo ≤ hi + 1 then
        some ((List.range offs.size).flatMap (ry_tcase z (ry_nm z.1 a) t lo al ah offs) ++ ((if al < lo then ry_way z (0, ry_nm z.1 a, (0, lo)) dt t else []) ++ (if hi < ah then ry_way z (0, (0, hi), ry_nm z.1 a) dt t else [])))
      else none
    | none => none
  | _, _ => none
section RYN
variable {p : Program} {l : Launch} {e : Env} {R : Room} {s : State} {m : MethodId} {args : Array Value} {below : List Frame} {meth : Method} {c : Code} {Q : State → Prop}
variable {D : va_G} {cl : List vw_C} {A : Nat → Prop} {xa : Nat → Nat} {nL : Nat} {H0 H : Heap} {locs : List Loc} {ls : Array Slot} {r : Nat → Int} {ad : Nat → Nat}
variable {cc : ByteArray} {z : ry_Z} {zs : List ry_Z}
def ry_ad (ad : Nat → Nat) (n q : Nat) : Nat → Nat := fun j => if j = n then q else ad j
theorem ry_ad_same {n q : Nat} : ry_sameA n ad (ry_ad ad n q) := fun j hj => by
  unfold ry_ad
  rw [if_neg (Nat.ne_of_lt hj)]
theorem ry_ad_self {n q : Nat} : ry_ad ad n q n = q := by simp [ry_ad]
/-- a new cell: the state behind it -/
theorem ry_made {x : ry_C} {n d q : Nat} {t : List ry_V} {ws : va_W} {tys tys' : List (ClassId × FieldType)} {e' : va_E} {H1 : Heap} {k n' : Nat} (hR : ry_R D cl A s xa nL H0 z r ad H locs ls) (ht : ∀ v ∈ t, ry_sc z.1.length z.2.2.1.length v)
    (hl : ws.length = z.2.2.1.length) (hc : ∀ (k : Nat) (x : ry_C), z.2.2.1[k]? = some x → ry_csc z.1.length z.2.2.1.length x ∧ ∃ e : va_E, ws[k]? = some (ad k, e) ∧ ry_cell cl tys r ad xa x e)
    (htys : ∀ (x : ry_C) (e : va_E), ry_cell cl tys r ad xa x e → ry_cell cl tys' r ad xa x e) (hK1 : va_K D cl tys' s) (hP1 : va_P D cl (ws ++ [(q, e')]) H1) (hD1 : va_D A (ws ++ [(q, e')])) (hS1 : va_S A H0 H1 locs) (hx : ry_csc z.1.length z.2.2.1.length x) (he : ry_cell cl tys' r ad xa x e')
    (hk : z.2.2.2.1 + 1 = k) (hn : z.2.2.2.2.1 + n = n')
    (K : ry_G p l e R s m args below meth c Q D cl A xa nL H0 z.1.length z.2.2.1.length r ad (ry_nxa x n z d t)) : W p l e R s m args below meth c H1 locs k n' Q (F0 m (ry_zpc z + d) ls (.ref q :: t.map (ry_iv r ad xa))) := by
  have ha : ry_sameA z.2.2.1.length ad (ry_ad ad z.2.2.1.length q) := ry_ad_same
  have hlen : (z.2.2.1 ++ [x]).length = z.2.2.1.length + 1 := by simp
  have hW : ry_W D cl A s xa z.1.length (z.2.2.1 ++ [x]) r (ry_ad ad z.2.2.1.length q) H0 H1 locs := by
    refine ⟨ws ++ [(q, e')], tys', hK1, hP1, hD1, hS1, by simp [hl], fun j y hj => ?_⟩
    rw [hlen]
    by_cases hlt : j < z.2.2.1.length
    · rw [List.getElem?_append_left hlt] at hj
      obtain ⟨h1, e2, h2, h3⟩ := hc j y hj
      refine ⟨ry_csc.mono h1 (Nat.le_refl _) (Nat.le_succ _), e2, ?_, ry_cell_ext (htys _ _ h3) h1 ry_same.rf ha⟩
      rw [List.getElem?_append_left (by rw [hl]; exact hlt), ha j hlt]
      exact h2
    · rw [List.getElem?_append_right (Nat.not_lt.mp hlt)] at hj
      have hz : j - z.2.2.1.length < 1 := (List.getElem?_eq_some_iff.mp hj).1
      have e : j = z.2.2.1.length := by omega
      subst e
      rw [Nat.sub_self] at hj
      cases hj
      refine ⟨ry_csc.mono hx (Nat.le_refl _) (Nat.le_succ _), e', ?_, ry_cell_ext he hx ry_same.rf ha⟩
      rw [← hl, List.getElem?_append_right (Nat.le_refl _), Nat.sub_self, hl, ry_ad_self]
      rfl
  have hR' : ry_R D cl A s xa nL H0 (ry_nxa x n z d t) r (ry_ad ad z.2.2.1.length q) H1 locs ls := by
    refine ⟨hR.1, hR.2.1, hR.2.2.1, hW, ?_, ?_, ?_⟩
    · have h := ry_lvh hR
      show lv_has ls nL (ry_lvs r (ry_ad ad z.2.2.1.length q) xa (ry_zlv z))
      rw [ry_lvs_ext (ry_lvsc hR) ry_same.rf ha]
      exact h
    · intro y hy
      show ry_sc z.1.length (z.2.2.1 ++ [x]).length y.2
      rw [hlen]
      exact ry_sc.mono (ry_lvsc hR y hy) (Nat.le_refl _) (Nat.le_succ _)
    · intro y hy
      show ry_sc z.1.length (z.2.2.1 ++ [x]).length y
      rw [hlen]
      rcases List.mem_cons.mp hy with h | h
      · subst h; exact Nat.lt_succ_self _
      · exact ry_sc.mono (ht y h) (Nat.le_refl _) (Nat.le_succ _)
  refine ry_at K ry_same.rf ha hR' rfl hk hn ?_
  show Value.ref (ry_ad ad z.2.2.1.length q z.2.2.1.length) :: t.map (ry_iv r (ry_ad ad z.2.2.1.length q) xa) = _
  rw [ry_ad_self, ry_st_ext ht ry_same.rf ha]
theorem ry_h_new_ok {cr : Nat → Option (Nat × List Nat)} {mc ms idx : Nat} {Ts : List Jvm.Cond} {own : String} (hexec : p.tables.exec = Jvm.exec) (hb : c.code = cc) (hts : ∀ w ∈ Ts, w.before args s = true) (hown : s.vm.findClass own = some m.cls) (hA : ∀ q, H0.size ≤ q → A q) (hmc : mc ≤ R.cells) (hms : ms ≤ R.slots) (hC : ∀ q, cr idx = some q → ry_Nok s args Ts own cl idx q) (hdg : decode cc (ry_zpc z) = .ok (.new idx, 3))
    (hR : ry_R D cl A s xa nL H0 z r ad H locs ls) (hz : ry_h_new cr mc ms idx z = some zs)
    (K : ∀ z_p ∈ zs, ry_G p l e R s m args below meth c Q D cl A xa nL H0 z.1.length z.2.2.1.length r ad z_p) : W p l e R s m args below meth c H locs z.2.2.2.1 z.2.2.2.2.1 Q (F0 m (ry_zpc z) ls ((ry_zst z).map (ry_iv r ad xa))) := by
  unfold ry_h_new at hz
  split at hz
  · rename_i q hq
    split at hz
    · rename_i hroom
      cases hz
      obtain ⟨ws, tys, hK, hP, hD, hS, hl, hc⟩ := id hR.2.2.2.1
      obtain ⟨C, T, N, ty, f1, f2, f3, f4, f5, f6, f7, f8⟩ := hC q hq
      rw [f4] at hroom
      have hlen : (q.2.map (fun tc => ry_iv r ad xa (ry_dv tc))).length = N := by rw [List.length_map, f4]
      refine va_new (ci := q.1) (fs := q.2.map (fun tc => ry_iv r ad xa (ry_dv tc))) hexec hb hts f2 ty f3 hown f6 f7 f8 hK hP hD hS hA f1 (fun j hj => ?_) (Nat.le_trans hroom.1 hmc) (Nat.le_trans hroom.2 hms) hdg (fun a H1 hP1 hD1 hS1 => ?_)
      · obtain ⟨g1, g2⟩ := f5 j hj
        unfold vp_V
        rw [List.getD_eq_getElem?_getD, List.getElem?_map, g1]
        exact (ry_dv_ok hR.1 g2).symm
      · refine ry_made hR (ry_stsc hR) hl hc (fun _ _ h => h) hK hP1 hD1 hS1 ?_ ?_ rfl (by rw [f4]) (K _ List.mem_cons_self)
        · intro j f hj
          rw [List.getElem?_map] at hj
          obtain ⟨tc, h1, h2⟩ := Option.map_eq_some_iff.mp hj
          subst h2
          exact ry_dv_sc (ry_pos hR.1)
        · refine ⟨_, rfl, by rw [List.length_map, List.length_map], fun j f hj => ?_⟩
          rw [List.getElem?_map] at hj
          obtain ⟨tc, h1, h2⟩ := Option.map_eq_some_iff.mp hj
          subst h2
          exact ⟨_, by rw [List.getElem?_map, h1]; rfl, rfl⟩
    · cases hz
  · cases hz
theorem ry_len_ok {I : ry_I} {ee : ry_E} {n : Nat} (h : ry_sat I r) (hn : ry_len I ee = some n) : ¬ Int32.ofInt (ry_ev r ee) < 0 ∧ (Int32.ofInt (ry_ev r ee)).toNatClampNeg = n ∧ n ≤ 60000000 := by
  unfold ry_len at hn
  split at hn
  · rename_i lo hi he
    split at hn
    · rename_i hc
      cases hn
      obtain ⟨h1, h2, h3, -⟩ := ry_bi_ok h he
      refine ⟨?_, ?_, by omega⟩
      · rw [Int32.lt_iff_toInt_lt, h3, Int32.toInt_zero]; omega
      · show (Int32.ofInt (ry_ev r ee)).toInt.toNat = _
        rw [h3]; omega
    · cases hn
  · cases hn
theorem ry_h_newa_ok {mc ms : Nat} {a : ArrayType} (hexec : p.tables.exec = Jvm.exec) (hb : c.code = cc) (harr : (Jvm.Cond.arrayClass (newarray.typeOf a)).before args s = true) (hA : ∀ q, H0.size ≤ q → A q) (hmc : mc ≤ R.cells) (hms : ms ≤ R.slots) (hdg : decode cc (ry_zpc z) = .ok (.newarray a, 2))
    (hR : ry_R D cl A s xa nL H0 z r ad H locs ls) (hz : ry_h_newa mc ms a z = some zs)
    (K : ∀ z_p ∈ zs, ry_G p l e R s m args below meth c Q D cl A xa nL H0 z.1.length z.2.2.1.length r ad z_p) : W p l e R s m args below meth c H locs z.2.2.2.1 z.2.2.2.2.1 Q (F0 m (ry_zpc z) ls ((ry_zst z).map (ry_iv r ad xa))) := by
  unfold ry_h_newa at hz
  split at hz
  · rename_i ee t tc he htc
    split at hz
    · rename_i n hn
      split at hz
      · rename_i hroom
        cases hz
        obtain ⟨ws, tys, hK, hP, hD, hS, hl, hc⟩ := id hR.2.2.2.1
        obtain ⟨n1, n2, n3⟩ := ry_len_ok hR.1 hn
        have hsts := ry_stsc hR
        rw [ry_pi_ok he] at hsts ⊢
        have ht : ∀ v ∈ t, ry_sc z.1.length z.2.2.1.length v := fun v hv => hsts v (List.mem_cons_of_mem _ hv)
        have e0 : ry_iv r ad xa (ry_dv 0) = .int 0 := ry_n_iv hR.1 0
        have e2 : ry_iv r ad xa (ry_dv 2) = .long 0 := ry_nL_iv hR.1 0
        have hx : ry_csc z.1.length z.2.2.1.length (.inr (tc, n, .inl (ry_dv tc), [])) := fun j hj => ry_dv_sc (ry_pos hR.1)
        match a, htc, harr, hdg with
        | .int, htc, harr, hdg =>
          cases htc
          exact va_newa (atype := .int) (ty := .int) (a0 := (n, .inl (fun _ => 0))) hexec hb harr rfl hK hP hD hS hA (fun _ => rfl) n1 n2 (by show n * 4 ≤ _; omega) (Nat.le_trans hroom.1 hmc) (Nat.le_trans hroom.2 hms) hdg (fun q cA H1 hK1 hP1 hD1 hS1 => ry_made (n := n) hR ht hl hc (fun _ _ h => ry_cell_tys h) hK1 hP1 hD1 hS1 hx ⟨cA, tys.length, _, rfl, by simp; rfl, ⟨_, rfl⟩, fun j hj => e0.symm⟩ rfl rfl (K _ List.mem_cons_self))
        | .boolean, htc, harr, hdg =>
          cases htc
          exact va_newa (atype := .boolean) (ty := .boolean) (a0 := (n, .inl (fun _ => 0))) hexec hb harr rfl hK hP hD hS hA (fun _ => rfl) n1 n2 (by show n * 1 ≤ _; omega) (Nat.le_trans hroom.1 hmc) (Nat.le_trans hroom.2 hms) hdg (fun q cA H1 hK1 hP1 hD1 hS1 => ry_made (n := n) hR ht hl hc (fun _ _ h => ry_cell_tys h) hK1 hP1 hD1 hS1 hx ⟨cA, tys.length, _, rfl, by simp; rfl, ⟨_, rfl⟩, fun j hj => e0.symm⟩ rfl rfl (K _ List.mem_cons_self))
        | .long, htc, harr, hdg =>
          cases htc
          exact va_newa (atype := .long) (ty := .long) (a0 := (n, .inr (.inl (fun _ => 0)))) hexec hb harr rfl hK hP hD hS hA (fun _ => rfl) n1 n2 (by show n * 8 ≤ _; omega) (Nat.le_trans hroom.1 hmc) (Nat.le_trans hroom.2 hms) hdg (fun q cA H1 hK1 hP1 hD1 hS1 => ry_made (n := n) hR ht hl hc (fun _ _ h => ry_cell_tys h) hK1 hP1 hD1 hS1 hx ⟨cA, tys.length, _, rfl, by simp; rfl, ⟨_, rfl⟩, fun j hj => e2.symm⟩ rfl rfl (K _ List.mem_cons_self))
        | .char, htc, _, _ => cases htc
        | .float, htc, _, _ => cases htc
        | .double, htc, _, _ => cases htc
        | .byte, htc, _, _ => cases htc
        | .short, htc, _, _ => cases htc
      · cases hz
    · cases hz
  · cases hz
theorem ry_h_newq_ok {ar : Nat → Option Nat} {mc ms idx : Nat} {own : String} (hexec : p.tables.exec = Jvm.exec) (hb : c.code = cc) (hown : s.vm.findClass own = some m.cls) (hA : ∀ q, H0.size ≤ q → A q) (hmc : mc ≤ R.cells) (hms : ms ≤ R.slots) (hC : ∀ ci, ar idx = some ci → ry_Ook s args own cl idx ci) (hdg : decode cc (ry_zpc z) = .ok (.anewarray idx, 3))
    (hR : ry_R D cl A s xa nL H0 z r ad H locs ls) (hz : ry_h_newq ar mc ms idx z = some zs)
    (K : ∀ z_p ∈ zs, ry_G p l e R s m args below meth c Q D cl A xa nL H0 z.1.length z.2.2.1.length r ad z_p) : W p l e R s m args below meth c H locs z.2.2.2.1 z.2.2.2.2.1 Q (F0 m (ry_zpc z) ls ((ry_zst z).map (ry_iv r ad xa))) := by
  unfold ry_h_newq at hz
  split at hz
  · rename_i ee t ci he hci
    split at hz
    · rename_i n hn
      split at hz
      · rename_i hroom
        cases hz
        obtain ⟨ws, tys, hK, hP, hD, hS, hl, hc⟩ := id hR.2.2.2.1
        obtain ⟨n1, n2, n3⟩ := ry_len_ok hR.1 hn
        obtain ⟨C, T, N, f1, f2, f3⟩ := hC ci hci
        have hsts := ry_stsc hR
        rw [ry_pi_ok he] at hsts ⊢
        have ht : ∀ v ∈ t, ry_sc z.1.length z.2.2.1.length v := fun v hv => hsts v (List.mem_cons_of_mem _ hv)
        have hty : ry_ty cl (ci + 5) = .object C := by
          show FieldType.object ((cl[ci]?).elim "" (fun q => q.1)) = _
          rw [f1]
          rfl
        exact va_newq hexec hb hown f2 f3 hK hP hD hS hA n1 n2 (by omega) (Nat.le_trans hroom.1 hmc) (Nat.le_trans hroom.2 hms) hdg (fun q cA H1 hK1 hP1 hD1 hS1 => ry_made (x := .inr (ci + 5, n, .inl (.inl none), [])) hR ht hl hc (fun _ _ h => ry_cell_tys h) hK1 hP1 hD1 hS1 (fun j hj => trivial) ⟨cA, tys.length, _, rfl, by rw [hty]; simp, ⟨_, rfl⟩, fun j hj => rfl⟩ rfl rfl (K _ List.mem_cons_self))
      · cases hz
    · cases hz
  · cases hz
theorem ry_h_sld_ok {L : Nat} {xs : Nat → Int32} (hexec : p.tables.exec = Jvm.exec) (hb : c.code = cc) (hX : va_X (xa 0) L xs s H0) (hbl : xa 0 < H0.size) (hbA : ¬ A (xa 0)) (hrL : r 1 = (L : Int)) (hrx : ∀ j : Nat, j < 6 → r (2 + j) = (xs j).toInt) (hdg : decode cc (ry_zpc z) = .ok (.iaload, 1))
    (hR : ry_R D cl A s xa nL H0 z r ad H locs ls) (hz : ry_h_sld z = some zs)
    (K : ∀ z_p ∈ zs, ry_G p l e R s m args below meth c Q D cl A xa nL H0 z.1.length z.2.2.1.length r ad z_p) : W p l e R s m args below meth c H locs z.2.2.2.1 z.2.2.2.2.1 Q (F0 m (ry_zpc z) ls ((ry_zst z).map (ry_iv r ad xa))) := by
  unfold ry_h_sld at hz
  split at hz
  · rename_i ix n t hst
    split at hz
    · rename_i lo hi llo lhi h1 h2
      split at hz
      · rename_i hcond
        obtain ⟨c1, c2, c3, c4⟩ := hcond
        cases hz
        obtain ⟨ws, tys, hK, hP, hD, hS, hl, hc⟩ := id hR.2.2.2.1
        obtain ⟨g1, g2, g3, g4⟩ := ry_bi_ok hR.1 h1
        obtain ⟨k1, k2, -, -⟩ := ry_bi_ok hR.1 h2
        have eL : ry_ev r (1, 0) = (L : Int) := by
          unfold ry_ev
          rw [hrL]
          exact Int.add_zero _
        rw [eL] at k1
        have hsts := ry_stsc hR
        rw [ry_pi_ok hst] at hsts ⊢
        have hin : vp_in (Int32.ofInt (ry_ev r ix)) L := vp_in_iff.mpr (by rw [g3]; omega)
        refine va_sld hexec hb hX hbl hbA hS hin hdg ?_
        have ei : (Int32.ofInt (ry_ev r ix)).toNatClampNeg = lo.toNat := by
          show (Int32.ofInt (ry_ev r ix)).toInt.toNat = _
          rw [g3]
          omega
        rw [ei]
        refine ry_at (K _ List.mem_cons_self) ry_same.rf ry_sameA.rf (ry_R_nx hR fun y hy => ?_) rfl rfl rfl ?_
        · rcases List.mem_cons.mp hy with h | h
          · subst h
            have := hR.1.2.1
            show 2 + lo.toNat < z.1.length
            omega
          · exact hsts y (List.mem_cons_of_mem _ (List.mem_cons_of_mem _ h))
        · show Value.int (Int32.ofInt (r (2 + lo.toNat) + 0)) :: _ = _
          rw [hrx _ (by omega), Int.add_zero, Int32.ofInt_toInt]
      · cases hz
    · cases hz
  · cases hz
theorem ry_h_table_ok {dflt lo hi : Int} {offs : Array Int} {len : Nat} (hexec : p.tables.exec = Jvm.exec) (hb : c.code = cc) (hdg : decode cc (ry_zpc z) = .ok (.tableswitch dflt lo hi offs, len))
    (hR : ry_R D cl A s xa nL H0 z r ad H locs ls) (hz : ry_h_table dflt lo hi offs z = some zs)
    (K : ∀ z_p ∈ zs, ry_G p l e R s m args below meth c Q D cl A xa nL H0 z.1.length z.2.2.1.length r ad z_p) : W p l e R s m args below meth c H locs z.2.2.2.1 z.2.2.2.2.1 Q (F0 m (ry_zpc z) ls ((ry_zst z).map (ry_iv r ad xa))) := by
  unfold ry_h_table at hz
  split at hz
  · rename_i a t dt ha hdt
    split at hz
    · rename_i al ah hbi
      split at hz
      · rename_i hcond
        obtain ⟨c1, c2, c3⟩ := hcond
        cases hz
        obtain ⟨g1, g2, g3, g4⟩ := ry_bi_ok hR.1 hbi
        obtain ⟨m1, m2⟩ := ry_nm_ok (e := a) hR.1
        have hsts := ry_stsc hR
        rw [ry_pi_ok ha] at hsts ⊢
        have ht : ∀ v ∈ t, ry_sc z.1.length z.2.2.1.length v := fun v hv => hsts v (List.mem_cons_of_mem _ hv)
        by_cases hlo : ry_ev r a < lo
        · refine lv_tableOut hexec hb hdg (Or.inl (by rw [g3]; exact hlo)) (ry_off_ok hdt) ?_
          refine ry_way_ok (f := (0, ry_nm z.1 a, (0, lo))) hR ?_ (Nat.le_of_ble_eq_true rfl) (m2 g4) (ry_pos hR.1) ht fun z_p hz' => K z_p (List.mem_append_right _ (List.mem_append_left _ ?_))
          · show ry_ev r (ry_nm z.1 a) < ry_ev r (0, lo)
            rw [m1, ry_ev0 hR.1]
            exact hlo
          · rw [if_pos (by omega)]
            exact hz'
        · by_cases hhi : hi < ry_ev r a
          · refine lv_tableOut hexec hb hdg (Or.inr (by rw [g3]; exact hhi)) (ry_off_ok hdt) ?_
            refine ry_way_ok (f := (0, (0, hi), ry_nm z.1 a)) hR ?_ (Nat.le_of_ble_eq_true rfl) (ry_pos hR.1) (m2 g4) ht fun z_p hz' => K z_p (List.mem_append_right _ (List.mem_append_right _ ?_))
            · show ry_ev r (0, hi) < ry_ev r (ry_nm z.1 a)
              rw [m1, ry_ev0 hR.1]
              exact hhi
            · rw [if_pos (by omega)]
              exact hz'
          · have hj : (ry_ev r a - lo).toNat < offs.size := by omega
            have hget : offs[(ry_ev r a - lo).toNat]? = some (offs[(ry_ev r a - lo).toNat]) := Array.getElem?_eq_getElem hj
            have hgd : offs.getD (ry_ev r a - lo).toNat 0 = offs[(ry_ev r a - lo).toNat] := by
              rw [Array.getD_eq_getD_getElem?, hget]
              rfl
            have hpos : 0 ≤ (ry_zpc z : Int) + offs[(ry_ev r a - lo).toNat] := by
              have := List.all_eq_true.mp c2 offs[(ry_ev r a - lo).toNat] (by simp)
              exact of_decide_eq_true this
            refine lv_tableIn hexec hb hdg (by rw [g3]; exact hlo) (by rw [g3]; exact hhi) (off := offs[(ry_ev r a - lo).toNat]) (tgt := ((ry_zpc z : Int) + offs[(ry_ev r a - lo).toNat]).toNat) (by rw [g3]; exact hget) (by omega) ?_
            rw [← hgd]
            have hcast : lo + (((ry_ev r a - lo).toNat : Nat) : Int) = ry_ev r a := by omega
            refine ry_way_ok (f := (2, ry_nm z.1 a, (0, lo + (((ry_ev r a - lo).toNat : Nat) : Int)))) hR ?_ (Nat.le_of_ble_eq_true rfl) (m2 g4) (ry_pos hR.1) ht fun z_p hz' => K z_p (List.mem_append_left _ (List.mem_flatMap.mpr ⟨(ry_ev r a - lo).toNat, List.mem_range.mpr hj, ?_⟩))
            · show ry_ev r (ry_nm z.1 a) = ry_ev r (0, _)
              rw [m1, ry_ev0 hR.1]
              exact hcast.symm
            · unfold ry_tcase
              rw [if_pos (by rw [hcast]; exact ⟨g1, g2⟩)]
              exact hz'
      · cases hz
    · cases hz
  · cases hz
end RYN
