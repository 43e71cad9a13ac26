/-! A REFLECTED MACHINE, part 5: branches -/
def ry_jp (I : ry_I) (F : ry_F) (z : ry_Z) (pc : Nat) (st : List ry_V) : ry_Z := match z with
  | (_, _, ht0, c0, s0, _, lv0, _) => (I, F, ht0, c0, s0, pc, lv0, st)
/-- the way that is gone if a fact holds: none, if it can't -/
def ry_way (z : ry_Z) (f : Nat × ry_E × ry_E) (pc : Nat) (st : List ry_V) : List ry_Z := match ry_bd z.1 f.2.1, ry_bd z.1 f.2.2 with
  | some (al, ah), some (bl, bh) => match ry_asm z.1 z.2.1 f.1 f.2.1 f.2.2 al ah bl bh with
    | some (I, F) => [ry_jp I F z pc st]
    | none => []
  | _, _ => [ry_jp z.1 z.2.1 z pc st]
def ry_okI (I : ry_I) (e : ry_E) : Bool := (ry_bi I e).isSome
def ry_okL (I : ry_I) (e : ry_E) : Bool := (ry_bl I e).isSome
def ry_fork (z : ry_Z) (cnd : Jvm.ClassFile.Cond) (a b : ry_E) (tgt nx : Nat) (st : List ry_V) : List ry_Z :=
  ry_way z (ry_cnd cnd (ry_nm z.1 a) (ry_nm z.1 b)).1 tgt st ++ ry_way z (ry_cnd cnd (ry_nm z.1 a) (ry_nm z.1 b)).2 nx st
def ry_off (pc : Nat) (off : Int) : Option Nat := if 0 ≤ (pc : Int) + off then some ((pc : Int) + off).toNat else none
def ry_h_if (cnd : Jvm.ClassFile.Cond) (off : Int) (z : ry_Z) : Option (List ry_Z) := match ry_pi (ry_zst z), ry_off (ry_zpc z) off with
  | some (a, t), some tgt => if ry_okI z.1 a then some (ry_fork z cnd a (0, 0) tgt (ry_zpc z + 3) t) else none
  | _, _ => none
def ry_h_icmp (cnd : Jvm.ClassFile.Cond) (off : Int) (z : ry_Z) : Option (List ry_Z) := match ry_pi (ry_zst z), ry_off (ry_zpc z) off with
  | some (b, t), some tgt => match ry_pi t with
    | some (a, t) => if ry_okI z.1 a && ry_okI z.1 b then some (ry_fork z cnd a b tgt (ry_zpc z + 3) t) else none
    | none => none
  | _, _ => none
def ry_h_lcmp (nx : Except DecodeError (Instr × Nat)) (z : ry_Z) : Option (List ry_Z) := match ry_pl (ry_zst z) with
  | some (b, t) => match ry_pl t with
    | some (a, t) => match nx with
      | .ok (.ifCond cnd off, 3) => match ry_off (ry_zpc z + 1) off with
        | some tgt => if ry_okL z.1 a && ry_okL z.1 b then some (ry_fork z cnd a b tgt (ry_zpc z + 4) t) else none
        | none => none
      | _ => none
    | none => none
  | none => none
def ry_h_goto (off : Int) (z : ry_Z) : Option (List ry_Z) := match ry_off (ry_zpc z) off with
  | some tgt => some [ry_jp z.1 z.2.1 z tgt (ry_zst z)]
  | none => none
/-- what a condition says of two numbers -/
def ry_holds (c : Jvm.ClassFile.Cond) (x y : Int) : Prop := match c with
  | .eq => x = y
  | .ne => ¬ x = y
  | .lt => x < y
  | .ge => y ≤ x
  | .gt => y < x
  | .le => x ≤ y
theorem ry_cnd_t {c : Jvm.ClassFile.Cond} {r : Nat → Int} {a b : ry_E} (h : ry_holds c (ry_ev r a) (ry_ev r b)) : ry_fact r (ry_cnd c a b).1 ∧ (ry_cnd c a b).1.1 ≤ 3 := by
  cases c
  · exact ⟨h, Nat.le_of_ble_eq_true rfl⟩
  · exact ⟨h, Nat.le_of_ble_eq_true rfl⟩
  · exact ⟨h, Nat.le_of_ble_eq_true rfl⟩
  · exact ⟨h, Nat.le_of_ble_eq_true rfl⟩
  · exact ⟨h, Nat.le_of_ble_eq_true rfl⟩
  · exact ⟨h, Nat.le_of_ble_eq_true rfl⟩
theorem ry_cnd_f {c : Jvm.ClassFile.Cond} {r : Nat → Int} {a b : ry_E} (h : ¬ ry_holds c (ry_ev r a) (ry_ev r b)) : ry_fact r (ry_cnd c a b).2 ∧ (ry_cnd c a b).2.1 ≤ 3 := by
  cases c
  · exact ⟨h, Nat.le_of_ble_eq_true rfl⟩
  · exact ⟨Classical.not_not.mp h, Nat.le_of_ble_eq_true rfl⟩
  · exact ⟨Int.not_lt.mp h, Nat.le_of_ble_eq_true rfl⟩
  · exact ⟨Int.not_le.mp h, Nat.le_of_ble_eq_true rfl⟩
  · exact ⟨Int.not_lt.mp h, Nat.le_of_ble_eq_true rfl⟩
  · exact ⟨Int.not_le.mp h, Nat.le_of_ble_eq_true rfl⟩
theorem ry_cnd_in {c : Jvm.ClassFile.Cond} {a b : ry_E} {N : Nat} (ha : a.1 < N) (hb : b.1 < N) : ((ry_cnd c a b).1.2.1.1 < N ∧ (ry_cnd c a b).1.2.2.1 < N) ∧ ((ry_cnd c a b).2.2.1.1 < N ∧ (ry_cnd c a b).2.2.2.1 < N) := by
  cases c <;> exact ⟨⟨by first | exact ha | exact hb, by first | exact ha | exact hb⟩, ⟨by first | exact ha | exact hb, by first | exact ha | exact hb⟩⟩
section RYB
variable {p : Program} {l : Launch} {e : Env} {R : Room} {s : State} {m : MethodId} {args : Array Value} {below : List Frame} {meth : Method} {c : Code} {Q : State → Prop}
variable {D : va_G} {cl : List vw_C} {A : Nat → Prop} {xa : Nat → Nat} {nL : Nat} {H0 H : Heap} {locs : List Loc} {ls : Array Slot} {r : Nat → Int} {ad : Nat → Nat}
variable {cc : ByteArray} {z : ry_Z} {zs : List ry_Z}
theorem ry_R_jp {I : ry_I} {F : ry_F} {pc : Nat} {st : List ry_V} (hR : ry_R D cl A s xa nL H0 z r ad H locs ls) (hI : I.length = z.1.length) (hsat : ry_sat I r) (hF : ry_facts F r) (hfs : ry_fsc z.1.length F) (hs : ∀ v ∈ st, ry_sc z.1.length z.2.2.1.length v) : ry_R D cl A s xa nL H0 (ry_jp I F z pc st) r ad H locs ls := by
  obtain ⟨h1, h2, h3, h4, h5, h6, h7⟩ := hR
  refine ⟨hsat, hF, ?_, ?_, h5, ?_, ?_⟩
  · show ry_fsc I.length F
    rw [hI]; exact hfs
  · show ry_W D cl A s xa I.length z.2.2.1 r ad H0 H locs
    rw [hI]; exact h4
  · show ∀ q ∈ ry_zlv z, ry_sc I.length z.2.2.1.length q.2
    rw [hI]; exact h6
  · show ∀ v ∈ st, ry_sc I.length z.2.2.1.length v
    rw [hI]; exact hs
/-- a way is among the goals, if its fact holds -/
theorem ry_way_ok {f : Nat × ry_E × ry_E} {pc : Nat} {st : List ry_V} (hR : ry_R D cl A s xa nL H0 z r ad H locs ls) (hf : ry_fact r f) (hc : f.1 ≤ 3) (h1 : f.2.1.1 < z.1.length) (h2 : f.2.2.1 < z.1.length) (hs : ∀ v ∈ st, ry_sc z.1.length z.2.2.1.length v)
    (K : ∀ z_p ∈ ry_way z f pc st, ry_G p l e R s m args below meth c Q D cl A xa nL H0 z.1.length z.2.2.1.length r ad z_p) : W p l e R s m args below meth c H locs z.2.2.2.1 z.2.2.2.2.1 Q (F0 m pc ls (st.map (ry_iv r ad xa))) := by
  obtain ⟨k, x, y⟩ := f
  unfold ry_way at K
  dsimp only at K hc h1 h2
  split at K
  · rename_i al ah bl bh e1 e2
    have q1 := ry_bd_ok hR.1 e1
    have q2 := ry_bd_ok hR.1 e2
    obtain ⟨I2, F2, g1, g2, g3, g4, g5⟩ := ry_asm_ok (I := z.1) (F := z.2.1) hc hR.1 hR.2.1 hR.2.2.1 h1 h2 ⟨q1.1, q1.2.1⟩ ⟨q2.1, q2.2.1⟩ hf
    rw [g1] at K
    exact ry_at (K _ List.mem_cons_self) ry_same.rf ry_sameA.rf (ry_R_jp hR g5 g2 g3 g4 hs) rfl rfl rfl rfl
  · exact ry_at (K _ List.mem_cons_self) ry_same.rf ry_sameA.rf (ry_R_jp hR rfl hR.1 hR.2.1 hR.2.2.1 hs) rfl rfl rfl rfl
theorem ry_fork_ok {cnd : Jvm.ClassFile.Cond} {a b : ry_E} {tgt nx : Nat} {st : List ry_V} (hR : ry_R D cl A s xa nL H0 z r ad H locs ls) (ha : a.1 < z.1.length) (hb : b.1 < z.1.length) (hs : ∀ v ∈ st, ry_sc z.1.length z.2.2.1.length v)
    (K : ∀ z_p ∈ ry_fork z cnd a b tgt nx st, ry_G p l e R s m args below meth c Q D cl A xa nL H0 z.1.length z.2.2.1.length r ad z_p) :
    (ry_holds cnd (ry_ev r a) (ry_ev r b) → W p l e R s m args below meth c H locs z.2.2.2.1 z.2.2.2.2.1 Q (F0 m tgt ls (st.map (ry_iv r ad xa)))) ∧ (¬ ry_holds cnd (ry_ev r a) (ry_ev r b) → W p l e R s m args below meth c H locs z.2.2.2.1 z.2.2.2.2.1 Q (F0 m nx ls (st.map (ry_iv r ad xa)))) := by
  obtain ⟨a1, a2⟩ := ry_nm_ok (e := a) hR.1
  obtain ⟨b1, b2⟩ := ry_nm_ok (e := b) hR.1
  obtain ⟨⟨i1, i2⟩, i3, i4⟩ := ry_cnd_in (c := cnd) (a2 ha) (b2 hb)
  rw [← a1, ← b1]
  refine ⟨fun h => ?_, fun h => ?_⟩
  · obtain ⟨f1, f2⟩ := ry_cnd_t h
    exact ry_way_ok hR f1 f2 i1 i2 hs fun z_p hz => K z_p (List.mem_append_left _ hz)
  · obtain ⟨f1, f2⟩ := ry_cnd_f h
    exact ry_way_ok hR f1 f2 i3 i4 hs fun z_p hz => K z_p (List.mem_append_right _ hz)
theorem ry_off_ok {pc tgt : Nat} {off : Int} (h : ry_off pc off = some tgt) : (pc : Int) + off = (tgt : Int) := by
  unfold ry_off at h
  split at h
  · cases h
    omega
  · cases h
theorem ry_okI_ok {I : ry_I} {a : ry_E} (h : ry_sat I r) (ho : ry_okI I a = true) : (Int32.ofInt (ry_ev r a)).toInt = ry_ev r a ∧ a.1 < I.length := by
  unfold ry_okI at ho
  obtain ⟨b, hb⟩ := Option.isSome_iff_exists.mp ho
  obtain ⟨lo, hi⟩ := b
  exact (ry_bi_ok h hb).2.2
theorem ry_okL_ok {I : ry_I} {a : ry_E} (h : ry_sat I r) (ho : ry_okL I a = true) : (Int64.ofInt (ry_ev r a)).toInt = ry_ev r a ∧ a.1 < I.length := by
  unfold ry_okL at ho
  obtain ⟨b, hb⟩ := Option.isSome_iff_exists.mp ho
  obtain ⟨lo, hi⟩ := b
  exact (ry_bl_ok h hb).2.2
/-- all conditions at once, of one int -/
theorem ry_lv_if (hexec : p.tables.exec = Jvm.exec) (hb : c.code = cc) {k n pc : Nat} {rest : List Value} {x : Int32} {cnd : Jvm.ClassFile.Cond} {off : Int} {tgt : Nat} (hdg : decode cc pc = .ok (.ifCond cnd off, 3)) (ht : (pc : Int) + off = (tgt : Int))
    (kt : ry_holds cnd x.toInt 0 → W p l e R s m args below meth c H locs k n Q (F0 m tgt ls rest)) (kf : ¬ ry_holds cnd x.toInt 0 → W p l e R s m args below meth c H locs k n Q (F0 m (pc + 3) ls rest)) : W p l e R s m args below meth c H locs k n Q (F0 m pc ls (.int x :: rest)) := by
  have z0 : (0 : Int32).toInt = 0 := Int32.toInt_zero
  have ex : (x = 0) ↔ (x.toInt = 0) := by rw [← z0]; exact Int32.toInt_inj.symm
  have el : (x < 0) ↔ (x.toInt < 0) := by rw [Int32.lt_iff_toInt_lt, z0]
  have eg : (0 < x) ↔ (0 < x.toInt) := by rw [Int32.lt_iff_toInt_lt, z0]
  have ege : (0 ≤ x) ↔ (0 ≤ x.toInt) := by rw [Int32.le_iff_toInt_le, z0]
  have ele : (x ≤ 0) ↔ (x.toInt ≤ 0) := by rw [Int32.le_iff_toInt_le, z0]
  cases cnd
  · exact lv_if_eq hexec hb hdg ht (fun h => kt (ex.mp h)) (fun h => kf (fun q => h (ex.mpr q)))
  · exact lv_if_ne hexec hb hdg ht (fun h => kt (fun q => h (ex.mpr q))) (fun h => kf (fun q => q (ex.mp h)))
  · exact lv_if_lt hexec hb hdg ht (fun h => kt (el.mp h)) (fun h => kf (fun q => h (el.mpr q)))
  · exact lv_if_ge hexec hb hdg ht (fun h => kt (ege.mp h)) (fun h => kf (fun q => h (ege.mpr q)))
  · exact lv_if_gt hexec hb hdg ht (fun h => kt (eg.mp h)) (fun h => kf (fun q => h (eg.mpr q)))
  · exact lv_if_le hexec hb hdg ht (fun h => kt (ele.mp h)) (fun h => kf (fun q => h (ele.mpr q)))
theorem ry_lv_icmp (hexec : p.tables.exec = Jvm.exec) (hb : c.code = cc) {k n pc : Nat} {rest : List Value} {x y : Int32} {cnd : Jvm.ClassFile.Cond} {off : Int} {tgt : Nat} (hdg : decode cc pc = .ok (.if_icmp cnd off, 3)) (ht : (pc : Int) + off = (tgt : Int))
    (kt : ry_holds cnd x.toInt y.toInt → W p l e R s m args below meth c H locs k n Q (F0 m tgt ls rest)) (kf : ¬ ry_holds cnd x.toInt y.toInt → W p l e R s m args below meth c H locs k n Q (F0 m (pc + 3) ls rest)) : W p l e R s m args below meth c H locs k n Q (F0 m pc ls (.int y :: .int x :: rest)) := by
  have ex : (x = y) ↔ (x.toInt = y.toInt) := Int32.toInt_inj.symm
  have el : (x < y) ↔ (x.toInt < y.toInt) := Int32.lt_iff_toInt_lt
  have eg : (y < x) ↔ (y.toInt < x.toInt) := Int32.lt_iff_toInt_lt
  have ege : (y ≤ x) ↔ (y.toInt ≤ x.toInt) := Int32.le_iff_toInt_le
  have ele : (x ≤ y) ↔ (x.toInt ≤ y.toInt) := Int32.le_iff_toInt_le
  cases cnd
  · exact lv_icmp_eq hexec hb hdg ht (fun h => kt (ex.mp h)) (fun h => kf (fun q => h (ex.mpr q)))
  · exact lv_icmp_ne hexec hb hdg ht (fun h => kt (fun q => h (ex.mpr q))) (fun h => kf (fun q => q (ex.mp h)))
  · exact lv_icmp_lt hexec hb hdg ht (fun h => kt (el.mp h)) (fun h => kf (fun q => h (el.mpr q)))
  · exact lv_icmp_ge hexec hb hdg ht (fun h => kt (ege.mp h)) (fun h => kf (fun q => h (ege.mpr q)))
  · exact lv_icmp_gt hexec hb hdg ht (fun h => kt (eg.mp h)) (fun h => kf (fun q => h (eg.mpr q)))
  · exact lv_icmp_le hexec hb hdg ht (fun h => kt (ele.mp h)) (fun h => kf (fun q => h (ele.mpr q)))
theorem ry_h_if_ok {cnd : Jvm.ClassFile.Cond} {off : Int} (hexec : p.tables.exec = Jvm.exec) (hb : c.code = cc) (hdg : decode cc (ry_zpc z) = .ok (.ifCond cnd off, 3)) (hR : ry_R D cl A s xa nL H0 z r ad H locs ls) (hz : ry_h_if cnd off z = some zs)
    (K : ∀ z_p ∈ zs, ry_G p l e R s m args below meth c Q D cl A xa nL H0 z.1.length z.2.2.1.length r ad z_p) : W p l e R s m args below meth c H locs z.2.2.2.1 z.2.2.2.2.1 Q (F0 m (ry_zpc z) ls ((ry_zst z).map (ry_iv r ad xa))) := by
  unfold ry_h_if at hz
  split at hz
  · rename_i a t tgt ha ht
    split at hz
    · rename_i ho
      cases hz
      obtain ⟨o1, o2⟩ := ry_okI_ok hR.1 ho
      have hst := ry_stsc hR
      rw [ry_pi_ok ha] at hst ⊢
      obtain ⟨k1, k2⟩ := ry_fork_ok hR o2 (ry_pos hR.1) (fun v hv => hst v (List.mem_cons_of_mem _ hv)) K
      rw [ry_ev0 hR.1] at k1 k2
      exact ry_lv_if hexec hb hdg (ry_off_ok ht) (fun h => k1 (by rw [o1] at h; exact h)) (fun h => k2 (by rw [o1] at h; exact h))
    · cases hz
  · cases hz
theorem ry_h_icmp_ok {cnd : Jvm.ClassFile.Cond} {off : Int} (hexec : p.tables.exec = Jvm.exec) (hb : c.code = cc) (hdg : decode cc (ry_zpc z) = .ok (.if_icmp cnd off, 3)) (hR : ry_R D cl A s xa nL H0 z r ad H locs ls) (hz : ry_h_icmp cnd off z = some zs)
    (K : ∀ z_p ∈ zs, ry_G p l e R s m args below meth c Q D cl A xa nL H0 z.1.length z.2.2.1.length r ad z_p) : W p l e R s m args below meth c H locs z.2.2.2.1 z.2.2.2.2.1 Q (F0 m (ry_zpc z) ls ((ry_zst z).map (ry_iv r ad xa))) := by
  unfold ry_h_icmp at hz
  split at hz
  · rename_i b t tgt hbb ht
    split at hz
    · rename_i a t2 ha
      split at hz
      · rename_i ho
        cases hz
        rw [Bool.and_eq_true] at ho
        obtain ⟨o1, o2⟩ := ry_okI_ok hR.1 ho.1
        obtain ⟨o3, o4⟩ := ry_okI_ok hR.1 ho.2
        have hst := ry_stsc hR
        have e2 := ry_pi_ok ha
        subst e2
        rw [ry_pi_ok hbb] at hst ⊢
        obtain ⟨k1, k2⟩ := ry_fork_ok hR o2 o4 (fun v hv => hst v (List.mem_cons_of_mem _ (List.mem_cons_of_mem _ hv))) K
        exact ry_lv_icmp hexec hb hdg (ry_off_ok ht) (fun h => k1 (by rw [o1, o3] at h; exact h)) (fun h => k2 (by rw [o1, o3] at h; exact h))
      · cases hz
    · cases hz
  · cases hz
theorem ry_lcmp_holds {cnd : Jvm.ClassFile.Cond} (x y : Int64) : ry_holds cnd (lg_cmp x y).toInt 0 ↔ ry_holds cnd x.toInt y.toInt := by
  have z0 : (0 : Int32).toInt = 0 := Int32.toInt_zero
  have ex : ((lg_cmp x y).toInt = 0) ↔ (x.toInt = y.toInt) := by rw [← z0, Int32.toInt_inj, lg_cmp_eq, Int64.toInt_inj]
  cases cnd
  · exact ex
  · exact not_congr ex
  · show (lg_cmp x y).toInt < 0 ↔ x.toInt < y.toInt
    rw [← z0, ← Int32.lt_iff_toInt_lt, lg_cmp_lt, Int64.lt_iff_toInt_lt]
  · show 0 ≤ (lg_cmp x y).toInt ↔ y.toInt ≤ x.toInt
    rw [← z0, ← Int32.le_iff_toInt_le, lg_cmp_ge, Int64.le_iff_toInt_le]
  · show 0 < (lg_cmp x y).toInt ↔ y.toInt < x.toInt
    rw [← z0, ← Int32.lt_iff_toInt_lt, lg_cmp_gt, Int64.lt_iff_toInt_lt]
  · show (lg_cmp x y).toInt ≤ 0 ↔ x.toInt ≤ y.toInt
    rw [← z0, ← Int32.le_iff_toInt_le, lg_cmp_le, Int64.le_iff_toInt_le]
theorem ry_h_lcmp_ok (hexec : p.tables.exec = Jvm.exec) (hb : c.code = cc) (hdg : decode cc (ry_zpc z) = .ok (.lcmp, 1)) (hR : ry_R D cl A s xa nL H0 z r ad H locs ls) (hz : ry_h_lcmp (decode cc (ry_zpc z + 1)) z = some zs)
    (K : ∀ z_p ∈ zs, ry_G p l e R s m args below meth c Q D cl A xa nL H0 z.1.length z.2.2.1.length r ad z_p) : W p l e R s m args below meth c H locs z.2.2.2.1 z.2.2.2.2.1 Q (F0 m (ry_zpc z) ls ((ry_zst z).map (ry_iv r ad xa))) := by
  unfold ry_h_lcmp at hz
  split at hz
  · rename_i b t hbb
    split at hz
    · rename_i a t2 ha
      split at hz
      · rename_i cnd off hd2
        split at hz
        · rename_i tgt ht
          split at hz
          · rename_i ho
            cases hz
            rw [Bool.and_eq_true] at ho
            obtain ⟨o1, o2⟩ := ry_okL_ok hR.1 ho.1
            obtain ⟨o3, o4⟩ := ry_okL_ok hR.1 ho.2
            have hst := ry_stsc hR
            have e2 := ry_pl_ok ha
            subst e2
            rw [ry_pl_ok hbb] at hst ⊢
            obtain ⟨k1, k2⟩ := ry_fork_ok hR o2 o4 (fun v hv => hst v (List.mem_cons_of_mem _ (List.mem_cons_of_mem _ hv))) K
            refine W.lcmp hexec hb hdg ?_
            refine ry_lv_if hexec hb hd2 (ry_off_ok ht) (fun h => k1 ?_) (fun h => k2 ?_)
            · have h2 := (ry_lcmp_holds _ _).mp h
              rw [o1, o3] at h2
              exact h2
            · intro q
              refine h ((ry_lcmp_holds _ _).mpr ?_)
              rw [o1, o3]
              exact q
          · cases hz
        · cases hz
      · cases hz
    · cases hz
  · cases hz
theorem ry_h_goto_ok {off : Int} (hexec : p.tables.exec = Jvm.exec) (hb : c.code = cc) (hdg : decode cc (ry_zpc z) = .ok (.goto off, 3)) (hR : ry_R D cl A s xa nL H0 z r ad H locs ls) (hz : ry_h_goto off z = some zs)
    (K : ∀ z_p ∈ zs, ry_G p l e R s m args below meth c Q D cl A xa nL H0 z.1.length z.2.2.1.length r ad z_p) : W p l e R s m args below meth c H locs z.2.2.2.1 z.2.2.2.2.1 Q (F0 m (ry_zpc z) ls ((ry_zst z).map (ry_iv r ad xa))) := by
  unfold ry_h_goto at hz
  split at hz
  · rename_i tgt ht
    cases hz
    exact lv_goto hexec hb hdg (ry_off_ok ht) (ry_at (K _ List.mem_cons_self) ry_same.rf ry_sameA.rf (ry_R_jp hR rfl hR.1 hR.2.1 hR.2.2.1 (ry_stsc hR)) rfl rfl rfl rfl)
  · cases hz
end RYB
