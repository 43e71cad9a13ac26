/-! THE BOX MACHINE: one instruction -/
/-- a method: number of its class, bytes, locals, what it answers, name, is it a constructor, cells and slots that it may make -/
abbrev rx_Mt : Type := Nat × ByteArray × Nat × Option FieldType × MethodName × Bool × Nat × Nat
/-- a call: how (0 virtual, 1 static, 2 constructor, 3 4 5 the same of a nest mate), parameters, number of the class, of the method -/
abbrev rx_J : Type := Nat × Nat × Nat × Nat
/-- tables: fields, classes made, classes of rows, constants, calls, methods -/
abbrev rx_Tb : Type := (Nat → Nat → Option rx_Q) × (Nat → Nat → Option (Nat × List Nat)) × (Nat → Nat → Option Nat) × (Nat → Nat → Option rx_V) × (Nat → Nat → Option rx_J) × (Nat → Option rx_Mt)
def rx_if {α : Type} (b : Bool) (x : Option α) : Option α := match b with
  | true => x
  | false => none
theorem rx_if_ok {α : Type} {b : Bool} {x : Option α} {y : α} (h : rx_if b x = some y) : b = true ∧ x = some y := by
  cases b with
  | true => exact ⟨rfl, h⟩
  | false => exact absurd (show (none : Option α) = some y from h) (fun q => by cases q)
theorem rx_ifn {α : Type} {a b : Nat} {x : Option α} {y : α} (h : rx_if (a == b) x = some y) : a = b ∧ x = some y := ⟨beq_iff_eq.mp (rx_if_ok h).1, (rx_if_ok h).2⟩
def rx_or {α : Type} (x y : Option α) : Option α := match x with
  | some a => some a
  | none => y
theorem rx_or_ok {α : Type} {x y : Option α} {a : α} (h : rx_or x y = some a) : x = some a ∨ y = some a := by
  cases x with
  | some b => exact Or.inl h
  | none => exact Or.inr h
def rx_h_const (kc : Nat → Nat → Option rx_V) (o idx kd d : Nat) (z : rx_Z) : Option (List rx_Z) := match kc o idx with
  | some (.inr (k, (0, n))) => rx_if (k == kd) (rx_h_push (.inr (k, (0, n))) d z)
  | _ => none
def rx_tcase (z : rx_Z) (a : rx_E) (t : List rx_V) (lo al ah : Int) (offs : Array Int) (j : Nat) : List rx_Z :=
  if al ≤ lo + (j : Int) ∧ lo + (j : Int) ≤ ah then rx_way z (2, a, (0, lo + (j : Int))) ((rx_zpc z : Int) + offs.getD j 0).toNat t else []
def rx_h_table (dflt lo hi : Int) (offs : Array Int) (z : rx_Z) : Option (List rx_Z) := match rx_pi (rx_zst z), rx_off (rx_zpc z) dflt with
  | some (a, t), some dt => match rx_bi z.1 a with
    | some (al, ah) => if (offs.size : Int) = hi - lo + 1 ∧ offs.toList.all (fun o => decide (0 ≤ (rx_zpc z : Int) + o)) = true ∧ lo ≤ hi + 1 then
        some ((List.range offs.size).flatMap (rx_tcase z (rx_nm z.1 a) t lo al ah offs) ++ ((if al < lo then rx_way z (0, rx_nm z.1 a, (0, lo)) dt t else []) ++ (if hi < ah then rx_way z (0, (0, hi), rx_nm z.1 a) dt t else [])))
      else none
    | none => none
  | _, _ => none
/-- a switch over a list -/
def rx_h_look (dflt : Int) (ps : Array (Int × Int)) (z : rx_Z) : Option (List rx_Z) := match rx_pi (rx_zst z), rx_off (rx_zpc z) dflt with
  | some (a, t), some dt => match rx_bi z.1 a with
    | some _ => rx_if ((ps.toList.zip (ps.toList.drop 1)).all (fun (a, next) => a.1 < next.1) && ps.toList.all (fun q => decide (0 ≤ (rx_zpc z : Int) + q.2)))
        (some (ps.toList.flatMap (fun q => rx_way z (2, rx_nm z.1 a, (0, q.1)) ((rx_zpc z : Int) + q.2).toNat t) ++ [rx_jp z.1 z.2.1 z dt t]))
    | none => none
  | _, _ => none
theorem rx_look_mem : ∀ (l : List (Int × Int)) (dflt k : Int), (∃ q ∈ l, q.1 = k ∧ Op.lookupswitch.offset l dflt k = q.2) ∨ Op.lookupswitch.offset l dflt k = dflt
  | [], dflt, k => Or.inr rfl
  | q :: l, dflt, k => by
    obtain ⟨a, o⟩ := q
    rw [Op.lookupswitch.offset_cons]
    by_cases h : a = k
    · rw [if_pos h]
      exact Or.inl ⟨(a, o), List.mem_cons_self, h, rfl⟩
    · rw [if_neg h]
      rcases rx_look_mem l dflt k with ⟨q, h1, h2⟩ | h1
      · exact Or.inl ⟨q, List.mem_cons_of_mem _ h1, h2⟩
      · exact Or.inr h1
/-- longs as ints, shifts of longs, two values gone -/
def rx_h_l2i (z : rx_Z) : Option (List rx_Z) := match rx_pl (rx_zst z) with
  | some (a, t) => match rx_bi z.1 a with
    | some _ => some [rx_nx z 1 (.inr (0, a) :: t)]
    | none => some [rx_nxI (z.1 ++ [(-2147483648, 2147483647)]) z 1 (.inr (0, (z.1.length, 0)) :: t)]
  | none => none
def rx_h_lsh (z : rx_Z) : Option (List rx_Z) := match rx_pi (rx_zst z) with
  | some (_, t) => match rx_pl t with
    | some (_, t) => some [rx_nxI (z.1 ++ [(-9223372036854775808, 9223372036854775807)]) z 1 (.inr (1, (z.1.length, 0)) :: t)]
    | none => none
  | none => none
def rx_h_pop2 (z : rx_Z) : Option (List rx_Z) := match rx_pl (rx_zst z) with
  | some (_, t) => some [rx_nx z 1 t]
  | none => none
section RXY2
variable {p : Program} {l : Launch} {e : Env} {R : Room} {s : State} {m : MethodId} {args : Array Value} {below : List Frame} {meth : Method} {c : Code} {Q : State → Prop}
variable {D : bx_D} {cl : List vw_C} {A : Nat → Prop} {xa : Nat → Nat} {nL : Nat} {H0 H : Heap} {locs : List Loc} {ls : Array Slot} {r : Nat → Int} {ad : Nat → Nat}
variable {cc : ByteArray} {z : rx_Z} {zs : List rx_Z}
theorem rx_h_l2i_ok (hR : rx_R D cl A s xa nL H0 z r ad H locs ls) (hz : rx_h_l2i z = some zs)
    (row : ∀ (x : Int64) (v : Int32) (rest : List Value), x.toInt32 = v → W p l e R s m args below meth c H locs z.2.2.2.1 z.2.2.2.2.1 Q (F0 m (rx_zpc z + 1) ls (.int v :: rest)) → W p l e R s m args below meth c H locs z.2.2.2.1 z.2.2.2.2.1 Q (F0 m (rx_zpc z) ls (.long x :: rest)))
    (K : ∀ z_p ∈ zs, rx_G p l e R s m args below meth c Q D cl A xa nL H0 z.1.length z.2.2.1.length r ad z_p) : W p l e R s m args below meth c H locs z.2.2.2.1 z.2.2.2.2.1 Q (F0 m (rx_zpc z) ls ((rx_zst z).map (rx_iv r ad xa))) := by
  unfold rx_h_l2i at hz
  split at hz
  · rename_i a t ha
    have hst := rx_stsc hR
    rw [rx_pl_ok ha] at hst ⊢
    split at hz
    · cases hz
      refine row (Int64.ofInt (rx_ev r a)) (Int32.ofInt (rx_ev r a)) _ Int64.toInt32_ofInt ?_
      refine rx_at (K _ List.mem_cons_self) rx_same.rf rx_sameA.rf (rx_R_nx hR fun v hv => ?_) rfl rfl rfl rfl
      rcases List.mem_cons.mp hv with h | h
      · subst h
        have h9 : a.1 < z.1.length := hst (.inr (1, a)) List.mem_cons_self
        exact h9
      · exact hst v (List.mem_cons_of_mem _ h)
    · cases hz
      obtain ⟨r_p, q1, q2, q3⟩ := rx_fresh (lo := -2147483648) (hi := 2147483647) (Int32.ofInt (rx_ev r a)) hR.1 (rx_b32 _).1 (rx_b32 _).2
      exact row (Int64.ofInt (rx_ev r a)) (Int32.ofInt (rx_ev r a)) _ Int64.toInt32_ofInt (rx_pushI (kd := 0) (e0 := (z.1.length, 0)) hR (fun v hv => hst v (List.mem_cons_of_mem _ hv)) q1 q2 (by simp) (by simp) (by show Value.int (Int32.ofInt (rx_ev r_p (z.1.length, 0))) = _; rw [q3]) (K _ List.mem_cons_self))
  · cases hz
theorem rx_h_lsh_ok (hR : rx_R D cl A s xa nL H0 z r ad H locs ls) (hz : rx_h_lsh z = some zs)
    (row : ∀ (x : Int64) (y : Int32) (rest : List Value), ∃ v : Int64, W p l e R s m args below meth c H locs z.2.2.2.1 z.2.2.2.2.1 Q (F0 m (rx_zpc z + 1) ls (.long v :: rest)) → W p l e R s m args below meth c H locs z.2.2.2.1 z.2.2.2.2.1 Q (F0 m (rx_zpc z) ls (.int y :: .long x :: rest)))
    (K : ∀ z_p ∈ zs, rx_G p l e R s m args below meth c Q D cl A xa nL H0 z.1.length z.2.2.1.length r ad z_p) : W p l e R s m args below meth c H locs z.2.2.2.1 z.2.2.2.2.1 Q (F0 m (rx_zpc z) ls ((rx_zst z).map (rx_iv r ad xa))) := by
  unfold rx_h_lsh at hz
  split at hz
  · rename_i b t hb
    split at hz
    · rename_i a t2 ha
      cases hz
      have e1 := rx_pi_ok hb
      have e3 := rx_pl_ok ha
      subst e3
      have hst := rx_stsc hR
      rw [e1] at hst ⊢
      obtain ⟨v, hv⟩ := row (Int64.ofInt (rx_ev r a)) (Int32.ofInt (rx_ev r b)) (t2.map (rx_iv r ad xa))
      obtain ⟨r_p, q1, q2, q3⟩ := rx_freshL (lo := -9223372036854775808) (hi := 9223372036854775807) v hR.1 (rx_b64 _).1 (rx_b64 _).2
      exact hv (rx_pushI hR (fun v hv => hst v (List.mem_cons_of_mem _ (List.mem_cons_of_mem _ hv))) q1 q2 (by simp) (by simp) (by show Value.long (Int64.ofInt (rx_ev r_p _)) = _; rw [q3]) (K _ List.mem_cons_self))
    · cases hz
  · cases hz
theorem rx_h_pop2_ok (hR : rx_R D cl A s xa nL H0 z r ad H locs ls) (hz : rx_h_pop2 z = some zs)
    (row : ∀ (v : Value) (rest : List Value), v.category = 2 → W p l e R s m args below meth c H locs z.2.2.2.1 z.2.2.2.2.1 Q (F0 m (rx_zpc z + 1) ls rest) → W p l e R s m args below meth c H locs z.2.2.2.1 z.2.2.2.2.1 Q (F0 m (rx_zpc z) ls (v :: rest)))
    (K : ∀ z_p ∈ zs, rx_G p l e R s m args below meth c Q D cl A xa nL H0 z.1.length z.2.2.1.length r ad z_p) : W p l e R s m args below meth c H locs z.2.2.2.1 z.2.2.2.2.1 Q (F0 m (rx_zpc z) ls ((rx_zst z).map (rx_iv r ad xa))) := by
  unfold rx_h_pop2 at hz
  split at hz
  · rename_i a t ha
    cases hz
    have hst := rx_stsc hR
    rw [rx_pl_ok ha] at hst ⊢
    exact row _ _ rfl (rx_at (K _ List.mem_cons_self) rx_same.rf rx_sameA.rf (rx_R_nx hR fun x hx => hst x (List.mem_cons_of_mem _ hx)) rfl rfl rfl rfl)
  · cases hz
theorem rx_h_table_ok {dflt lo hi : Int} {offs : Array Int} {len : Nat} (hexec : p.tables.exec = Jvm.exec) (hb : c.code = cc) (hdg : decode cc (rx_zpc z) = .ok (.tableswitch dflt lo hi offs, len))
    (hR : rx_R D cl A s xa nL H0 z r ad H locs ls) (hz : rx_h_table dflt lo hi offs z = some zs)
    (K : ∀ z_p ∈ zs, rx_G p l e R s m args below meth c Q D cl A xa nL H0 z.1.length z.2.2.1.length r ad z_p) : W p l e R s m args below meth c H locs z.2.2.2.1 z.2.2.2.2.1 Q (F0 m (rx_zpc z) ls ((rx_zst z).map (rx_iv r ad xa))) := by
  unfold rx_h_table at hz
  split at hz
  · rename_i a t dt ha hdt
    split at hz
    · rename_i al ah hbi
      split at hz
      · rename_i hcond
        obtain ⟨c1, c2, c3⟩ := hcond
        cases hz
        obtain ⟨g1, g2, g3, g4⟩ := rx_bi_ok hR.1 hbi
        obtain ⟨m1, m2⟩ := rx_nm_ok (e := a) hR.1
        have hsts := rx_stsc hR
        rw [rx_pi_ok ha] at hsts ⊢
        have ht : ∀ v ∈ t, rx_sc z.1.length z.2.2.1.length v := fun v hv => hsts v (List.mem_cons_of_mem _ hv)
        by_cases hlo : rx_ev r a < lo
        · refine lv_tableOut hexec hb hdg (Or.inl (by rw [g3]; exact hlo)) (rx_off_ok hdt) ?_
          refine rx_way_ok (f := (0, rx_nm z.1 a, (0, lo))) hR ?_ (Nat.le_of_ble_eq_true rfl) (m2 g4) (rx_pos hR.1) ht fun z_p hz' => K z_p (List.mem_append_right _ (List.mem_append_left _ ?_))
          · show rx_ev r (rx_nm z.1 a) < rx_ev r (0, lo)
            rw [m1, rx_ev0 hR.1]
            exact hlo
          · rw [if_pos (by omega)]
            exact hz'
        · by_cases hhi : hi < rx_ev r a
          · refine lv_tableOut hexec hb hdg (Or.inr (by rw [g3]; exact hhi)) (rx_off_ok hdt) ?_
            refine rx_way_ok (f := (0, (0, hi), rx_nm z.1 a)) hR ?_ (Nat.le_of_ble_eq_true rfl) (rx_pos hR.1) (m2 g4) ht fun z_p hz' => K z_p (List.mem_append_right _ (List.mem_append_right _ ?_))
            · show rx_ev r (0, hi) < rx_ev r (rx_nm z.1 a)
              rw [m1, rx_ev0 hR.1]
              exact hhi
            · rw [if_pos (by omega)]
              exact hz'
          · have hj : (rx_ev r a - lo).toNat < offs.size := by omega
            have hget : offs[(rx_ev r a - lo).toNat]? = some (offs[(rx_ev r a - lo).toNat]) := Array.getElem?_eq_getElem hj
            have hgd : offs.getD (rx_ev r a - lo).toNat 0 = offs[(rx_ev r a - lo).toNat] := by
              rw [Array.getD_eq_getD_getElem?, hget]
              rfl
            have hpos : 0 ≤ (rx_zpc z : Int) + offs[(rx_ev r a - lo).toNat] := by
              have := List.all_eq_true.mp c2 offs[(rx_ev r a - lo).toNat] (by simp)
              exact of_decide_eq_true this
            refine lv_tableIn hexec hb hdg (by rw [g3]; exact hlo) (by rw [g3]; exact hhi) (off := offs[(rx_ev r a - lo).toNat]) (tgt := ((rx_zpc z : Int) + offs[(rx_ev r a - lo).toNat]).toNat) (by rw [g3]; exact hget) (by omega) ?_
            rw [← hgd]
            have hcast : lo + (((rx_ev r a - lo).toNat : Nat) : Int) = rx_ev r a := by omega
            refine rx_way_ok (f := (2, rx_nm z.1 a, (0, lo + (((rx_ev r a - lo).toNat : Nat) : Int)))) hR ?_ (Nat.le_of_ble_eq_true rfl) (m2 g4) (rx_pos hR.1) ht fun z_p hz' => K z_p (List.mem_append_left _ (List.mem_flatMap.mpr ⟨(rx_ev r a - lo).toNat, List.mem_range.mpr hj, ?_⟩))
            · show rx_ev r (rx_nm z.1 a) = rx_ev r (0, _)
              rw [m1, rx_ev0 hR.1]
              exact hcast.symm
            · unfold rx_tcase
              rw [if_pos (by rw [hcast]; exact ⟨g1, g2⟩)]
              exact hz'
      · cases hz
    · cases hz
  · cases hz
theorem rx_h_look_ok {dflt : Int} {ps : Array (Int × Int)} {len : Nat} (hexec : p.tables.exec = Jvm.exec) (hb : c.code = cc) (hdg : decode cc (rx_zpc z) = .ok (.lookupswitch dflt ps, len))
    (hR : rx_R D cl A s xa nL H0 z r ad H locs ls) (hz : rx_h_look dflt ps z = some zs)
    (K : ∀ z_p ∈ zs, rx_G p l e R s m args below meth c Q D cl A xa nL H0 z.1.length z.2.2.1.length r ad z_p) : W p l e R s m args below meth c H locs z.2.2.2.1 z.2.2.2.2.1 Q (F0 m (rx_zpc z) ls ((rx_zst z).map (rx_iv r ad xa))) := by
  unfold rx_h_look at hz
  split at hz
  · rename_i a t dt ha hdt
    split at hz
    · rename_i q hbi
      obtain ⟨al, ah⟩ := q
      obtain ⟨hc, hz2⟩ := rx_if_ok hz
      clear hz
      cases hz2
      rw [Bool.and_eq_true] at hc
      obtain ⟨c1, c2⟩ := hc
      obtain ⟨g1, g2, g3, g4⟩ := rx_bi_ok hR.1 hbi
      obtain ⟨m1, m2⟩ := rx_nm_ok (e := a) hR.1
      have hsts := rx_stsc hR
      rw [rx_pi_ok ha] at hsts ⊢
      have ht : ∀ v ∈ t, rx_sc z.1.length z.2.2.1.length v := fun v hv => hsts v (List.mem_cons_of_mem _ hv)
      rcases rx_look_mem ps.toList dflt (Int32.ofInt (rx_ev r a)).toInt with ⟨q, h1, h2, h3⟩ | h1
      · have hpos := List.all_eq_true.mp c2 q h1
        have hpos := of_decide_eq_true hpos
        refine lv_lookup hexec hb hdg c1 h3 (tgt := ((rx_zpc z : Int) + q.2).toNat) (by omega) ?_
        refine rx_way_ok (f := (2, rx_nm z.1 a, (0, q.1))) hR ?_ (Nat.le_of_ble_eq_true rfl) (m2 g4) (rx_pos hR.1) ht fun z_p hz' => K z_p (List.mem_append_left _ (List.mem_flatMap.mpr ⟨q, h1, hz'⟩))
        show rx_ev r (rx_nm z.1 a) = rx_ev r (0, q.1)
        rw [m1, rx_ev0 hR.1, h2, g3]
      · refine lv_lookup hexec hb hdg c1 h1 (rx_off_ok hdt) ?_
        exact rx_at (K _ (List.mem_append_right _ List.mem_cons_self)) rx_same.rf rx_sameA.rf (rx_R_jp hR rfl hR.1 hR.2.1 hR.2.2.1 ht) rfl rfl rfl rfl
    · cases hz
  · cases hz
end RXY2
/-- views, how many places, the domains, what may be written -/
abbrev bx_B : Type := bx_V × Nat × (Nat → Int → Bool) × (Nat → Nat → Bool)
def rx_step (B : bx_B) (T : rx_Tb) (M : rx_Mt) (i : Instr) (len : Nat) (nx : Except DecodeError (Instr × Nat)) (z : rx_Z) : Option (List rx_Z) := match i with
  | .iconst n => rx_if (len == 1) (rx_h_push (rx_n n) 1 z)
  | .bipush n => rx_if (len == 2) (rx_h_push (rx_n (Int8.ofInt n).toInt32.toInt) 2 z)
  | .sipush n => rx_if (len == 3) (rx_h_push (rx_n (Int16.ofInt n).toInt32.toInt) 3 z)
  | .lconst n => rx_if (len == 1) (rx_h_push (.inr (1, (0, ((n : Nat) : Int)))) 1 z)
  | .aconst_null => rx_if (len == 1) (rx_h_push (.inl none) 1 z)
  | .ldc idx => rx_if (len == 2) (rx_h_const T.2.2.2.1 M.1 idx 0 2 z)
  | .ldc_w idx => rx_if (len == 3) (rx_h_const T.2.2.2.1 M.1 idx 0 3 z)
  | .ldc2_w idx => rx_if (len == 3) (rx_h_const T.2.2.2.1 M.1 idx 1 3 z)
  | .iload_n k => rx_if (len == 1) (rx_h_load 0 k 1 z)
  | .iload k => rx_if (len == 2) (rx_h_load 0 k 2 z)
  | .lload_n k => rx_if (len == 1) (rx_h_load 1 k 1 z)
  | .lload k => rx_if (len == 2) (rx_h_load 1 k 2 z)
  | .aload_n k => rx_if (len == 1) (rx_h_loadA k 1 z)
  | .aload k => rx_if (len == 2) (rx_h_loadA k 2 z)
  | .istore_n k => rx_if (len == 1) (rx_h_istore M.2.2.1 k 1 z)
  | .istore k => rx_if (len == 2) (rx_h_istore M.2.2.1 k 2 z)
  | .lstore_n k => rx_if (len == 1) (rx_h_lstore M.2.2.1 k 1 z)
  | .lstore k => rx_if (len == 2) (rx_h_lstore M.2.2.1 k 2 z)
  | .astore_n k => rx_if (len == 1) (rx_h_astore M.2.2.1 k 1 z)
  | .astore k => rx_if (len == 2) (rx_h_astore M.2.2.1 k 2 z)
  | .iinc k n => rx_if (len == 3) (rx_h_iinc M.2.2.1 k n z)
  | .iadd => rx_if (len == 1) (rx_h_bin 0 z)
  | .isub => rx_if (len == 1) (rx_h_sub z)
  | .imul => rx_if (len == 1) (rx_h_bin 2 z)
  | .idiv => rx_if (len == 1) (rx_h_div 3 z)
  | .irem => rx_if (len == 1) (rx_h_div 4 z)
  | .iand => rx_if (len == 1) (rx_h_and z)
  | .ior => rx_if (len == 1) (rx_h_bin 6 z)
  | .ixor => rx_if (len == 1) (rx_h_bin 7 z)
  | .ishl => rx_if (len == 1) (rx_h_bin 8 z)
  | .ishr => rx_if (len == 1) (rx_h_bin 9 z)
  | .iushr => rx_if (len == 1) (rx_h_bin 10 z)
  | .ineg => rx_if (len == 1) (rx_h_ineg z)
  | .ladd => rx_if (len == 1) (rx_h_binL 0 z)
  | .lsub => rx_if (len == 1) (rx_h_binL 1 z)
  | .lmul => rx_if (len == 1) (rx_h_binL 2 z)
  | .ldiv => rx_if (len == 1) (rx_h_divL 3 z)
  | .lrem => rx_if (len == 1) (rx_h_divL 4 z)
  | .land => rx_if (len == 1) (rx_h_binL 5 z)
  | .lor => rx_if (len == 1) (rx_h_binL 6 z)
  | .lxor => rx_if (len == 1) (rx_h_binL 7 z)
  | .l2i => rx_if (len == 1) (rx_h_l2i z)
  | .lshl => rx_if (len == 1) (rx_h_lsh z)
  | .lshr => rx_if (len == 1) (rx_h_lsh z)
  | .pop2 => rx_if (len == 1) (rx_h_pop2 z)
  | .i2l => rx_if (len == 1) (rx_h_i2l z)
  | .lcmp => rx_if (len == 1) (rx_h_lcmp nx z)
  | .ifCond cnd off => rx_if (len == 3) (rx_h_if cnd off z)
  | .if_icmp cnd off => rx_if (len == 3) (rx_h_icmp cnd off z)
  | .goto off => rx_if (len == 3) (rx_h_goto off z)
  | .tableswitch dflt lo hi offs => rx_h_table dflt lo hi offs z
  | .lookupswitch dflt ps => rx_h_look dflt ps z
  | .dup => rx_if (len == 1) (rx_h_dup z)
  | .dup2 => rx_if (len == 1) (rx_h_dup2 z)
  | .pop => rx_if (len == 1) (rx_h_pop z)
  | .getfield idx => rx_if (len == 3) (bx_h_get B.1 B.2.1 B.2.2.2 (T.1 M.1) idx z)
  | .putfield idx => rx_if (len == 3) (bx_h_put B.1 B.2.2.1 B.2.2.2 (T.1 M.1) idx z)
  | .arraylength => rx_if (len == 1) (bx_h_alen B.1 z)
  | .iaload => rx_if (len == 1) (bx_h_ald B.1 B.2.1 B.2.2.2 (rx_isTc 0) z)
  | .baload => rx_if (len == 1) (bx_h_ald B.1 B.2.1 B.2.2.2 (rx_isTc 1) z)
  | .laload => rx_if (len == 1) (bx_h_ald B.1 B.2.1 B.2.2.2 (rx_isTc 2) z)
  | .aaload => rx_if (len == 1) (bx_h_ald B.1 B.2.1 B.2.2.2 rx_isRef z)
  | .iastore => rx_if (len == 1) (bx_h_ast B.1 B.2.2.1 B.2.2.2 (rx_isTc 0) z)
  | .bastore => rx_if (len == 1) (bx_h_ast B.1 B.2.2.1 B.2.2.2 (rx_isTc 1) z)
  | .lastore => rx_if (len == 1) (bx_h_ast B.1 B.2.2.1 B.2.2.2 (rx_isTc 2) z)
  | _ => none
/-- a frame of a method -/
def rx_Fr (G NW : List Jvm.Cond) (AO : List String) (PX : State → Prop) (p : Program) (s : State) (m : MethodId) (args : Array Value) (meth : Method) (c : Code) (M : rx_Mt) : Prop :=
  p.tables.exec = Jvm.exec ∧ c.code = M.2.1 ∧ meth.sig.returnType = M.2.2.2.1 ∧ c.maxLocals = M.2.2.1 ∧ s.vm.findClass M.2.2.2.2.1.cls = some m.cls ∧ meth.locks = false ∧ (∀ w ∈ G, w.before args s = true) ∧ (∀ w ∈ NW, va_Nw w s) ∧ (∀ C ∈ AO, va_AO C s) ∧ PX s ∧ (M.2.2.2.2.2.1 = true → meth.name = "<init>")
def rx_frOK (G NW : List Jvm.Cond) (cl : List vw_C) (nm : Nat → String) (T : rx_Tb) : Prop := ∀ (o idx : Nat) (q : rx_Q), T.1 o idx = some q →
  ∃ (C : String) (F : u_T) (N : Nat) (ty : Nat → FieldType), cl[q.1]? = some (C, F, N) ∧ q.2.1 < N ∧ (∀ w ∈ u_ws C F N, w ∈ G) ∧ (∀ k, k < N → parseFieldDescriptor (F k).2.2.1 = some (ty k)) ∧ (∀ a, a < N → ∀ b, b < N → a ≠ b → (F a).2.1 ≠ (F b).2.1) ∧
    rx_tyc (ty q.2.1) = q.2.2.1 ∧ (F q.2.1).2.2.2 = q.2.2.2.1 ∧ (q.2.2.2.1 = true → q.2.2.2.2 = false → (F q.2.1).1 = nm o) ∧
    ((q.2.2.2.2 = false ∧ Jvm.Cond.fieldLink (nm o) idx (F q.2.1).1 (F q.2.1).2.1 (F q.2.1).2.2.1 ∈ G) ∨ (q.2.2.2.2 = true ∧ ∃ host : String, Jvm.Cond.fieldLinkNest (nm o) idx (F q.2.1).1 (F q.2.1).2.1 (F q.2.1).2.2.1 host ∈ NW))
def rx_kcOK (G : List Jvm.Cond) (nm : Nat → String) (T : rx_Tb) : Prop := ∀ (o idx k : Nat) (n : Int), T.2.2.2.1 o idx = some (.inr (k, (0, n))) →
  (k = 0 → Jvm.Cond.constant (nm o) idx (Int32.ofInt n) ∈ G) ∧ (k = 1 → Jvm.Cond.constantLong (nm o) idx (Int64.ofInt n) ∈ G)
section RXT
variable {p : Program} {l : Launch} {e : Env} {R : Room} {s : State} {m : MethodId} {args : Array Value} {below : List Frame} {meth : Method} {c : Code} {Q : State → Prop}
variable {D : bx_D} {cl : List vw_C} {A : Nat → Prop} {xa : Nat → Nat} {H0 H : Heap} {locs : List Loc} {ls : Array Slot} {r : Nat → Int} {ad : Nat → Nat}
variable {z : rx_Z} {zs : List rx_Z} {G NW : List Jvm.Cond} {AO : List String} {PX : State → Prop} {T : rx_Tb} {B : bx_B} {M : rx_Mt} {nm : Nat → String}
theorem rx_Fok_of (hF : rx_Fr G NW AO PX p s m args meth c M) (hn : nm M.1 = M.2.2.2.2.1.cls) (hT : rx_frOK G NW cl nm T) {idx : Nat} {q : rx_Q} (hq : T.1 M.1 idx = some q) : rx_Fok s args G M.2.2.2.2.1.cls cl idx q := by
  obtain ⟨C, F, N, ty, h1, h2, h3, h4, h5, h6, h7, h8, h9⟩ := hT M.1 idx q hq
  rw [hn] at h8 h9
  refine ⟨C, F, N, ty, h1, h2, h3, h4, h5, h6, h7, h8, ?_⟩
  rcases h9 with ⟨k1, k2⟩ | ⟨k1, host, k2⟩
  · exact Or.inl ⟨k1, hF.2.2.2.2.2.2.1 _ k2⟩
  · exact Or.inr ⟨k1, host, va_Nw.use rfl (hF.2.2.2.2.2.2.2.1 _ k2)⟩
set_option maxHeartbeats 4000000 in
theorem rx_step_ok {i : Instr} {len : Nat} (hF : rx_Fr G NW AO PX p s m args meth c M) (hn : nm M.1 = M.2.2.2.2.1.cls) (t1 : rx_frOK G NW cl nm T) (t4 : rx_kcOK G nm T) (hV : bx_VOK D.2.1 B.1) (hnp : B.2.1 = D.2.1.2.1) (hdm : B.2.2.1 = D.2.1.2.2.2) (hmd : B.2.2.2 = D.2.2.2)
    (hdg : decode M.2.1 (rx_zpc z) = .ok (i, len))
    (hR : rx_R D cl A s xa M.2.2.1 H0 z r ad H locs ls) (hz : rx_step B T M i len (decode M.2.1 (rx_zpc z + 1)) z = some zs)
    (K : ∀ z_p ∈ zs, rx_G p l e R s m args below meth c Q D cl A xa M.2.2.1 H0 z.1.length z.2.2.1.length r ad z_p) : W p l e R s m args below meth c H locs z.2.2.2.1 z.2.2.2.2.1 Q (F0 m (rx_zpc z) ls ((rx_zst z).map (rx_iv r ad xa))) := by
  obtain ⟨hx, hb, hr, hml, hown, hlk, hts, hnw, hao, hpx, hini⟩ := id hF
  cases i with
  | iconst n =>
    obtain ⟨hl, hz⟩ := rx_ifn hz
    subst hl
    exact rx_h_push_ok hR hz (rx_n_iv hR.1 n) (rx_sc0 hR 0 n) (fun k => lv_iconst hx hb hdg rfl k) K
  | bipush n =>
    obtain ⟨hl, hz⟩ := rx_ifn hz
    subst hl
    exact rx_h_push_ok hR hz (by rw [rx_n_iv hR.1, Int32.ofInt_toInt]) (rx_sc0 hR 0 _) (fun k => lv_bipush hx hb hdg rfl k) K
  | sipush n =>
    obtain ⟨hl, hz⟩ := rx_ifn hz
    subst hl
    exact rx_h_push_ok hR hz (by rw [rx_n_iv hR.1, Int32.ofInt_toInt]) (rx_sc0 hR 0 _) (fun k => lv_sipush hx hb hdg rfl k) K
  | lconst n =>
    obtain ⟨hl, hz⟩ := rx_ifn hz
    subst hl
    exact rx_h_push_ok hR hz (rx_nL_iv hR.1 _) (rx_sc0 hR 1 _) (fun k => lv_lconst hx hb hdg (by rw [← Int64.ofInt_eq_ofNat]) k) K
  | aconst_null =>
    obtain ⟨hl, hz⟩ := rx_ifn hz
    subst hl
    exact rx_h_push_ok hR hz rfl trivial (fun k => lv_null hx hb hdg k) K
  | ldc idx =>
    obtain ⟨hl, hz⟩ := rx_ifn hz
    subst hl
    have hz : rx_h_const T.2.2.2.1 M.1 idx 0 2 z = some zs := hz
    unfold rx_h_const at hz
    split at hz
    · rename_i k n hk
      obtain ⟨hk0, hz⟩ := rx_ifn hz
      subst hk0
      have hw := (t4 M.1 idx _ n hk).1 rfl
      rw [hn] at hw
      exact rx_h_push_ok hR hz (rx_n_iv hR.1 n) (rx_sc0 hR 0 n) (fun k => lv_ldc hx hb hown (hts _ hw) hdg k) K
    · cases hz
  | ldc_w idx =>
    obtain ⟨hl, hz⟩ := rx_ifn hz
    subst hl
    have hz : rx_h_const T.2.2.2.1 M.1 idx 0 3 z = some zs := hz
    unfold rx_h_const at hz
    split at hz
    · rename_i k n hk
      obtain ⟨hk0, hz⟩ := rx_ifn hz
      subst hk0
      have hw := (t4 M.1 idx _ n hk).1 rfl
      rw [hn] at hw
      exact rx_h_push_ok hR hz (rx_n_iv hR.1 n) (rx_sc0 hR 0 n) (fun k => lv_ldcw hx hb hown (hts _ hw) hdg k) K
    · cases hz
  | ldc2_w idx =>
    obtain ⟨hl, hz⟩ := rx_ifn hz
    subst hl
    have hz : rx_h_const T.2.2.2.1 M.1 idx 1 3 z = some zs := hz
    unfold rx_h_const at hz
    split at hz
    · rename_i k n hk
      obtain ⟨hk0, hz⟩ := rx_ifn hz
      subst hk0
      have hw := (t4 M.1 idx _ n hk).2 rfl
      rw [hn] at hw
      exact rx_h_push_ok hR hz (rx_nL_iv hR.1 n) (rx_sc0 hR 1 n) (fun k => lv_ldc2 hx hb hown (hts _ hw) hdg k) K
    · cases hz
  | iload_n k =>
    obtain ⟨hl, hz⟩ := rx_ifn hz
    subst hl
    exact rx_h_load_ok hR hz (fun e0 h k => lv_iload_n hx hb hdg rfl h k) K
  | iload k =>
    obtain ⟨hl, hz⟩ := rx_ifn hz
    subst hl
    exact rx_h_load_ok hR hz (fun e0 h k => lv_iload hx hb hdg h k) K
  | lload_n k =>
    obtain ⟨hl, hz⟩ := rx_ifn hz
    subst hl
    exact rx_h_load_ok hR hz (fun e0 h k => lv_lload_n hx hb hdg rfl h k) K
  | lload k =>
    obtain ⟨hl, hz⟩ := rx_ifn hz
    subst hl
    exact rx_h_load_ok hR hz (fun e0 h k => lv_lload hx hb hdg h k) K
  | aload_n k =>
    obtain ⟨hl, hz⟩ := rx_ifn hz
    subst hl
    exact rx_h_loadA_ok hR hz (fun h k => lv_aload_nN hx hb hdg rfl h k) (fun a h k => lv_aload_n hx hb hdg rfl h k) K
  | aload k =>
    obtain ⟨hl, hz⟩ := rx_ifn hz
    subst hl
    exact rx_h_loadA_ok hR hz (fun h k => lv_aloadN hx hb hdg h k) (fun a h k => lv_aload hx hb hdg h k) K
  | istore_n k =>
    obtain ⟨hl, hz⟩ := rx_ifn hz
    subst hl
    exact rx_h_istore_ok hR hz (fun x rest h k => lv_istore_n hx hb hdg rfl (rx_lvh hR) h rfl k) K
  | istore k =>
    obtain ⟨hl, hz⟩ := rx_ifn hz
    subst hl
    exact rx_h_istore_ok hR hz (fun x rest h k => lv_istore hx hb hdg (rx_lvh hR) h rfl k) K
  | lstore_n k =>
    obtain ⟨hl, hz⟩ := rx_ifn hz
    subst hl
    exact rx_h_lstore_ok hR hz (fun x rest h k => lv_lstore_n hx hb hdg rfl (rx_lvh hR) h rfl k) K
  | lstore k =>
    obtain ⟨hl, hz⟩ := rx_ifn hz
    subst hl
    exact rx_h_lstore_ok hR hz (fun x rest h k => lv_lstore hx hb hdg (rx_lvh hR) h rfl k) K
  | astore_n k =>
    obtain ⟨hl, hz⟩ := rx_ifn hz
    subst hl
    refine rx_h_astore_ok hR hz (fun o rest h k => ?_) K
    cases o with
    | none => exact lv_astore_nN hx hb hdg rfl (rx_lvh hR) h rfl k
    | some a => exact lv_astore_n hx hb hdg rfl (rx_lvh hR) h rfl k
  | astore k =>
    obtain ⟨hl, hz⟩ := rx_ifn hz
    subst hl
    refine rx_h_astore_ok hR hz (fun o rest h k => ?_) K
    cases o with
    | none => exact lv_astoreN hx hb hdg (rx_lvh hR) h rfl k
    | some a => exact lv_astore hx hb hdg (rx_lvh hR) h rfl k
  | iinc k n =>
    obtain ⟨hl, hz⟩ := rx_ifn hz
    subst hl
    exact rx_h_iinc_ok hR hz (fun x v j h1 h2 h3 k => lv_iinc hx hb hdg (rx_lvh hR) h2 h3 h1 rfl k) K
  | iadd =>
    obtain ⟨hl, hz⟩ := rx_ifn hz
    subst hl
    exact rx_h_bin_ok hR hz (fun a b t _ k => lv_iadd hx hb hdg k) K
  | isub =>
    obtain ⟨hl, hz⟩ := rx_ifn hz
    subst hl
    exact rx_h_sub_ok hR hz (fun a b t _ k => lv_isub hx hb hdg k) K
  | imul =>
    obtain ⟨hl, hz⟩ := rx_ifn hz
    subst hl
    exact rx_h_bin_ok hR hz (fun a b t _ k => lv_imul hx hb hdg k) K
  | idiv =>
    obtain ⟨hl, hz⟩ := rx_ifn hz
    subst hl
    exact rx_h_div_ok hR hz (fun x y t h k => lv_idiv hx hb hdg h k) K
  | irem =>
    obtain ⟨hl, hz⟩ := rx_ifn hz
    subst hl
    exact rx_h_div_ok hR hz (fun x y t h k => lv_irem hx hb hdg h k) K
  | iand =>
    obtain ⟨hl, hz⟩ := rx_ifn hz
    subst hl
    exact rx_h_and_ok hR hz (fun a b t _ k => lv_iand hx hb hdg k) K
  | ior =>
    obtain ⟨hl, hz⟩ := rx_ifn hz
    subst hl
    exact rx_h_bin_ok hR hz (fun a b t _ k => lv_ior hx hb hdg k) K
  | ixor =>
    obtain ⟨hl, hz⟩ := rx_ifn hz
    subst hl
    exact rx_h_bin_ok hR hz (fun a b t _ k => lv_ixor hx hb hdg k) K
  | ishl =>
    obtain ⟨hl, hz⟩ := rx_ifn hz
    subst hl
    exact rx_h_bin_ok hR hz (fun a b t _ k => lv_ishl hx hb hdg k) K
  | ishr =>
    obtain ⟨hl, hz⟩ := rx_ifn hz
    subst hl
    exact rx_h_bin_ok hR hz (fun a b t _ k => lv_ishr hx hb hdg k) K
  | iushr =>
    obtain ⟨hl, hz⟩ := rx_ifn hz
    subst hl
    exact rx_h_bin_ok hR hz (fun a b t _ k => lv_iushr hx hb hdg rfl k) K
  | ineg =>
    obtain ⟨hl, hz⟩ := rx_ifn hz
    subst hl
    exact rx_h_ineg_ok hR hz (fun x t k => lv_ineg hx hb hdg k) K
  | ladd =>
    obtain ⟨hl, hz⟩ := rx_ifn hz
    subst hl
    exact rx_h_binL_ok hR hz (fun a b t _ k => lv_ladd hx hb hdg k) K
  | lsub =>
    obtain ⟨hl, hz⟩ := rx_ifn hz
    subst hl
    exact rx_h_binL_ok hR hz (fun a b t _ k => lv_lsub hx hb hdg k) K
  | lmul =>
    obtain ⟨hl, hz⟩ := rx_ifn hz
    subst hl
    exact rx_h_binL_ok hR hz (fun a b t _ k => lv_lmul hx hb hdg k) K
  | ldiv =>
    obtain ⟨hl, hz⟩ := rx_ifn hz
    subst hl
    exact rx_h_divL_ok hR hz (fun x y t h k => lv_ldiv hx hb hdg h k) K
  | lrem =>
    obtain ⟨hl, hz⟩ := rx_ifn hz
    subst hl
    exact rx_h_divL_ok hR hz (fun x y t h k => lv_lrem hx hb hdg h k) K
  | i2l =>
    obtain ⟨hl, hz⟩ := rx_ifn hz
    subst hl
    exact rx_h_i2l_ok hR hz (fun x t k => lv_i2l hx hb hdg rfl k) K
  | lcmp =>
    obtain ⟨hl, hz⟩ := rx_ifn hz
    subst hl
    exact rx_h_lcmp_ok hx hb hdg hR hz K
  | ifCond cnd off =>
    obtain ⟨hl, hz⟩ := rx_ifn hz
    subst hl
    exact rx_h_if_ok hx hb hdg hR hz K
  | if_icmp cnd off =>
    obtain ⟨hl, hz⟩ := rx_ifn hz
    subst hl
    exact rx_h_icmp_ok hx hb hdg hR hz K
  | goto off =>
    obtain ⟨hl, hz⟩ := rx_ifn hz
    subst hl
    exact rx_h_goto_ok hx hb hdg hR hz K
  | tableswitch dflt lo hi offs =>
    have hz : rx_h_table dflt lo hi offs z = some zs := hz
    exact rx_h_table_ok hx hb hdg hR hz K
  | lookupswitch dflt ps =>
    have hz : rx_h_look dflt ps z = some zs := hz
    exact rx_h_look_ok hx hb hdg hR hz K
  | dup =>
    obtain ⟨hl, hz⟩ := rx_ifn hz
    subst hl
    exact rx_h_dup_ok hR hz (fun v t h k => lv_dup hx hb hdg h k) K
  | dup2 =>
    obtain ⟨hl, hz⟩ := rx_ifn hz
    subst hl
    exact rx_h_dup2_ok hR hz (fun v t h k => lv_dup2_2 hx hb hdg h k) (fun v w t h1 h2 k => lv_dup2_11 hx hb hdg h1 h2 k) K
  | pop =>
    obtain ⟨hl, hz⟩ := rx_ifn hz
    subst hl
    exact rx_h_pop_ok hR hz (fun v t h k => lv_pop hx hb hdg h k) K
  | land =>
    obtain ⟨hl, hz⟩ := rx_ifn hz
    subst hl
    exact rx_h_binL_ok hR hz (fun a b t _ k => lv_land hx hb hdg k) K
  | lor =>
    obtain ⟨hl, hz⟩ := rx_ifn hz
    subst hl
    exact rx_h_binL_ok hR hz (fun a b t _ k => lv_lor hx hb hdg k) K
  | lxor =>
    obtain ⟨hl, hz⟩ := rx_ifn hz
    subst hl
    exact rx_h_binL_ok hR hz (fun a b t _ k => lv_lxor hx hb hdg k) K
  | l2i =>
    obtain ⟨hl, hz⟩ := rx_ifn hz
    subst hl
    exact rx_h_l2i_ok hR hz (fun x v t h k => lv_l2i hx hb hdg h k) K
  | lshl =>
    obtain ⟨hl, hz⟩ := rx_ifn hz
    subst hl
    exact rx_h_lsh_ok hR hz (fun x y t => ⟨_, fun k => lv_lshl hx hb hdg rfl k⟩) K
  | lshr =>
    obtain ⟨hl, hz⟩ := rx_ifn hz
    subst hl
    exact rx_h_lsh_ok hR hz (fun x y t => ⟨_, fun k => lv_lshr hx hb hdg rfl k⟩) K
  | pop2 =>
    obtain ⟨hl, hz⟩ := rx_ifn hz
    subst hl
    exact rx_h_pop2_ok hR hz (fun v t h k => lv_pop2_2 hx hb hdg h k) K
  | getfield idx =>
    obtain ⟨hl, hz⟩ := rx_ifn hz
    subst hl
    exact bx_h_get_ok hx hb hts hown (fun q hq => rx_Fok_of hF hn t1 hq) hV hnp hmd hdg hR hz K
  | putfield idx =>
    obtain ⟨hl, hz⟩ := rx_ifn hz
    subst hl
    exact bx_h_put_ok hx hb hts hown (fun q hq => rx_Fok_of hF hn t1 hq) hV hdm hmd hdg hR hz K
  | arraylength =>
    obtain ⟨hl, hz⟩ := rx_ifn hz
    subst hl
    exact bx_alen_ok hx hb hV hdg hR hz K
  | iaload =>
    obtain ⟨hl, hz⟩ := rx_ifn hz
    subst hl
    exact bx_iald hx hb hV hnp hmd hdg hR hz K
  | baload =>
    obtain ⟨hl, hz⟩ := rx_ifn hz
    subst hl
    exact bx_zald hx hb hV hnp hmd hdg hR hz K
  | laload =>
    obtain ⟨hl, hz⟩ := rx_ifn hz
    subst hl
    exact bx_lald hx hb hV hnp hmd hdg hR hz K
  | aaload =>
    obtain ⟨hl, hz⟩ := rx_ifn hz
    subst hl
    exact bx_aald hx hb hV hnp hmd hdg hR hz K
  | iastore =>
    obtain ⟨hl, hz⟩ := rx_ifn hz
    subst hl
    exact bx_iast hx hb hV hdm hmd hdg hR hz K
  | bastore =>
    obtain ⟨hl, hz⟩ := rx_ifn hz
    subst hl
    exact bx_zast hx hb hV hdm hmd hdg hR hz K
  | lastore =>
    obtain ⟨hl, hz⟩ := rx_ifn hz
    subst hl
    exact bx_last hx hb hV hdm hmd hdg hR hz K
  | _ => exact absurd (show (none : Option (List rx_Z)) = some zs from hz) (fun q => by cases q)
end RXT
