/-! A REFLECTED MACHINE, part 10: one instruction -/
/-- a method: number of its class, bytes, locals, what it answers, name, is it a constructor, cells and slots that it may make -/
abbrev ry_Mt : Type := Nat × ByteArray × Nat × Option FieldType × MethodName × Bool × Nat × Nat
/-- a call: how (0 virtual, 1 static, 2 constructor, 3 4 5 the same of a nest mate), parameters, number of the class, of the method -/
abbrev ry_J : Type := Nat × Nat × Nat × Nat
/-- tables: fields, classes made, classes of rows, constants, calls, methods -/
abbrev ry_Tb : Type := (Nat → Nat → Option ry_Q) × (Nat → Nat → Option (Nat × List Nat)) × (Nat → Nat → Option Nat) × (Nat → Nat → Option ry_V) × (Nat → Nat → Option ry_J) × (Nat → Option ry_Mt)
def ry_if {α : Type} (b : Bool) (x : Option α) : Option α := match b with
  | true => x
  | false => none
theorem ry_if_ok {α : Type} {b : Bool} {x : Option α} {y : α} (h : ry_if b x = some y) : b = true ∧ x = some y := by
  cases b with
  | true => exact ⟨rfl, h⟩
  | false => exact absurd (show (none : Option α) = some y from h) (fun q => by cases q)
theorem ry_ifn {α : Type} {a b : Nat} {x : Option α} {y : α} (h : ry_if (a == b) x = some y) : a = b ∧ x = some y := ⟨beq_iff_eq.mp (ry_if_ok h).1, (ry_if_ok h).2⟩
def ry_or {α : Type} (x y : Option α) : Option α := match x with
  | some a => some a
  | none => y
theorem ry_or_ok {α : Type} {x y : Option α} {a : α} (h : ry_or x y = some a) : x = some a ∨ y = some a := by
  cases x with
  | some b => exact Or.inl h
  | none => exact Or.inr h
def ry_h_const (kc : Nat → Nat → Option ry_V) (o idx kd d : Nat) (z : ry_Z) : Option (List ry_Z) := match kc o idx with
  | some (.inr (k, (0, n))) => ry_if (k == kd) (ry_h_push (.inr (k, (0, n))) d z)
  | _ => none
/-- the top is a cell: no row of the script -/
def ry_topc (z : ry_Z) : Bool := match ry_pv (ry_zst z) with
  | some (.inl _, _) => true
  | _ => false
def ry_step (T : ry_Tb) (lw : Bool) (M : ry_Mt) (i : Instr) (len : Nat) (nx : Except DecodeError (Instr × Nat)) (z : ry_Z) : Option (List ry_Z) := match i with
  | .iconst n => ry_if (len == 1) (ry_h_push (ry_n n) 1 z)
  | .bipush n => ry_if (len == 2) (ry_h_push (ry_n (Int8.ofInt n).toInt32.toInt) 2 z)
  | .sipush n => ry_if (len == 3) (ry_h_push (ry_n (Int16.ofInt n).toInt32.toInt) 3 z)
  | .lconst n => ry_if (len == 1) (ry_h_push (.inr (1, (0, ((n : Nat) : Int)))) 1 z)
  | .aconst_null => ry_if (len == 1) (ry_h_push (.inl none) 1 z)
  | .ldc idx => ry_if (len == 2) (ry_h_const T.2.2.2.1 M.1 idx 0 2 z)
  | .ldc_w idx => ry_if (len == 3) (ry_h_const T.2.2.2.1 M.1 idx 0 3 z)
  | .ldc2_w idx => ry_if (len == 3) (ry_h_const T.2.2.2.1 M.1 idx 1 3 z)
  | .iload_n k => ry_if (len == 1) (ry_h_load 0 k 1 z)
  | .iload k => ry_if (len == 2) (ry_h_load 0 k 2 z)
  | .lload_n k => ry_if (len == 1) (ry_h_load 1 k 1 z)
  | .lload k => ry_if (len == 2) (ry_h_load 1 k 2 z)
  | .aload_n k => ry_if (len == 1) (ry_h_loadA k 1 z)
  | .aload k => ry_if (len == 2) (ry_h_loadA k 2 z)
  | .istore_n k => ry_if (len == 1) (ry_h_istore M.2.2.1 k 1 z)
  | .istore k => ry_if (len == 2) (ry_h_istore M.2.2.1 k 2 z)
  | .lstore_n k => ry_if (len == 1) (ry_h_lstore M.2.2.1 k 1 z)
  | .lstore k => ry_if (len == 2) (ry_h_lstore M.2.2.1 k 2 z)
  | .astore_n k => ry_if (len == 1) (ry_h_astore M.2.2.1 k 1 z)
  | .astore k => ry_if (len == 2) (ry_h_astore M.2.2.1 k 2 z)
  | .iinc k n => ry_if (len == 3) (ry_h_iinc M.2.2.1 k n z)
  | .iadd => ry_if (len == 1) (ry_h_bin 0 z)
  | .isub => ry_if (len == 1) (ry_h_bin 1 z)
  | .imul => ry_if (len == 1) (ry_h_bin 2 z)
  | .idiv => ry_if (len == 1) (ry_h_div 3 z)
  | .irem => ry_if (len == 1) (ry_h_div 4 z)
  | .iand => ry_if (len == 1) (ry_h_bin 5 z)
  | .ior => ry_if (len == 1) (ry_h_bin 6 z)
  | .ixor => ry_if (len == 1) (ry_h_bin 7 z)
  | .ishl => ry_if (len == 1) (ry_h_bin 8 z)
  | .ishr => ry_if (len == 1) (ry_h_bin 9 z)
  | .iushr => ry_if (len == 1) (ry_h_bin 10 z)
  | .ineg => ry_if (len == 1) (ry_h_ineg z)
  | .ladd => ry_if (len == 1) (ry_h_binL 0 z)
  | .lsub => ry_if (len == 1) (ry_h_binL 1 z)
  | .lmul => ry_if (len == 1) (ry_h_binL 2 z)
  | .ldiv => ry_if (len == 1) (ry_h_divL 3 z)
  | .lrem => ry_if (len == 1) (ry_h_divL 4 z)
  | .i2l => ry_if (len == 1) (ry_h_i2l z)
  | .lcmp => ry_if (len == 1) (ry_h_lcmp nx z)
  | .ifCond cnd off => ry_if (len == 3) (ry_h_if cnd off z)
  | .if_icmp cnd off => ry_if (len == 3) (ry_h_icmp cnd off z)
  | .goto off => ry_if (len == 3) (ry_h_goto off z)
  | .tableswitch dflt lo hi offs => ry_h_table dflt lo hi offs z
  | .dup => ry_if (len == 1) (ry_h_dup z)
  | .dup2 => ry_if (len == 1) (ry_h_dup2 z)
  | .pop => ry_if (len == 1) (ry_h_pop z)
  | .getfield idx => ry_if (len == 3) (ry_h_get (T.1 M.1) idx z)
  | .putfield idx => ry_if (len == 3) (ry_h_put (T.1 M.1) M.2.2.2.2.2.1 idx z)
  | .arraylength => ry_if (len == 1 && (lw || ry_topc z)) (ry_h_alen z)
  | .iaload => ry_if (len == 1) (ry_or (ry_h_ald (ry_isTc 0) z) (ry_if lw (ry_h_sld z)))
  | .baload => ry_if (len == 1) (ry_h_ald (ry_isTc 1) z)
  | .laload => ry_if (len == 1) (ry_h_ald (ry_isTc 2) z)
  | .aaload => ry_if (len == 1) (ry_h_ald ry_isRef z)
  | .iastore => ry_if (len == 1) (ry_h_ast (ry_isTc 0) (fun I _ _ v => ry_fit I 0 v) z)
  | .bastore => ry_if (len == 1) (ry_h_ast (ry_isTc 1) (fun I _ _ v => ry_fit I 1 v) z)
  | .lastore => ry_if (len == 1) (ry_h_ast (ry_isTc 2) (fun I _ _ v => ry_fit I 2 v) z)
  | .aastore => ry_if (len == 1) (ry_h_ast ry_isRef ry_fitA z)
  | .new idx => ry_if (len == 3) (ry_h_new (T.2.1 M.1) M.2.2.2.2.2.2.1 M.2.2.2.2.2.2.2 idx z)
  | .newarray a => ry_if (len == 2) (ry_h_newa M.2.2.2.2.2.2.1 M.2.2.2.2.2.2.2 a z)
  | .anewarray idx => ry_if (len == 3) (ry_h_newq (T.2.2.1 M.1) M.2.2.2.2.2.2.1 M.2.2.2.2.2.2.2 idx z)
  | _ => none
/-- a frame of a method -/
def ry_Fr (G NW : List Jvm.Cond) (AO : List String) (PX : State → Prop) (p : Program) (s : State) (m : MethodId) (args : Array Value) (meth : Method) (c : Code) (M : ry_Mt) : Prop :=
  p.tables.exec = Jvm.exec ∧ c.code = M.2.1 ∧ meth.sig.returnType = M.2.2.2.1 ∧ c.maxLocals = M.2.2.1 ∧ s.vm.findClass M.2.2.2.2.1.cls = some m.cls ∧ meth.locks = false ∧ (∀ w ∈ G, w.before args s = true) ∧ (∀ w ∈ NW, va_Nw w s) ∧ (∀ C ∈ AO, va_AO C s) ∧ PX s ∧ (M.2.2.2.2.2.1 = true → meth.name = "<init>")
def ry_frOK (G NW : List Jvm.Cond) (cl : List vw_C) (nm : Nat → String) (T : ry_Tb) : Prop := ∀ (o idx : Nat) (q : ry_Q), T.1 o idx = some q →
  ∃ (C : String) (F : u_T) (N : Nat) (ty : Nat → FieldType), cl[q.1]? = some (C, F, N) ∧ q.2.1 < N ∧ (∀ w ∈ u_ws C F N, w ∈ G) ∧ (∀ k, k < N → parseFieldDescriptor (F k).2.2.1 = some (ty k)) ∧ (∀ a, a < N → ∀ b, b < N → a ≠ b → (F a).2.1 ≠ (F b).2.1) ∧
    ry_tyc (ty q.2.1) = q.2.2.1 ∧ (F q.2.1).2.2.2 = q.2.2.2.1 ∧ (q.2.2.2.1 = true → q.2.2.2.2 = false → (F q.2.1).1 = nm o) ∧
    ((q.2.2.2.2 = false ∧ Jvm.Cond.fieldLink (nm o) idx (F q.2.1).1 (F q.2.1).2.1 (F q.2.1).2.2.1 ∈ G) ∨ (q.2.2.2.2 = true ∧ ∃ host : String, Jvm.Cond.fieldLinkNest (nm o) idx (F q.2.1).1 (F q.2.1).2.1 (F q.2.1).2.2.1 host ∈ NW))
def ry_crOK (G : List Jvm.Cond) (cl : List vw_C) (nm : Nat → String) (T : ry_Tb) : Prop := ∀ (o idx : Nat) (q : Nat × List Nat), T.2.1 o idx = some q →
  ∃ (C : String) (F : u_T) (N : Nat) (ty : Nat → FieldType), cl[q.1]? = some (C, F, N) ∧ (∀ w ∈ u_ws C F N, w ∈ G) ∧ (∀ k, k < N → parseFieldDescriptor (F k).2.2.1 = some (ty k)) ∧ q.2.length = N ∧ (∀ k, k < N → q.2[k]? = some (ry_tyc (ty k)) ∧ ry_tyc (ty k) ≠ 9) ∧
    Jvm.Cond.classLink (nm o) idx C ∈ G ∧ Jvm.Cond.instantiable C N ∈ G ∧ Jvm.Cond.initialized C ∈ G
def ry_arOK (G : List Jvm.Cond) (AO : List String) (cl : List vw_C) (nm : Nat → String) (T : ry_Tb) : Prop := ∀ (o idx ci : Nat), T.2.2.1 o idx = some ci →
  ∃ (C : String) (F : u_T) (N : Nat), cl[ci]? = some (C, F, N) ∧ Jvm.Cond.classLink (nm o) idx C ∈ G ∧ C ∈ AO
def ry_kcOK (G : List Jvm.Cond) (nm : Nat → String) (T : ry_Tb) : Prop := ∀ (o idx k : Nat) (n : Int), T.2.2.2.1 o idx = some (.inr (k, (0, n))) →
  (k = 0 → Jvm.Cond.constant (nm o) idx (Int32.ofInt n) ∈ G) ∧ (k = 1 → Jvm.Cond.constantLong (nm o) idx (Int64.ofInt n) ∈ G)
def ry_acOK (G : List Jvm.Cond) : Prop := Jvm.Cond.arrayClass .int ∈ G ∧ Jvm.Cond.arrayClass .boolean ∈ G ∧ Jvm.Cond.arrayClass .long ∈ G
/-- what the script is, for a frame that may read it -/
def ry_Scr (lw : Bool) (A : Nat → Prop) (s : State) (xa : Nat → Nat) (H0 : Heap) (r : Nat → Int) : Prop := lw = true → ∃ (L : Nat) (xs : Nat → Int32), va_X (xa 0) L xs s H0 ∧ xa 0 < H0.size ∧ ¬ A (xa 0) ∧ r 1 = (L : Int) ∧ ∀ j : Nat, j < 6 → r (2 + j) = (xs j).toInt
section RYT
variable {p : Program} {l : Launch} {e : Env} {R : Room} {s : State} {m : MethodId} {args : Array Value} {below : List Frame} {meth : Method} {c : Code} {Q : State → Prop}
variable {D : va_G} {cl : List vw_C} {A : Nat → Prop} {xa : Nat → Nat} {H0 H : Heap} {locs : List Loc} {ls : Array Slot} {r : Nat → Int} {ad : Nat → Nat}
variable {z : ry_Z} {zs : List ry_Z} {G NW : List Jvm.Cond} {AO : List String} {PX : State → Prop} {T : ry_Tb} {M : ry_Mt} {nm : Nat → String}
theorem ry_Fok_of (hF : ry_Fr G NW AO PX p s m args meth c M) (hn : nm M.1 = M.2.2.2.2.1.cls) (hT : ry_frOK G NW cl nm T) {idx : Nat} {q : ry_Q} (hq : T.1 M.1 idx = some q) : ry_Fok s args G M.2.2.2.2.1.cls cl idx q := by
  obtain ⟨C, F, N, ty, h1, h2, h3, h4, h5, h6, h7, h8, h9⟩ := hT M.1 idx q hq
  rw [hn] at h8 h9
  refine ⟨C, F, N, ty, h1, h2, h3, h4, h5, h6, h7, h8, ?_⟩
  rcases h9 with ⟨k1, k2⟩ | ⟨k1, host, k2⟩
  · exact Or.inl ⟨k1, hF.2.2.2.2.2.2.1 _ k2⟩
  · exact Or.inr ⟨k1, host, va_Nw.use rfl (hF.2.2.2.2.2.2.2.1 _ k2)⟩
theorem ry_Nok_of (hF : ry_Fr G NW AO PX p s m args meth c M) (hn : nm M.1 = M.2.2.2.2.1.cls) (hT : ry_crOK G cl nm T) {idx : Nat} {q : Nat × List Nat} (hq : T.2.1 M.1 idx = some q) : ry_Nok s args G M.2.2.2.2.1.cls cl idx q := by
  obtain ⟨C, F, N, ty, h1, h2, h3, h4, h5, h6, h7, h8⟩ := hT M.1 idx q hq
  rw [hn] at h6
  exact ⟨C, F, N, ty, h1, h2, h3, h4, h5, hF.2.2.2.2.2.2.1 _ h6, hF.2.2.2.2.2.2.1 _ h7, hF.2.2.2.2.2.2.1 _ h8⟩
theorem ry_Ook_of (hF : ry_Fr G NW AO PX p s m args meth c M) (hn : nm M.1 = M.2.2.2.2.1.cls) (hT : ry_arOK G AO cl nm T) {idx ci : Nat} (hq : T.2.2.1 M.1 idx = some ci) : ry_Ook s args M.2.2.2.2.1.cls cl idx ci := by
  obtain ⟨C, F, N, h1, h2, h3⟩ := hT M.1 idx ci hq
  rw [hn] at h2
  exact ⟨C, F, N, h1, hF.2.2.2.2.2.2.1 _ h2, hF.2.2.2.2.2.2.2.2.1 _ h3⟩
set_option maxHeartbeats 4000000 in
theorem ry_step_ok {lw : Bool} {i : Instr} {len : Nat} (hF : ry_Fr G NW AO PX p s m args meth c M) (hn : nm M.1 = M.2.2.2.2.1.cls) (t1 : ry_frOK G NW cl nm T) (t2 : ry_crOK G cl nm T) (t3 : ry_arOK G AO cl nm T) (t4 : ry_kcOK G nm T) (t5 : ry_acOK G)
    (hA : ∀ q, H0.size ≤ q → A q) (hmc : M.2.2.2.2.2.2.1 ≤ R.cells) (hms : M.2.2.2.2.2.2.2 ≤ R.slots) (hscr : ry_Scr lw A s xa H0 r) (hdg : decode M.2.1 (ry_zpc z) = .ok (i, len))
    (hR : ry_R D cl A s xa M.2.2.1 H0 z r ad H locs ls) (hz : ry_step T lw M i len (decode M.2.1 (ry_zpc z + 1)) z = some zs)
    (K : ∀ z_p ∈ zs, ry_G p l e R s m args below meth c Q D cl A xa M.2.2.1 H0 z.1.length z.2.2.1.length r ad z_p) : W p l e R s m args below meth c H locs z.2.2.2.1 z.2.2.2.2.1 Q (F0 m (ry_zpc z) ls ((ry_zst z).map (ry_iv r ad xa))) := by
  obtain ⟨hx, hb, hr, hml, hown, hlk, hts, hnw, hao, hpx, hini⟩ := id hF
  cases i with
  | iconst n =>
    obtain ⟨hl, hz⟩ := ry_ifn hz
    subst hl
    exact ry_h_push_ok hR hz (ry_n_iv hR.1 n) (ry_sc0 hR 0 n) (fun k => lv_iconst hx hb hdg rfl k) K
  | bipush n =>
    obtain ⟨hl, hz⟩ := ry_ifn hz
    subst hl
    exact ry_h_push_ok hR hz (by rw [ry_n_iv hR.1, Int32.ofInt_toInt]) (ry_sc0 hR 0 _) (fun k => lv_bipush hx hb hdg rfl k) K
  | sipush n =>
    obtain ⟨hl, hz⟩ := ry_ifn hz
    subst hl
    exact ry_h_push_ok hR hz (by rw [ry_n_iv hR.1, Int32.ofInt_toInt]) (ry_sc0 hR 0 _) (fun k => lv_sipush hx hb hdg rfl k) K
  | lconst n =>
    obtain ⟨hl, hz⟩ := ry_ifn hz
    subst hl
    exact ry_h_push_ok hR hz (ry_nL_iv hR.1 _) (ry_sc0 hR 1 _) (fun k => lv_lconst hx hb hdg (by rw [← Int64.ofInt_eq_ofNat]) k) K
  | aconst_null =>
    obtain ⟨hl, hz⟩ := ry_ifn hz
    subst hl
    exact ry_h_push_ok hR hz rfl trivial (fun k => lv_null hx hb hdg k) K
  | ldc idx =>
    obtain ⟨hl, hz⟩ := ry_ifn hz
    subst hl
    have hz : ry_h_const T.2.2.2.1 M.1 idx 0 2 z = some zs := hz
    unfold ry_h_const at hz
    split at hz
    · rename_i k n hk
      obtain ⟨hk0, hz⟩ := ry_ifn hz
      subst hk0
      have hw := (t4 M.1 idx _ n hk).1 rfl
      rw [hn] at hw
      exact ry_h_push_ok hR hz (ry_n_iv hR.1 n) (ry_sc0 hR 0 n) (fun k => lv_ldc hx hb hown (hts _ hw) hdg k) K
    · cases hz
  | ldc_w idx =>
    obtain ⟨hl, hz⟩ := ry_ifn hz
    subst hl
    have hz : ry_h_const T.2.2.2.1 M.1 idx 0 3 z = some zs := hz
    unfold ry_h_const at hz
    split at hz
    · rename_i k n hk
      obtain ⟨hk0, hz⟩ := ry_ifn hz
      subst hk0
      have hw := (t4 M.1 idx _ n hk).1 rfl
      rw [hn] at hw
      exact ry_h_push_ok hR hz (ry_n_iv hR.1 n) (ry_sc0 hR 0 n) (fun k => lv_ldcw hx hb hown (hts _ hw) hdg k) K
    · cases hz
  | ldc2_w idx =>
    obtain ⟨hl, hz⟩ := ry_ifn hz
    subst hl
    have hz : ry_h_const T.2.2.2.1 M.1 idx 1 3 z = some zs := hz
    unfold ry_h_const at hz
    split at hz
    · rename_i k n hk
      obtain ⟨hk0, hz⟩ := ry_ifn hz
      subst hk0
      have hw := (t4 M.1 idx _ n hk).2 rfl
      rw [hn] at hw
      exact ry_h_push_ok hR hz (ry_nL_iv hR.1 n) (ry_sc0 hR 1 n) (fun k => lv_ldc2 hx hb hown (hts _ hw) hdg k) K
    · cases hz
  | iload_n k =>
    obtain ⟨hl, hz⟩ := ry_ifn hz
    subst hl
    exact ry_h_load_ok hR hz (fun e0 h k => lv_iload_n hx hb hdg rfl h k) K
  | iload k =>
    obtain ⟨hl, hz⟩ := ry_ifn hz
    subst hl
    exact ry_h_load_ok hR hz (fun e0 h k => lv_iload hx hb hdg h k) K
  | lload_n k =>
    obtain ⟨hl, hz⟩ := ry_ifn hz
    subst hl
    exact ry_h_load_ok hR hz (fun e0 h k => lv_lload_n hx hb hdg rfl h k) K
  | lload k =>
    obtain ⟨hl, hz⟩ := ry_ifn hz
    subst hl
    exact ry_h_load_ok hR hz (fun e0 h k => lv_lload hx hb hdg h k) K
  | aload_n k =>
    obtain ⟨hl, hz⟩ := ry_ifn hz
    subst hl
    exact ry_h_loadA_ok hR hz (fun h k => lv_aload_nN hx hb hdg rfl h k) (fun a h k => lv_aload_n hx hb hdg rfl h k) K
  | aload k =>
    obtain ⟨hl, hz⟩ := ry_ifn hz
    subst hl
    exact ry_h_loadA_ok hR hz (fun h k => lv_aloadN hx hb hdg h k) (fun a h k => lv_aload hx hb hdg h k) K
  | istore_n k =>
    obtain ⟨hl, hz⟩ := ry_ifn hz
    subst hl
    exact ry_h_istore_ok hR hz (fun x rest h k => lv_istore_n hx hb hdg rfl (ry_lvh hR) h rfl k) K
  | istore k =>
    obtain ⟨hl, hz⟩ := ry_ifn hz
    subst hl
    exact ry_h_istore_ok hR hz (fun x rest h k => lv_istore hx hb hdg (ry_lvh hR) h rfl k) K
  | lstore_n k =>
    obtain ⟨hl, hz⟩ := ry_ifn hz
    subst hl
    exact ry_h_lstore_ok hR hz (fun x rest h k => lv_lstore_n hx hb hdg rfl (ry_lvh hR) h rfl k) K
  | lstore k =>
    obtain ⟨hl, hz⟩ := ry_ifn hz
    subst hl
    exact ry_h_lstore_ok hR hz (fun x rest h k => lv_lstore hx hb hdg (ry_lvh hR) h rfl k) K
  | astore_n k =>
    obtain ⟨hl, hz⟩ := ry_ifn hz
    subst hl
    refine ry_h_astore_ok hR hz (fun o rest h k => ?_) K
    cases o with
    | none => exact lv_astore_nN hx hb hdg rfl (ry_lvh hR) h rfl k
    | some a => exact lv_astore_n hx hb hdg rfl (ry_lvh hR) h rfl k
  | astore k =>
    obtain ⟨hl, hz⟩ := ry_ifn hz
    subst hl
    refine ry_h_astore_ok hR hz (fun o rest h k => ?_) K
    cases o with
    | none => exact lv_astoreN hx hb hdg (ry_lvh hR) h rfl k
    | some a => exact lv_astore hx hb hdg (ry_lvh hR) h rfl k
  | iinc k n =>
    obtain ⟨hl, hz⟩ := ry_ifn hz
    subst hl
    exact ry_h_iinc_ok hR hz (fun x v j h1 h2 h3 k => lv_iinc hx hb hdg (ry_lvh hR) h2 h3 h1 rfl k) K
  | iadd =>
    obtain ⟨hl, hz⟩ := ry_ifn hz
    subst hl
    exact ry_h_bin_ok hR hz (fun a b t _ k => lv_iadd hx hb hdg k) K
  | isub =>
    obtain ⟨hl, hz⟩ := ry_ifn hz
    subst hl
    exact ry_h_bin_ok hR hz (fun a b t _ k => lv_isub hx hb hdg k) K
  | imul =>
    obtain ⟨hl, hz⟩ := ry_ifn hz
    subst hl
    exact ry_h_bin_ok hR hz (fun a b t _ k => lv_imul hx hb hdg k) K
  | idiv =>
    obtain ⟨hl, hz⟩ := ry_ifn hz
    subst hl
    exact ry_h_div_ok hR hz (fun x y t h k => lv_idiv hx hb hdg h k) K
  | irem =>
    obtain ⟨hl, hz⟩ := ry_ifn hz
    subst hl
    exact ry_h_div_ok hR hz (fun x y t h k => lv_irem hx hb hdg h k) K
  | iand =>
    obtain ⟨hl, hz⟩ := ry_ifn hz
    subst hl
    exact ry_h_bin_ok hR hz (fun a b t _ k => lv_iand hx hb hdg k) K
  | ior =>
    obtain ⟨hl, hz⟩ := ry_ifn hz
    subst hl
    exact ry_h_bin_ok hR hz (fun a b t _ k => lv_ior hx hb hdg k) K
  | ixor =>
    obtain ⟨hl, hz⟩ := ry_ifn hz
    subst hl
    exact ry_h_bin_ok hR hz (fun a b t _ k => lv_ixor hx hb hdg k) K
  | ishl =>
    obtain ⟨hl, hz⟩ := ry_ifn hz
    subst hl
    exact ry_h_bin_ok hR hz (fun a b t _ k => lv_ishl hx hb hdg k) K
  | ishr =>
    obtain ⟨hl, hz⟩ := ry_ifn hz
    subst hl
    exact ry_h_bin_ok hR hz (fun a b t _ k => lv_ishr hx hb hdg k) K
  | iushr =>
    obtain ⟨hl, hz⟩ := ry_ifn hz
    subst hl
    exact ry_h_bin_ok hR hz (fun a b t _ k => lv_iushr hx hb hdg rfl k) K
  | ineg =>
    obtain ⟨hl, hz⟩ := ry_ifn hz
    subst hl
    exact ry_h_ineg_ok hR hz (fun x t k => lv_ineg hx hb hdg k) K
  | ladd =>
    obtain ⟨hl, hz⟩ := ry_ifn hz
    subst hl
    exact ry_h_binL_ok hR hz (fun a b t _ k => lv_ladd hx hb hdg k) K
  | lsub =>
    obtain ⟨hl, hz⟩ := ry_ifn hz
    subst hl
    exact ry_h_binL_ok hR hz (fun a b t _ k => lv_lsub hx hb hdg k) K
  | lmul =>
    obtain ⟨hl, hz⟩ := ry_ifn hz
    subst hl
    exact ry_h_binL_ok hR hz (fun a b t _ k => lv_lmul hx hb hdg k) K
  | ldiv =>
    obtain ⟨hl, hz⟩ := ry_ifn hz
    subst hl
    exact ry_h_divL_ok hR hz (fun x y t h k => lv_ldiv hx hb hdg h k) K
  | lrem =>
    obtain ⟨hl, hz⟩ := ry_ifn hz
    subst hl
    exact ry_h_divL_ok hR hz (fun x y t h k => lv_lrem hx hb hdg h k) K
  | i2l =>
    obtain ⟨hl, hz⟩ := ry_ifn hz
    subst hl
    exact ry_h_i2l_ok hR hz (fun x t k => lv_i2l hx hb hdg rfl k) K
  | lcmp =>
    obtain ⟨hl, hz⟩ := ry_ifn hz
    subst hl
    exact ry_h_lcmp_ok hx hb hdg hR hz K
  | ifCond cnd off =>
    obtain ⟨hl, hz⟩ := ry_ifn hz
    subst hl
    exact ry_h_if_ok hx hb hdg hR hz K
  | if_icmp cnd off =>
    obtain ⟨hl, hz⟩ := ry_ifn hz
    subst hl
    exact ry_h_icmp_ok hx hb hdg hR hz K
  | goto off =>
    obtain ⟨hl, hz⟩ := ry_ifn hz
    subst hl
    exact ry_h_goto_ok hx hb hdg hR hz K
  | tableswitch dflt lo hi offs =>
    have hz : ry_h_table dflt lo hi offs z = some zs := hz
    exact ry_h_table_ok hx hb hdg hR hz K
  | dup =>
    obtain ⟨hl, hz⟩ := ry_ifn hz
    subst hl
    exact ry_h_dup_ok hR hz (fun v t h k => lv_dup hx hb hdg h k) K
  | dup2 =>
    obtain ⟨hl, hz⟩ := ry_ifn hz
    subst hl
    exact ry_h_dup2_ok hR hz (fun v t h k => lv_dup2_2 hx hb hdg h k) (fun v w t h1 h2 k => lv_dup2_11 hx hb hdg h1 h2 k) K
  | pop =>
    obtain ⟨hl, hz⟩ := ry_ifn hz
    subst hl
    exact ry_h_pop_ok hR hz (fun v t h k => lv_pop hx hb hdg h k) K
  | getfield idx =>
    obtain ⟨hl, hz⟩ := ry_ifn hz
    subst hl
    exact ry_h_get_ok hx hb hts hown (fun q hq => ry_Fok_of hF hn t1 hq) hdg hR hz K
  | putfield idx =>
    obtain ⟨hl, hz⟩ := ry_ifn hz
    subst hl
    exact ry_h_put_ok hx hb hts hown hini (fun q hq => ry_Fok_of hF hn t1 hq) hdg hR hz K
  | arraylength =>
    obtain ⟨hl, hz1⟩ := ry_if_ok hz
    rw [Bool.and_eq_true, Bool.or_eq_true] at hl
    obtain ⟨hl, hlw⟩ := hl
    have hl := beq_iff_eq.mp hl
    subst hl
    by_cases hlw2 : lw = true
    · obtain ⟨L, xs, hX, hbl, hbA, hrL, -⟩ := hscr hlw2
      exact ry_alen_ok (b := r) (bs := 0) (L := L) (xs := xs) hx hb hdg hR hz1 (fun _ _ _ => ⟨hX, hbl, hbA, hrL⟩) K
    · refine ry_alen_ok (b := r) (bs := 0) (L := 0) (xs := fun _ => 0) hx hb hdg hR hz1 (fun _ t ht => ?_) K
      obtain ⟨n, hn2⟩ := ht
      rcases hlw with h | h
      · exact absurd h hlw2
      · unfold ry_topc at h
        rw [hn2] at h
        exact absurd (show false = true from h) Bool.false_ne_true
  | iaload =>
    obtain ⟨hl, hz⟩ := ry_ifn hz
    subst hl
    rcases ry_or_ok hz with hz | hz
    · exact ry_iald hx hb hdg hR hz K
    · obtain ⟨hlw, hz⟩ := ry_if_ok hz
      obtain ⟨L, xs, hX, hbl, hbA, hrL, hrx⟩ := hscr hlw
      exact ry_h_sld_ok hx hb hX hbl hbA hrL hrx hdg hR hz K
  | baload =>
    obtain ⟨hl, hz⟩ := ry_ifn hz
    subst hl
    exact ry_zald hx hb hdg hR hz K
  | laload =>
    obtain ⟨hl, hz⟩ := ry_ifn hz
    subst hl
    exact ry_lald hx hb hdg hR hz K
  | aaload =>
    obtain ⟨hl, hz⟩ := ry_ifn hz
    subst hl
    exact ry_aald hx hb hdg hR hz K
  | iastore =>
    obtain ⟨hl, hz⟩ := ry_ifn hz
    subst hl
    exact ry_iast hx hb hdg hR hz K
  | bastore =>
    obtain ⟨hl, hz⟩ := ry_ifn hz
    subst hl
    exact ry_zast hx hb hdg hR hz K
  | lastore =>
    obtain ⟨hl, hz⟩ := ry_ifn hz
    subst hl
    exact ry_last hx hb hdg hR hz K
  | aastore =>
    obtain ⟨hl, hz⟩ := ry_ifn hz
    subst hl
    exact ry_aast hx hb hdg hR hz K
  | new idx =>
    obtain ⟨hl, hz⟩ := ry_ifn hz
    subst hl
    exact ry_h_new_ok hx hb hts hown hA hmc hms (fun q hq => ry_Nok_of hF hn t2 hq) hdg hR hz K
  | newarray a =>
    obtain ⟨hl, hz⟩ := ry_ifn hz
    subst hl
    have harr : (Jvm.Cond.arrayClass (newarray.typeOf a)).before args s = true := by
      have hz : ry_h_newa M.2.2.2.2.2.2.1 M.2.2.2.2.2.2.2 a z = some zs := hz
      unfold ry_h_newa at hz
      split at hz
      · rename_i ee t tc he htc
        cases a with
        | int => exact hts _ t5.1
        | boolean => exact hts _ t5.2.1
        | long => exact hts _ t5.2.2
        | char => cases htc
        | float => cases htc
        | double => cases htc
        | byte => cases htc
        | short => cases htc
      · cases hz
    exact ry_h_newa_ok hx hb harr hA hmc hms hdg hR hz K
  | anewarray idx =>
    obtain ⟨hl, hz⟩ := ry_ifn hz
    subst hl
    exact ry_h_newq_ok hx hb hown hA hmc hms (fun ci hq => ry_Ook_of hF hn t3 hq) hdg hR hz K
  | _ => exact absurd (show (none : Option (List ry_Z)) = some zs from hz) (fun q => by cases q)
end RYT
