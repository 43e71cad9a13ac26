/-! A REFLECTED MACHINE, part 3: states, and the instructions that touch no cell -/
/-- symbols, facts, cells; how many cells and slots were made; pc, locals, stack -/
abbrev ry_Z : Type := ry_I × ry_F × List ry_C × Nat × Nat × Nat × List (Nat × ry_V) × List ry_V
def ry_n (z : Int) : ry_V := .inr (0, (0, z))
def ry_k2 (v : ry_V) : Bool := match v with
  | .inr (1, _) => true
  | _ => false
def ry_lvs (r : Nat → Int) (ad xa : Nat → Nat) (lv : List (Nat × ry_V)) : List (Nat × Value) := lv.map (fun q => (q.1, ry_iv r ad xa q.2))
def ry_del (lv : List (Nat × ry_V)) (i : Nat) : List (Nat × ry_V) := lv.filter (fun q => !(q.1 == i) && !(q.1 + 1 == i && ry_k2 q.2))
def ry_del2 (lv : List (Nat × ry_V)) (i : Nat) : List (Nat × ry_V) := lv.filter (fun q => !(q.1 == i) && (!(q.1 == i + 1) && !(q.1 + 1 == i && ry_k2 q.2)))
theorem ry_cat {r : Nat → Int} {ad xa : Nat → Nat} {v : ry_V} (h : ry_k2 v = false) : (ry_iv r ad xa v).category = 1 := by
  match v, h with
  | .inl none, _ => rfl
  | .inl (some k), _ => rfl
  | .inr (0, e), _ => rfl
  | .inr (1, e), h => exact absurd (show true = false from h) (fun q => Bool.false_ne_true q.symm)
  | .inr (_ + 2, e), _ => rfl
theorem ry_cat2 {r : Nat → Int} {ad xa : Nat → Nat} {v : ry_V} (h : ry_k2 v = true) : (ry_iv r ad xa v).category = 2 := by
  match v, h with
  | .inl none, h => exact absurd (show false = true from h) Bool.false_ne_true
  | .inl (some k), h => exact absurd (show false = true from h) Bool.false_ne_true
  | .inr (0, e), h => exact absurd (show false = true from h) Bool.false_ne_true
  | .inr (1, e), _ => rfl
  | .inr (_ + 2, e), h => exact absurd (show false = true from h) Bool.false_ne_true
theorem ry_cateq {r : Nat → Int} {ad xa : Nat → Nat} {v : ry_V} : ((ry_iv r ad xa v).category == 2) = ry_k2 v := by
  cases h : ry_k2 v with
  | false => rw [ry_cat h]; rfl
  | true => rw [ry_cat2 h]; rfl
theorem ry_lv_get {r : Nat → Int} {ad xa : Nat → Nat} {lv : List (Nat × ry_V)} {ls : Array Slot} {nL i : Nat} {v : ry_V} (h : lv_has ls nL (ry_lvs r ad xa lv)) (hv : ry_lk lv i = some v) : ls[i]? = some (.val (ry_iv r ad xa v)) :=
  h.2.2 (i, ry_iv r ad xa v) (List.mem_map.mpr ⟨(i, v), ry_lk_mem hv, rfl⟩)
theorem ry_lv_of {r : Nat → Int} {ad xa : Nat → Nat} {lv' : List (Nat × ry_V)} {ls : Array Slot} {nL i : Nat} {v : ry_V} {L : List (Nat × Value)} (h : lv_has ls nL ((i, ry_iv r ad xa v) :: L)) (hL : ∀ q ∈ lv', (q.1, ry_iv r ad xa q.2) ∈ L) : lv_has ls nL (ry_lvs r ad xa ((i, v) :: lv')) := by
  refine ⟨h.1, h.2.1, fun q hq => ?_⟩
  obtain ⟨y, hy, rfl⟩ := List.mem_map.mp hq
  rcases List.mem_cons.mp hy with e | e
  · subst e
    exact h.2.2 _ List.mem_cons_self
  · exact h.2.2 _ (List.mem_cons_of_mem _ (hL y e))
theorem ry_lv_st {r : Nat → Int} {ad xa : Nat → Nat} {lv : List (Nat × ry_V)} {ls : Array Slot} {nL i : Nat} {v : ry_V} (h : lv_has ls nL ((i, ry_iv r ad xa v) :: (ry_lvs r ad xa lv).filter (fun q => !(q.1 == i) && !(q.1 + 1 == i && q.2.category == 2)))) : lv_has ls nL (ry_lvs r ad xa ((i, v) :: ry_del lv i)) := by
  refine ry_lv_of h fun q hq => ?_
  obtain ⟨h1, h2⟩ := List.mem_filter.mp hq
  refine List.mem_filter.mpr ⟨List.mem_map.mpr ⟨q, h1, rfl⟩, ?_⟩
  dsimp only
  rw [ry_cateq]
  exact h2
theorem ry_lv_st2 {r : Nat → Int} {ad xa : Nat → Nat} {lv : List (Nat × ry_V)} {ls : Array Slot} {nL i : Nat} {v : ry_V} (h : lv_has ls nL ((i, ry_iv r ad xa v) :: (ry_lvs r ad xa lv).filter (fun q => !(q.1 == i) && (!(q.1 == i + 1) && !(q.1 + 1 == i && q.2.category == 2))))) : lv_has ls nL (ry_lvs r ad xa ((i, v) :: ry_del2 lv i)) := by
  refine ry_lv_of h fun q hq => ?_
  obtain ⟨h1, h2⟩ := List.mem_filter.mp hq
  refine List.mem_filter.mpr ⟨List.mem_map.mpr ⟨q, h1, rfl⟩, ?_⟩
  dsimp only
  rw [ry_cateq]
  exact h2
theorem ry_lvs_ext {N M : Nat} {r r_p : Nat → Int} {ad ad' xa : Nat → Nat} {lv : List (Nat × ry_V)} (h : ∀ q ∈ lv, ry_sc N M q.2) (hr : ry_same N r r_p) (ha : ry_sameA M ad ad') : ry_lvs r_p ad' xa lv = ry_lvs r ad xa lv :=
  List.map_congr_left fun q hq => by rw [ry_iv_ext (h q hq) hr ha]
theorem ry_st_ext {N M : Nat} {r r_p : Nat → Int} {ad ad' xa : Nat → Nat} {st : List ry_V} (h : ∀ v ∈ st, ry_sc N M v) (hr : ry_same N r r_p) (ha : ry_sameA M ad ad') : st.map (ry_iv r_p ad' xa) = st.map (ry_iv r ad xa) :=
  List.map_congr_left fun v hv => ry_iv_ext (h v hv) hr ha
/-- a state stands for what the machine holds -/
def ry_R (D : va_G) (cl : List vw_C) (A : Nat → Prop) (s : State) (xa : Nat → Nat) (nL : Nat) (H0 : Heap) (z : ry_Z) (r : Nat → Int) (ad : Nat → Nat) (H : Heap) (locs : List Loc) (ls : Array Slot) : Prop :=
  ry_sat z.1 r ∧ ry_facts z.2.1 r ∧ ry_fsc z.1.length z.2.1 ∧ ry_W D cl A s xa z.1.length z.2.2.1 r ad H0 H locs ∧ lv_has ls nL (ry_lvs r ad xa z.2.2.2.2.2.2.1) ∧ (∀ q ∈ z.2.2.2.2.2.2.1, ry_sc z.1.length z.2.2.1.length q.2) ∧ ∀ v ∈ z.2.2.2.2.2.2.2, ry_sc z.1.length z.2.2.1.length v
/-- the goal at a state -/
def ry_G (p : Program) (l : Launch) (e : Env) (R : Room) (s : State) (m : MethodId) (args : Array Value) (below : List Frame) (meth : Method) (c : Code) (Q : State → Prop) (D : va_G) (cl : List vw_C) (A : Nat → Prop) (xa : Nat → Nat) (nL : Nat) (H0 : Heap) (N M : Nat) (r : Nat → Int) (ad : Nat → Nat) (z : ry_Z) : Prop :=
  ∀ (r_p : Nat → Int) (ad' : Nat → Nat) (H : Heap) (locs : List Loc) (ls : Array Slot), N ≤ z.1.length → M ≤ z.2.2.1.length → ry_same N r r_p → ry_sameA M ad ad' → ry_R D cl A s xa nL H0 z r_p ad' H locs ls →
    W p l e R s m args below meth c H locs z.2.2.2.1 z.2.2.2.2.1 Q (F0 m z.2.2.2.2.2.1 ls (z.2.2.2.2.2.2.2.map (ry_iv r_p ad' xa)))
/-- where a branch goes -/
def ry_to (pc : Nat) (off : Int) : Nat := ((pc : Int) + off).toNat
def ry_cnd (c : Jvm.ClassFile.Cond) (a b : ry_E) : (Nat × ry_E × ry_E) × (Nat × ry_E × ry_E) := match c with
  | .eq => ((2, a, b), (3, a, b))
  | .ne => ((3, a, b), (2, a, b))
  | .lt => ((0, a, b), (1, b, a))
  | .ge => ((1, b, a), (0, a, b))
  | .gt => ((0, b, a), (1, a, b))
  | .le => ((1, a, b), (0, b, a))
