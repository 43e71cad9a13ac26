/-! A REFLECTED MACHINE, part 3: states, and the instructions that touch no cell -/
/-- symbols, facts, cells; how many cells and slots were made; pc, locals, stack -/
abbrev rx_Z : Type := rx_I × rx_F × List rx_C × Nat × Nat × Nat × List (Nat × rx_V) × List rx_V
def rx_n (z : Int) : rx_V := .inr (0, (0, z))
def rx_k2 (v : rx_V) : Bool := match v with
  | .inr (1, _) => true
  | _ => false
def rx_lvs (r : Nat → Int) (ad xa : Nat → Nat) (lv : List (Nat × rx_V)) : List (Nat × Value) := lv.map (fun q => (q.1, rx_iv r ad xa q.2))
def rx_del (lv : List (Nat × rx_V)) (i : Nat) : List (Nat × rx_V) := lv.filter (fun q => !(q.1 == i) && !(q.1 + 1 == i && rx_k2 q.2))
def rx_del2 (lv : List (Nat × rx_V)) (i : Nat) : List (Nat × rx_V) := lv.filter (fun q => !(q.1 == i) && (!(q.1 == i + 1) && !(q.1 + 1 == i && rx_k2 q.2)))
theorem rx_cat {r : Nat → Int} {ad xa : Nat → Nat} {v : rx_V} (h : rx_k2 v = false) : (rx_iv r ad xa v).category = 1 := by
  match v, h with
  | .inl none, _ => rfl
  | .inl (some k), _ => rfl
  | .inr (0, e), _ => rfl
  | .inr (1, e), h => exact absurd (show true = false from h) (fun q => Bool.false_ne_true q.symm)
  | .inr (2, e), _ => rfl
  | .inr (_ + 3, e), _ => rfl
theorem rx_cat2 {r : Nat → Int} {ad xa : Nat → Nat} {v : rx_V} (h : rx_k2 v = true) : (rx_iv r ad xa v).category = 2 := by
  match v, h with
  | .inl none, h => exact absurd (show false = true from h) Bool.false_ne_true
  | .inl (some k), h => exact absurd (show false = true from h) Bool.false_ne_true
  | .inr (0, e), h => exact absurd (show false = true from h) Bool.false_ne_true
  | .inr (1, e), _ => rfl
  | .inr (2, e), h => exact absurd (show false = true from h) Bool.false_ne_true
  | .inr (_ + 3, e), h => exact absurd (show false = true from h) Bool.false_ne_true
theorem rx_cateq {r : Nat → Int} {ad xa : Nat → Nat} {v : rx_V} : ((rx_iv r ad xa v).category == 2) = rx_k2 v := by
  cases h : rx_k2 v with
  | false => rw [rx_cat h]; rfl
  | true => rw [rx_cat2 h]; rfl
theorem rx_lv_get {r : Nat → Int} {ad xa : Nat → Nat} {lv : List (Nat × rx_V)} {ls : Array Slot} {nL i : Nat} {v : rx_V} (h : lv_has ls nL (rx_lvs r ad xa lv)) (hv : rx_lk lv i = some v) : ls[i]? = some (.val (rx_iv r ad xa v)) :=
  h.2.2 (i, rx_iv r ad xa v) (List.mem_map.mpr ⟨(i, v), rx_lk_mem hv, rfl⟩)
theorem rx_lv_of {r : Nat → Int} {ad xa : Nat → Nat} {lv' : List (Nat × rx_V)} {ls : Array Slot} {nL i : Nat} {v : rx_V} {L : List (Nat × Value)} (h : lv_has ls nL ((i, rx_iv r ad xa v) :: L)) (hL : ∀ q ∈ lv', (q.1, rx_iv r ad xa q.2) ∈ L) : lv_has ls nL (rx_lvs r ad xa ((i, v) :: lv')) := by
  refine ⟨h.1, h.2.1, fun q hq => ?_⟩
  obtain ⟨y, hy, rfl⟩ := List.mem_map.mp hq
  rcases List.mem_cons.mp hy with e | e
  · subst e
    exact h.2.2 _ List.mem_cons_self
  · exact h.2.2 _ (List.mem_cons_of_mem _ (hL y e))
theorem rx_lv_st {r : Nat → Int} {ad xa : Nat → Nat} {lv : List (Nat × rx_V)} {ls : Array Slot} {nL i : Nat} {v : rx_V} (h : lv_has ls nL ((i, rx_iv r ad xa v) :: (rx_lvs r ad xa lv).filter (fun q => !(q.1 == i) && !(q.1 + 1 == i && q.2.category == 2)))) : lv_has ls nL (rx_lvs r ad xa ((i, v) :: rx_del lv i)) := by
  refine rx_lv_of h fun q hq => ?_
  obtain ⟨h1, h2⟩ := List.mem_filter.mp hq
  refine List.mem_filter.mpr ⟨List.mem_map.mpr ⟨q, h1, rfl⟩, ?_⟩
  dsimp only
  rw [rx_cateq]
  exact h2
theorem rx_lv_st2 {r : Nat → Int} {ad xa : Nat → Nat} {lv : List (Nat × rx_V)} {ls : Array Slot} {nL i : Nat} {v : rx_V} (h : lv_has ls nL ((i, rx_iv r ad xa v) :: (rx_lvs r ad xa lv).filter (fun q => !(q.1 == i) && (!(q.1 == i + 1) && !(q.1 + 1 == i && q.2.category == 2))))) : lv_has ls nL (rx_lvs r ad xa ((i, v) :: rx_del2 lv i)) := by
  refine rx_lv_of h fun q hq => ?_
  obtain ⟨h1, h2⟩ := List.mem_filter.mp hq
  refine List.mem_filter.mpr ⟨List.mem_map.mpr ⟨q, h1, rfl⟩, ?_⟩
  dsimp only
  rw [rx_cateq]
  exact h2
theorem rx_lvs_ext {N M : Nat} {r r_p : Nat → Int} {ad ad' xa : Nat → Nat} {lv : List (Nat × rx_V)} (h : ∀ q ∈ lv, rx_sc N M q.2) (hr : rx_same N r r_p) (ha : rx_sameA M ad ad') : rx_lvs r_p ad' xa lv = rx_lvs r ad xa lv :=
  List.map_congr_left fun q hq => by rw [rx_iv_ext (h q hq) hr ha]
theorem rx_st_ext {N M : Nat} {r r_p : Nat → Int} {ad ad' xa : Nat → Nat} {st : List rx_V} (h : ∀ v ∈ st, rx_sc N M v) (hr : rx_same N r r_p) (ha : rx_sameA M ad ad') : st.map (rx_iv r_p ad' xa) = st.map (rx_iv r ad xa) :=
  List.map_congr_left fun v hv => rx_iv_ext (h v hv) hr ha
/-- a state stands for what the machine holds -/
def rx_R (D : bx_D) (cl : List vw_C) (A : Nat → Prop) (s : State) (xa : Nat → Nat) (nL : Nat) (H0 : Heap) (z : rx_Z) (r : Nat → Int) (ad : Nat → Nat) (H : Heap) (locs : List Loc) (ls : Array Slot) : Prop :=
  rx_sat z.1 r ∧ rx_facts z.2.1 r ∧ rx_fsc z.1.length z.2.1 ∧ rx_W D cl A s xa z.1.length z.2.2.1 r ad H0 H locs ∧ lv_has ls nL (rx_lvs r ad xa z.2.2.2.2.2.2.1) ∧ (∀ q ∈ z.2.2.2.2.2.2.1, rx_sc z.1.length z.2.2.1.length q.2) ∧ ∀ v ∈ z.2.2.2.2.2.2.2, rx_sc z.1.length z.2.2.1.length v
/-- the goal at a state -/
def rx_G (p : Program) (l : Launch) (e : Env) (R : Room) (s : State) (m : MethodId) (args : Array Value) (below : List Frame) (meth : Method) (c : Code) (Q : State → Prop) (D : bx_D) (cl : List vw_C) (A : Nat → Prop) (xa : Nat → Nat) (nL : Nat) (H0 : Heap) (N M : Nat) (r : Nat → Int) (ad : Nat → Nat) (z : rx_Z) : Prop :=
  ∀ (r_p : Nat → Int) (ad' : Nat → Nat) (H : Heap) (locs : List Loc) (ls : Array Slot), N ≤ z.1.length → True → rx_same N r r_p → rx_sameA M ad ad' → rx_R D cl A s xa nL H0 z r_p ad' H locs ls →
    W p l e R s m args below meth c H locs z.2.2.2.1 z.2.2.2.2.1 Q (F0 m z.2.2.2.2.2.1 ls (z.2.2.2.2.2.2.2.map (rx_iv r_p ad' xa)))
/-- where a branch goes -/
def rx_to (pc : Nat) (off : Int) : Nat := ((pc : Int) + off).toNat
def rx_cnd (c : Jvm.ClassFile.Cond) (a b : rx_E) : (Nat × rx_E × rx_E) × (Nat × rx_E × rx_E) := match c with
  | .eq => ((2, a, b), (3, a, b))
  | .ne => ((3, a, b), (2, a, b))
  | .lt => ((0, a, b), (1, b, a))
  | .ge => ((1, b, a), (0, a, b))
  | .gt => ((0, b, a), (1, a, b))
  | .le => ((1, a, b), (0, b, a))
