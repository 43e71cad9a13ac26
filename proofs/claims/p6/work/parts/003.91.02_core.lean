/-! A REFLECTED MACHINE, part 1: numbers by symbols, values, cells; what they are worth. Symbol + offset is a number; symbol 0 is worth 0. -/
abbrev ry_E : Type := Nat × Int
/-- null, a cell by its place | kind (0 int, 1 long, 2 a cell outside, by its place) and number -/
abbrev ry_V : Type := Option Nat ⊕ (Nat × ry_E)
/-- a known value | a kind and bounds -/
abbrev ry_X : Type := ry_V ⊕ (Nat × Int × Int)
abbrev ry_I : Type := List (Int × Int)
/-- facts: 0 <, 1 ≤, 2 =, 3 ≠ -/
abbrev ry_F : Type := List (Nat × ry_E × ry_E)
/-- a row: kind of its entries (0 int, 1 boolean, 2 long, 3 byte, 4 char, 5 + class), length, what an entry is, what some are -/
abbrev ry_A : Type := Nat × Nat × ry_X × List (Nat × ry_V)
abbrev ry_C : Type := (Nat × List ry_X) ⊕ ry_A
def ry_ev (r : Nat → Int) (e : ry_E) : Int := r e.1 + e.2
def ry_iv (r : Nat → Int) (ad xa : Nat → Nat) (v : ry_V) : Value := match v with
  | .inl none => .null
  | .inl (some k) => .ref (ad k)
  | .inr (0, e) => .int (Int32.ofInt (ry_ev r e))
  | .inr (1, e) => .long (Int64.ofInt (ry_ev r e))
  | .inr (_ + 2, e) => .ref (xa e.2.toNat)
/-- a value speaks of N symbols, of M cells alone -/
def ry_sc (N M : Nat) (v : ry_V) : Prop := match v with
  | .inl none => True
  | .inl (some k) => k < M
  | .inr (_, e) => e.1 < N
def ry_ok (r : Nat → Int) (ad xa : Nat → Nat) (x : ry_X) (w : Value) : Prop := match x with
  | .inl v => w = ry_iv r ad xa v
  | .inr (0, lo, hi) => ∃ i : Int32, w = .int i ∧ lo ≤ i.toInt ∧ i.toInt ≤ hi
  | .inr (_ + 1, lo, hi) => ∃ i : Int64, w = .long i ∧ lo ≤ i.toInt ∧ i.toInt ≤ hi
def ry_xsc (N M : Nat) (x : ry_X) : Prop := match x with
  | .inl v => ry_sc N M v
  | .inr _ => True
def ry_lk : List (Nat × ry_V) → Nat → Option ry_V
  | [], _ => none
  | q :: l, i => if q.1 = i then some q.2 else ry_lk l i
theorem ry_lk_mem : ∀ {l : List (Nat × ry_V)} {i : Nat} {v : ry_V}, ry_lk l i = some v → (i, v) ∈ l
  | [], _, _, h => by cases h
  | q :: l, i, v, h => by
    rw [ry_lk] at h
    split at h
    · rename_i e
      cases h
      subst e
      exact List.mem_cons_self
    · exact List.mem_cons_of_mem _ (ry_lk_mem h)
def ry_gt (ov : List (Nat × ry_V)) (df : ry_X) (j : Nat) : ry_X := match ry_lk ov j with
  | some v => .inl v
  | none => df
abbrev ry_cont : Type := (Nat → Int32) ⊕ (Nat → Int64) ⊕ (Nat → UInt32) ⊕ (Nat → UInt64) ⊕ (Nat → Option Nat)
def ry_el (c : ry_cont) (j : Nat) : Value := match c with
  | .inl f => .int (f j)
  | .inr (.inl f) => .long (f j)
  | .inr (.inr (.inl f)) => .float (f j)
  | .inr (.inr (.inr (.inl f))) => .double (f j)
  | .inr (.inr (.inr (.inr f))) => va_rf (f j)
def ry_sh (tc : Nat) (c : ry_cont) : Prop := match tc with
  | 0 => ∃ f, c = .inl f
  | 1 => ∃ f, c = .inl f
  | 2 => ∃ f, c = .inr (.inl f)
  | 3 => ∃ f, c = .inl f
  | 4 => ∃ f, c = .inl f
  | _ + 5 => ∃ f, c = .inr (.inr (.inr (.inr f)))
def ry_ty (cl : List vw_C) (tc : Nat) : FieldType := match tc with
  | 0 => .int
  | 1 => .boolean
  | 2 => .long
  | 3 => .byte
  | 4 => .char
  | n + 5 => .object ((cl[n]?).elim "" (fun q => q.1))
def ry_cell (cl : List vw_C) (tys : List (ClassId × FieldType)) (r : Nat → Int) (ad xa : Nat → Nat) (x : ry_C) (e : va_E) : Prop := match x with
  | .inl (ci, fs) => ∃ vs : List Value, e = .inr (ci, vs) ∧ vs.length = fs.length ∧ ∀ (k : Nat) (f : ry_X), fs[k]? = some f → ∃ w : Value, vs[k]? = some w ∧ ry_ok r ad xa f w
  | .inr (tc, n, df, ov) => ∃ (cA : ClassId) (t0 : Nat) (c : ry_cont), e = .inl (cA, n, c) ∧ tys[t0]? = some (cA, ry_ty cl tc) ∧ ry_sh tc c ∧ ∀ j : Nat, j < n → ry_ok r ad xa (ry_gt ov df j) (ry_el c j)
def ry_csc (N M : Nat) (x : ry_C) : Prop := match x with
  | .inl (_, fs) => ∀ (k : Nat) (f : ry_X), fs[k]? = some f → ry_xsc N M f
  | .inr (_, n, df, ov) => ∀ j : Nat, j < n → ry_xsc N M (ry_gt ov df j)
def ry_sat (I : ry_I) (r : Nat → Int) : Prop := r 0 = 0 ∧ 8 ≤ I.length ∧ ∀ (n : Nat) (lo hi : Int), I[n]? = some (lo, hi) → lo ≤ r n ∧ r n ≤ hi
theorem ry_pos {I : ry_I} {r : Nat → Int} (h : ry_sat I r) : 0 < I.length := Nat.lt_of_lt_of_le (Nat.le_of_ble_eq_true rfl) h.2.1
def ry_fact (r : Nat → Int) (f : Nat × ry_E × ry_E) : Prop := match f.1 with
  | 0 => ry_ev r f.2.1 < ry_ev r f.2.2
  | 1 => ry_ev r f.2.1 ≤ ry_ev r f.2.2
  | 2 => ry_ev r f.2.1 = ry_ev r f.2.2
  | _ => ry_ev r f.2.1 ≠ ry_ev r f.2.2
def ry_fsc (N : Nat) (F : ry_F) : Prop := ∀ f ∈ F, f.2.1.1 < N ∧ f.2.2.1 < N
def ry_facts (F : ry_F) (r : Nat → Int) : Prop := ∀ f ∈ F, ry_fact r f
def ry_same (N : Nat) (r r_p : Nat → Int) : Prop := ∀ n, n < N → r_p n = r n
def ry_sameA (M : Nat) (a a' : Nat → Nat) : Prop := ∀ n, n < M → a' n = a n
/-- the world: the cells ht, at the addresses ad -/
def ry_W (D : va_G) (cl : List vw_C) (A : Nat → Prop) (s : State) (xa : Nat → Nat) (N : Nat) (ht : List ry_C) (r : Nat → Int) (ad : Nat → Nat) (H0 H : Heap) (locs : List Loc) : Prop :=
  ∃ (ws : va_W) (tys : List (ClassId × FieldType)), va_K D cl tys s ∧ va_P D cl ws H ∧ va_D A ws ∧ va_S A H0 H locs ∧ ws.length = ht.length ∧
    ∀ (k : Nat) (x : ry_C), ht[k]? = some x → ry_csc N ht.length x ∧ ∃ e : va_E, ws[k]? = some (ad k, e) ∧ ry_cell cl tys r ad xa x e
-- what stays when symbols and cells come
theorem ry_same.rf {N : Nat} {r : Nat → Int} : ry_same N r r := fun _ _ => rfl
theorem ry_sameA.rf {N : Nat} {r : Nat → Nat} : ry_sameA N r r := fun _ _ => rfl
theorem ry_same.tr {N N' : Nat} {r r_p r2 : Nat → Int} (h : ry_same N r r_p) (h2 : ry_same N' r_p r2) (hN : N ≤ N') : ry_same N r r2 := fun n hn => (h2 n (Nat.lt_of_lt_of_le hn hN)).trans (h n hn)
theorem ry_sameA.tr {N N' : Nat} {r r_p r2 : Nat → Nat} (h : ry_sameA N r r_p) (h2 : ry_sameA N' r_p r2) (hN : N ≤ N') : ry_sameA N r r2 := fun n hn => (h2 n (Nat.lt_of_lt_of_le hn hN)).trans (h n hn)
theorem ry_iv_ext {N M : Nat} {r r_p : Nat → Int} {ad ad' xa : Nat → Nat} {v : ry_V} (h : ry_sc N M v) (hr : ry_same N r r_p) (ha : ry_sameA M ad ad') : ry_iv r_p ad' xa v = ry_iv r ad xa v := by
  match v, h with
  | .inl none, _ => rfl
  | .inl (some k), h => exact congrArg Value.ref (ha k h)
  | .inr (0, e), h =>
    show Value.int (Int32.ofInt (r_p e.1 + e.2)) = Value.int (Int32.ofInt (r e.1 + e.2))
    rw [hr e.1 h]
  | .inr (1, e), h =>
    show Value.long (Int64.ofInt (r_p e.1 + e.2)) = Value.long (Int64.ofInt (r e.1 + e.2))
    rw [hr e.1 h]
  | .inr (_ + 2, e), _ => rfl
theorem ry_sc.mono {N M N' M_p : Nat} {v : ry_V} (h : ry_sc N M v) (hN : N ≤ N') (hM : M ≤ M_p) : ry_sc N' M_p v := by
  match v, h with
  | .inl none, _ => exact trivial
  | .inl (some k), h => exact Nat.lt_of_lt_of_le h hM
  | .inr (_, e), h => exact Nat.lt_of_lt_of_le h hN
theorem ry_xsc.mono {N M N' M_p : Nat} {x : ry_X} (h : ry_xsc N M x) (hN : N ≤ N') (hM : M ≤ M_p) : ry_xsc N' M_p x := by
  match x, h with
  | .inl v, h => exact ry_sc.mono (v := v) h hN hM
  | .inr _, _ => exact trivial
theorem ry_csc.mono {N M N' M_p : Nat} {x : ry_C} (h : ry_csc N M x) (hN : N ≤ N') (hM : M ≤ M_p) : ry_csc N' M_p x := by
  match x, h with
  | .inl (_, fs), h => exact fun k f hk => ry_xsc.mono (h k f hk) hN hM
  | .inr (_, n, df, ov), h => exact fun j hj => ry_xsc.mono (h j hj) hN hM
theorem ry_ok_ext {N M : Nat} {r r_p : Nat → Int} {ad ad' xa : Nat → Nat} {x : ry_X} {w : Value} (h : ry_ok r ad xa x w) (hs : ry_xsc N M x) (hr : ry_same N r r_p) (ha : ry_sameA M ad ad') : ry_ok r_p ad' xa x w := by
  match x, h, hs with
  | .inl v, h, hs => exact h.trans (ry_iv_ext (v := v) hs hr ha).symm
  | .inr (0, lo, hi), h, _ => exact h
  | .inr (_ + 1, lo, hi), h, _ => exact h
theorem ry_cell_ext {N M : Nat} {cl : List vw_C} {tys : List (ClassId × FieldType)} {r r_p : Nat → Int} {ad ad' xa : Nat → Nat} {x : ry_C} {e : va_E} (h : ry_cell cl tys r ad xa x e) (hs : ry_csc N M x) (hr : ry_same N r r_p) (ha : ry_sameA M ad ad') : ry_cell cl tys r_p ad' xa x e := by
  match x, h, hs with
  | .inl (ci, fs), h, hs =>
    obtain ⟨vs, h1, h2, h3⟩ := h
    refine ⟨vs, h1, h2, fun k f hk => ?_⟩
    obtain ⟨w, h4, h5⟩ := h3 k f hk
    exact ⟨w, h4, ry_ok_ext h5 (hs k f hk) hr ha⟩
  | .inr (tc, n, df, ov), h, hs =>
    obtain ⟨cA, t0, c, h1, h2, h3, h4⟩ := h
    exact ⟨cA, t0, c, h1, h2, h3, fun j hj => ry_ok_ext (h4 j hj) (hs j hj) hr ha⟩
theorem ry_cell_tys {cl : List vw_C} {tys t2 : List (ClassId × FieldType)} {r : Nat → Int} {ad xa : Nat → Nat} {x : ry_C} {e : va_E} (h : ry_cell cl tys r ad xa x e) : ry_cell cl (tys ++ t2) r ad xa x e := by
  match x, h with
  | .inl (ci, fs), h => exact h
  | .inr (tc, n, df, ov), h =>
    obtain ⟨cA, t0, c, h1, h2, h3, h4⟩ := h
    exact ⟨cA, t0, c, h1, by rw [List.getElem?_append_left (List.getElem?_eq_some_iff.mp h2).1]; exact h2, h3, h4⟩
theorem ry_fact_ext {N : Nat} {r r_p : Nat → Int} {f : Nat × ry_E × ry_E} (h : ry_fact r f) (h1 : f.2.1.1 < N) (h2 : f.2.2.1 < N) (hr : ry_same N r r_p) : ry_fact r_p f := by
  have e1 : ry_ev r_p f.2.1 = ry_ev r f.2.1 := by unfold ry_ev; rw [hr _ h1]
  have e2 : ry_ev r_p f.2.2 = ry_ev r f.2.2 := by unfold ry_ev; rw [hr _ h2]
  unfold ry_fact at h ⊢
  rw [e1, e2]
  exact h
theorem ry_facts_ext {N : Nat} {r r_p : Nat → Int} {F : ry_F} (h : ry_facts F r) (hs : ry_fsc N F) (hr : ry_same N r r_p) : ry_facts F r_p := fun f hf => ry_fact_ext (h f hf) (hs f hf).1 (hs f hf).2 hr
theorem ry_W.ext {D : va_G} {cl : List vw_C} {A : Nat → Prop} {s : State} {xa : Nat → Nat} {N N' : Nat} {ht : List ry_C} {r r_p : Nat → Int} {ad ad' : Nat → Nat} {H0 H : Heap} {locs : List Loc} (h : ry_W D cl A s xa N ht r ad H0 H locs) (hN : N ≤ N') (hr : ry_same N r r_p) (ha : ry_sameA ht.length ad ad') : ry_W D cl A s xa N' ht r_p ad' H0 H locs := by
  obtain ⟨ws, tys, hK, hP, hD, hS, hl, hc⟩ := h
  refine ⟨ws, tys, hK, hP, hD, hS, hl, fun k x hk => ?_⟩
  obtain ⟨h1, e, h2, h3⟩ := hc k x hk
  have hk2 : k < ht.length := (List.getElem?_eq_some_iff.mp hk).1
  exact ⟨ry_csc.mono h1 hN (Nat.le_refl _), e, by rw [ha k hk2]; exact h2, ry_cell_ext h3 h1 hr ha⟩
/-- one more symbol -/
def ry_up (r : Nat → Int) (n : Nat) (z : Int) : Nat → Int := fun j => if j = n then z else r j
theorem ry_up_self {r : Nat → Int} {n : Nat} {z : Int} : ry_up r n z n = z := by simp [ry_up]
theorem ry_up_same {r : Nat → Int} {n : Nat} {z : Int} : ry_same n r (ry_up r n z) := fun j hj => by
  unfold ry_up
  rw [if_neg (Nat.ne_of_lt hj)]
theorem ry_sat_up {I : ry_I} {r : Nat → Int} {z lo hi : Int} (h : ry_sat I r) (h1 : lo ≤ z) (h2 : z ≤ hi) : ry_sat (I ++ [(lo, hi)]) (ry_up r I.length z) := by
  refine ⟨(ry_up_same 0 (ry_pos h)).trans h.1, by rw [List.length_append]; exact Nat.le_trans h.2.1 (Nat.le_add_right _ _), ?_⟩
  intro n a b hn
  by_cases hl : n < I.length
  · rw [List.getElem?_append_left hl] at hn
    rw [ry_up_same n hl]
    exact h.2.2 n a b hn
  · rw [List.getElem?_append_right (Nat.not_lt.mp hl)] at hn
    have hz : n - I.length < 1 := (List.getElem?_eq_some_iff.mp hn).1
    have e : n = I.length := by omega
    subst e
    rw [Nat.sub_self] at hn
    cases hn
    rw [ry_up_self]
    exact ⟨h1, h2⟩
-- numbers
theorem ry_i32 {z : Int} (h1 : -2147483648 ≤ z) (h2 : z ≤ 2147483647) : (Int32.ofInt z).toInt = z := Int32.toInt_ofInt_of_le (by omega) (by omega)
theorem ry_i64 {z : Int} (h1 : -9223372036854775808 ≤ z) (h2 : z ≤ 9223372036854775807) : (Int64.ofInt z).toInt = z := Int64.toInt_ofInt_of_le (by omega) (by omega)
theorem ry_b32 (x : Int32) : -2147483648 ≤ x.toInt ∧ x.toInt ≤ 2147483647 := by
  have h1 := x.toInt_lt
  have h2 := x.le_toInt
  omega
theorem ry_b64 (x : Int64) : -9223372036854775808 ≤ x.toInt ∧ x.toInt ≤ 9223372036854775807 := by
  have h1 := x.toInt_lt
  have h2 := x.le_toInt
  omega
-- bounds of a number
def ry_bd (I : ry_I) (e : ry_E) : Option (Int × Int) := match I[e.1]? with
  | some (lo, hi) => some (lo + e.2, hi + e.2)
  | none => none
theorem ry_bd_ok {I : ry_I} {e : ry_E} {lo hi : Int} {r : Nat → Int} (h : ry_sat I r) (hb : ry_bd I e = some (lo, hi)) : lo ≤ ry_ev r e ∧ ry_ev r e ≤ hi ∧ e.1 < I.length := by
  unfold ry_bd at hb
  split at hb
  · rename_i a b he
    cases hb
    have := h.2.2 _ _ _ he
    unfold ry_ev
    refine ⟨by omega, by omega, (List.getElem?_eq_some_iff.mp he).1⟩
  · cases hb
/-- bounds of an int: those of its number, where it fits -/
def ry_bi (I : ry_I) (e : ry_E) : Option (Int × Int) := match ry_bd I e with
  | some (lo, hi) => if -2147483648 ≤ lo ∧ hi ≤ 2147483647 then some (lo, hi) else none
  | none => none
theorem ry_bi_ok {I : ry_I} {e : ry_E} {lo hi : Int} {r : Nat → Int} (h : ry_sat I r) (hb : ry_bi I e = some (lo, hi)) : lo ≤ ry_ev r e ∧ ry_ev r e ≤ hi ∧ (Int32.ofInt (ry_ev r e)).toInt = ry_ev r e ∧ e.1 < I.length := by
  unfold ry_bi at hb
  split at hb
  · rename_i a b he
    split at hb
    · rename_i hc
      cases hb
      obtain ⟨h1, h2, h3⟩ := ry_bd_ok h he
      exact ⟨h1, h2, ry_i32 (by omega) (by omega), h3⟩
    · cases hb
  · cases hb
def ry_bl (I : ry_I) (e : ry_E) : Option (Int × Int) := match ry_bd I e with
  | some (lo, hi) => if -9223372036854775808 ≤ lo ∧ hi ≤ 9223372036854775807 then some (lo, hi) else none
  | none => none
theorem ry_bl_ok {I : ry_I} {e : ry_E} {lo hi : Int} {r : Nat → Int} (h : ry_sat I r) (hb : ry_bl I e = some (lo, hi)) : lo ≤ ry_ev r e ∧ ry_ev r e ≤ hi ∧ (Int64.ofInt (ry_ev r e)).toInt = ry_ev r e ∧ e.1 < I.length := by
  unfold ry_bl at hb
  split at hb
  · rename_i a b he
    split at hb
    · rename_i hc
      cases hb
      obtain ⟨h1, h2, h3⟩ := ry_bd_ok h he
      exact ⟨h1, h2, ry_i64 (by omega) (by omega), h3⟩
    · cases hb
  · cases hb
-- what is learnt of a symbol
def ry_cap (I : ry_I) (n : Nat) (a b : Int) : ry_I := match I[n]? with
  | some (lo, hi) => I.set n (if a ≤ lo then lo else a, if hi ≤ b then hi else b)
  | none => I
theorem ry_cap_len {I : ry_I} {n : Nat} {a b : Int} : (ry_cap I n a b).length = I.length := by
  unfold ry_cap
  split <;> simp
theorem ry_cap_ok {I : ry_I} {n : Nat} {a b : Int} {r : Nat → Int} (h : ry_sat I r) (h1 : a ≤ r n) (h2 : r n ≤ b) : ry_sat (ry_cap I n a b) r := by
  unfold ry_cap
  split
  · rename_i lo hi he
    refine ⟨h.1, by rw [List.length_set]; exact h.2.1, ?_⟩
    intro j x y hj
    by_cases hjn : j = n
    · subst hjn
      rw [List.getElem?_set_self (List.getElem?_eq_some_iff.mp he).1] at hj
      cases hj
      have := h.2.2 _ _ _ he
      refine ⟨?_, ?_⟩
      · split <;> omega
      · split <;> omega
    · rw [List.getElem?_set_ne (Ne.symm hjn)] at hj
      exact h.2.2 j x y hj
  · exact h
/-- can there be such a number at all -/
def ry_can (I : ry_I) (n : Nat) : Bool := match I[n]? with
  | some (lo, hi) => decide (lo ≤ hi)
  | none => true
theorem ry_can_ok {I : ry_I} {n : Nat} {r : Nat → Int} (h : ry_sat I r) : ry_can I n = true := by
  unfold ry_can
  split
  · rename_i lo hi he
    have := h.2.2 _ _ _ he
    exact decide_eq_true (by omega)
  · rfl
/-- facts that can't be beside a new one -/
def ry_no (c : Nat) (a b : ry_E) (f : Nat × ry_E × ry_E) : Bool :=
  -- f: x < y or x ≤ y or x = y with x over b's symbol, y over a's: then b - x.2 .. : is a < b (0), a ≤ b (1), a = b (2) out
  if f.2.1.1 == b.1 && f.2.2.1 == a.1 then
    match f.1, c with
    | 0, 0 => decide (b.2 - f.2.1.2 ≤ a.2 - f.2.2.2 + 1)
    | 0, 1 => decide (b.2 - f.2.1.2 ≤ a.2 - f.2.2.2)
    | 0, 2 => decide (b.2 - f.2.1.2 ≤ a.2 - f.2.2.2)
    | 1, 0 => decide (b.2 - f.2.1.2 ≤ a.2 - f.2.2.2)
    | 1, 1 => decide (b.2 - f.2.1.2 < a.2 - f.2.2.2)
    | 1, 2 => decide (b.2 - f.2.1.2 < a.2 - f.2.2.2)
    | 2, 0 => decide (b.2 - f.2.1.2 ≤ a.2 - f.2.2.2)
    | 2, 1 => decide (b.2 - f.2.1.2 < a.2 - f.2.2.2)
    | 2, 2 => decide (¬ b.2 - f.2.1.2 = a.2 - f.2.2.2)
    | 2, 3 => decide (b.2 - f.2.1.2 = a.2 - f.2.2.2)
    | 3, 2 => decide (b.2 - f.2.1.2 = a.2 - f.2.2.2)
    | _, _ => false
  else false
theorem ry_no_ok {c : Nat} {a b : ry_E} {f : Nat × ry_E × ry_E} {r : Nat → Int} (hc : c ≤ 3) (hf : ry_fact r f) (hn : ry_fact r (c, a, b)) : ry_no c a b f = false := by
  obtain ⟨k, ⟨xn, xc⟩, ⟨yn, yc⟩⟩ := f
  obtain ⟨an, ac⟩ := a
  obtain ⟨bn, bc⟩ := b
  unfold ry_no
  split
  · rename_i he
    simp only [Bool.and_eq_true, beq_iff_eq] at he
    obtain ⟨e1, e2⟩ := he
    subst e1; subst e2
    rcases (show c = 0 ∨ c = 1 ∨ c = 2 ∨ c = 3 by omega) with rfl | rfl | rfl | rfl <;> rcases (show k = 0 ∨ k = 1 ∨ k = 2 ∨ k = 3 ∨ 4 ≤ k by omega) with rfl | rfl | rfl | rfl | hk <;> first
      | rfl
      | (obtain ⟨j, rfl⟩ := Nat.exists_eq_add_of_le hk
         rw [Nat.add_comm]
         rfl)
      | (first
          | have g1 : r xn + xc < r yn + yc := hf
          | have g1 : r xn + xc ≤ r yn + yc := hf
          | have g1 : r xn + xc = r yn + yc := hf
          | have g1 : r xn + xc ≠ r yn + yc := hf
         first
          | have g2 : r yn + ac < r xn + bc := hn
          | have g2 : r yn + ac ≤ r xn + bc := hn
          | have g2 : r yn + ac = r xn + bc := hn
          | have g2 : r yn + ac ≠ r xn + bc := hn
         exact decide_eq_false (by dsimp only; omega))
  · rfl
/-- is a relation to be had of the offsets alone -/
def ry_rel (c : Nat) (x y : Int) : Bool := match c with
  | 0 => decide (x < y)
  | 1 => decide (x ≤ y)
  | 2 => decide (x = y)
  | _ => decide (¬ x = y)
/-- what follows of a relation: none, if it can't be; the bounds of both numbers come with it -/
def ry_asmI (I : ry_I) (c : Nat) (a b : ry_E) (al ah bl bh : Int) : ry_I := match c with
  | 0 => ry_cap (ry_cap I a.1 (al - a.2) (bh - 1 - a.2)) b.1 (al + 1 - b.2) (bh - b.2)
  | 1 => ry_cap (ry_cap I a.1 (al - a.2) (bh - a.2)) b.1 (al - b.2) (bh - b.2)
  | 2 => ry_cap (ry_cap I a.1 (bl - a.2) (bh - a.2)) b.1 (al - b.2) (ah - b.2)
  | _ => if bl = bh then (if al = bl then ry_cap I a.1 (al + 1 - a.2) (ah - a.2) else if ah = bl then ry_cap I a.1 (al - a.2) (ah - 1 - a.2) else I)
    else if al = ah then (if bl = al then ry_cap I b.1 (bl + 1 - b.2) (bh - b.2) else if bh = al then ry_cap I b.1 (bl - b.2) (bh - 1 - b.2) else I) else I
/-- a fact once more, over what is known now -/
def ry_prop (I : ry_I) (f : Nat × ry_E × ry_E) : ry_I := match ry_bd I f.2.1, ry_bd I f.2.2 with
  | some (al, ah), some (bl, bh) => if f.1 ≤ 3 then ry_asmI I f.1 f.2.1 f.2.2 al ah bl bh else I
  | _, _ => I
def ry_asm2 (I : ry_I) (F : ry_F) (c : Nat) (a b : ry_E) : Option (ry_I × ry_F) :=
  if ry_can I a.1 && ry_can I b.1 then some (I, if c = 3 ∨ (¬ a.1 = 0 ∧ ¬ b.1 = 0) then (c, a, b) :: F else F) else none
def ry_asm (I : ry_I) (F : ry_F) (c : Nat) (a b : ry_E) (al ah bl bh : Int) : Option (ry_I × ry_F) :=
  if a.1 = b.1 then (if ry_rel c a.2 b.2 then some (I, F) else none)
  else if F.any (ry_no c a b) || ((c == 2 || c == 3) && F.any (ry_no c b a)) then none
  else ry_asm2 (F.foldl ry_prop (ry_asmI I c a b al ah bl bh)) F c a b
theorem ry_asmI_ok {I : ry_I} {c : Nat} {a b : ry_E} {al ah bl bh : Int} {r : Nat → Int} (hc : c ≤ 3) (h : ry_sat I r) (h1 : al ≤ ry_ev r a ∧ ry_ev r a ≤ ah) (h2 : bl ≤ ry_ev r b ∧ ry_ev r b ≤ bh) (hf : ry_fact r (c, a, b)) : ry_sat (ry_asmI I c a b al ah bl bh) r ∧ (ry_asmI I c a b al ah bl bh).length = I.length := by
  obtain ⟨an, ac⟩ := a
  obtain ⟨bn, bc⟩ := b
  have e1 : al ≤ r an + ac ∧ r an + ac ≤ ah := h1
  have e2 : bl ≤ r bn + bc ∧ r bn + bc ≤ bh := h2
  rcases (show c = 0 ∨ c = 1 ∨ c = 2 ∨ c = 3 by omega) with rfl | rfl | rfl | rfl
  · have g : r an + ac < r bn + bc := hf
    exact ⟨ry_cap_ok (ry_cap_ok h (by dsimp only; omega) (by dsimp only; omega)) (by dsimp only; omega) (by dsimp only; omega), ry_cap_len.trans ry_cap_len⟩
  · have g : r an + ac ≤ r bn + bc := hf
    exact ⟨ry_cap_ok (ry_cap_ok h (by dsimp only; omega) (by dsimp only; omega)) (by dsimp only; omega) (by dsimp only; omega), ry_cap_len.trans ry_cap_len⟩
  · have g : r an + ac = r bn + bc := hf
    exact ⟨ry_cap_ok (ry_cap_ok h (by dsimp only; omega) (by dsimp only; omega)) (by dsimp only; omega) (by dsimp only; omega), ry_cap_len.trans ry_cap_len⟩
  · have g : r an + ac ≠ r bn + bc := hf
    show ry_sat (if bl = bh then _ else _) r ∧ (if bl = bh then _ else _ : ry_I).length = I.length
    split
    · split
      · exact ⟨ry_cap_ok h (by dsimp only; omega) (by dsimp only; omega), ry_cap_len⟩
      · split
        · exact ⟨ry_cap_ok h (by dsimp only; omega) (by dsimp only; omega), ry_cap_len⟩
        · exact ⟨h, rfl⟩
    · split
      · split
        · exact ⟨ry_cap_ok h (by dsimp only; omega) (by dsimp only; omega), ry_cap_len⟩
        · split
          · exact ⟨ry_cap_ok h (by dsimp only; omega) (by dsimp only; omega), ry_cap_len⟩
          · exact ⟨h, rfl⟩
      · exact ⟨h, rfl⟩
theorem ry_prop_ok {I : ry_I} {f : Nat × ry_E × ry_E} {r : Nat → Int} (h : ry_sat I r) (hf : ry_fact r f) : ry_sat (ry_prop I f) r ∧ (ry_prop I f).length = I.length := by
  unfold ry_prop
  split
  · rename_i al ah bl bh e1 e2
    split
    · rename_i hc
      have q1 := ry_bd_ok h e1
      have q2 := ry_bd_ok h e2
      exact ry_asmI_ok hc h ⟨q1.1, q1.2.1⟩ ⟨q2.1, q2.2.1⟩ hf
    · exact ⟨h, rfl⟩
  · exact ⟨h, rfl⟩
theorem ry_prop_all {r : Nat → Int} : ∀ (F : ry_F) {I : ry_I}, ry_sat I r → ry_facts F r → ry_sat (F.foldl ry_prop I) r ∧ (F.foldl ry_prop I).length = I.length
  | [], _, h, _ => ⟨h, rfl⟩
  | f :: F, I, h, hF => by
    obtain ⟨h1, h2⟩ := ry_prop_ok (f := f) h (hF f List.mem_cons_self)
    obtain ⟨h3, h4⟩ := ry_prop_all F h1 (fun g hg => hF g (List.mem_cons_of_mem _ hg))
    exact ⟨h3, h4.trans h2⟩
/-- a number of which just one is possible is that one -/
def ry_nm (I : ry_I) (e : ry_E) : ry_E := match I[e.1]? with
  | some (lo, hi) => if lo = hi then (0, lo + e.2) else e
  | none => e
theorem ry_nm_ok {I : ry_I} {e : ry_E} {r : Nat → Int} (h : ry_sat I r) : ry_ev r (ry_nm I e) = ry_ev r e ∧ (e.1 < I.length → (ry_nm I e).1 < I.length) := by
  unfold ry_nm
  split
  · rename_i lo hi he
    split
    · rename_i hc
      have := h.2.2 _ _ _ he
      refine ⟨?_, fun _ => ry_pos h⟩
      unfold ry_ev
      dsimp only
      rw [h.1]
      omega
    · exact ⟨rfl, id⟩
  · exact ⟨rfl, id⟩
theorem ry_rel_ok {c : Nat} {a b : ry_E} {r : Nat → Int} (hc : c ≤ 3) (hab : a.1 = b.1) (hf : ry_fact r (c, a, b)) : ry_rel c a.2 b.2 = true := by
  obtain ⟨an, ac⟩ := a
  obtain ⟨bn, bc⟩ := b
  have e : an = bn := hab
  subst e
  rcases (show c = 0 ∨ c = 1 ∨ c = 2 ∨ c = 3 by omega) with rfl | rfl | rfl | rfl
  · have g : r an + ac < r an + bc := hf
    exact decide_eq_true (by dsimp only; omega)
  · have g : r an + ac ≤ r an + bc := hf
    exact decide_eq_true (by dsimp only; omega)
  · have g : r an + ac = r an + bc := hf
    exact decide_eq_true (by dsimp only; omega)
  · have g : r an + ac ≠ r an + bc := hf
    exact decide_eq_true (by dsimp only; omega)
theorem ry_fact_sym {c : Nat} {a b : ry_E} {r : Nat → Int} (hc : c = 2 ∨ c = 3) (hf : ry_fact r (c, a, b)) : ry_fact r (c, b, a) := by
  rcases hc with rfl | rfl
  · exact Eq.symm (a := ry_ev r a) (b := ry_ev r b) hf
  · exact Ne.symm (a := ry_ev r a) (b := ry_ev r b) hf
theorem ry_asm_ok {I : ry_I} {F : ry_F} {c : Nat} {a b : ry_E} {al ah bl bh : Int} {r : Nat → Int} {N : Nat} (hc : c ≤ 3) (h : ry_sat I r) (hF : ry_facts F r) (hs : ry_fsc N F) (ha : a.1 < N) (hb : b.1 < N) (h1 : al ≤ ry_ev r a ∧ ry_ev r a ≤ ah) (h2 : bl ≤ ry_ev r b ∧ ry_ev r b ≤ bh) (hf : ry_fact r (c, a, b)) : ∃ (I2 : ry_I) (F2 : ry_F), ry_asm I F c a b al ah bl bh = some (I2, F2) ∧ ry_sat I2 r ∧ ry_facts F2 r ∧ ry_fsc N F2 ∧ I2.length = I.length := by
  unfold ry_asm
  split
  · rename_i hab
    rw [if_pos (ry_rel_ok hc hab hf)]
    exact ⟨I, F, rfl, h, hF, hs, rfl⟩
  · have hn : (F.any (ry_no c a b) || ((c == 2 || c == 3) && F.any (ry_no c b a))) = false := by
      rw [Bool.or_eq_false_iff]
      refine ⟨List.any_eq_false.mpr fun f hf2 => by rw [ry_no_ok hc (hF f hf2) hf]; exact Bool.false_ne_true, ?_⟩
      by_cases hcc : c = 2 ∨ c = 3
      · have : F.any (ry_no c b a) = false := List.any_eq_false.mpr fun f hf2 => by rw [ry_no_ok hc (hF f hf2) (ry_fact_sym hcc hf)]; exact Bool.false_ne_true
        rw [this, Bool.and_false]
      · have : (c == 2 || c == 3) = false := by
          rw [Bool.or_eq_false_iff]
          exact ⟨beq_false_of_ne fun q => hcc (Or.inl q), beq_false_of_ne fun q => hcc (Or.inr q)⟩
        rw [this, Bool.false_and]
    rw [hn]
    obtain ⟨g1, g2⟩ := ry_asmI_ok (I := I) hc h h1 h2 hf
    obtain ⟨k1, k2⟩ := ry_prop_all F g1 hF
    rw [if_neg Bool.false_ne_true]
    unfold ry_asm2
    rw [ry_can_ok k1, ry_can_ok k1]
    refine ⟨_, _, rfl, k1, ?_, ?_, k2.trans g2⟩
    · split
      · intro f hf2
        rcases List.mem_cons.mp hf2 with e | e
        · subst e; exact hf
        · exact hF f e
      · exact hF
    · split
      · intro f hf2
        rcases List.mem_cons.mp hf2 with e | e
        · subst e; exact ⟨ha, hb⟩
        · exact hs f e
      · exact hs
