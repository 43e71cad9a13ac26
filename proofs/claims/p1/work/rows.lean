section
/-! A REFLECTED MACHINE, part 1: numbers by symbols, values, cells; what they are worth. Symbol + offset is a number; symbol 0 is worth 0. -/
abbrev rx_E : Type := Nat × Int
/-- null, a cell by its place | kind (0 int, 1 long, 2 a cell outside, by its place) and number -/
abbrev rx_V : Type := Option Nat ⊕ (Nat × rx_E)
/-- a known value | a kind and bounds -/
abbrev rx_X : Type := rx_V ⊕ (Nat × Int × Int)
abbrev rx_I : Type := List (Int × Int)
/-- facts: 0 <, 1 ≤, 2 =, 3 ≠ -/
abbrev rx_F : Type := List (Nat × rx_E × rx_E)
/-- a row: kind of its entries (0 int, 1 boolean, 2 long, 3 byte, 4 char, 5 + class), length, what an entry is, what some are -/
abbrev rx_A : Type := Nat × Nat × rx_X × List (Nat × rx_V)
abbrev rx_C : Type := (Nat × List rx_X) ⊕ rx_A
def rx_ev (r : Nat → Int) (e : rx_E) : Int := r e.1 + e.2
def rx_iv (r : Nat → Int) (ad xa : Nat → Nat) (v : rx_V) : Value := match v with
  | .inl none => .null
  | .inl (some k) => .ref (ad k)
  | .inr (0, e) => .int (Int32.ofInt (rx_ev r e))
  | .inr (1, e) => .long (Int64.ofInt (rx_ev r e))
  | .inr (_ + 2, e) => .ref (xa e.2.toNat)
/-- a value speaks of N symbols, of M cells alone -/
def rx_sc (N M : Nat) (v : rx_V) : Prop := match v with
  | .inl none => True
  | .inl (some k) => k < M
  | .inr (_, e) => e.1 < N
def rx_ok (r : Nat → Int) (ad xa : Nat → Nat) (x : rx_X) (w : Value) : Prop := match x with
  | .inl v => w = rx_iv r ad xa v
  | .inr (0, lo, hi) => ∃ i : Int32, w = .int i ∧ lo ≤ i.toInt ∧ i.toInt ≤ hi
  | .inr (_ + 1, lo, hi) => ∃ i : Int64, w = .long i ∧ lo ≤ i.toInt ∧ i.toInt ≤ hi
def rx_xsc (N M : Nat) (x : rx_X) : Prop := match x with
  | .inl v => rx_sc N M v
  | .inr _ => True
def rx_lk : List (Nat × rx_V) → Nat → Option rx_V
  | [], _ => none
  | q :: l, i => if q.1 = i then some q.2 else rx_lk l i
theorem rx_lk_mem : ∀ {l : List (Nat × rx_V)} {i : Nat} {v : rx_V}, rx_lk l i = some v → (i, v) ∈ l
  | [], _, _, h => by cases h
  | q :: l, i, v, h => by
    rw [rx_lk] at h
    split at h
    · rename_i e
      cases h
      subst e
      exact List.mem_cons_self
    · exact List.mem_cons_of_mem _ (rx_lk_mem h)
def rx_gt (ov : List (Nat × rx_V)) (df : rx_X) (j : Nat) : rx_X := match rx_lk ov j with
  | some v => .inl v
  | none => df
abbrev rx_cont : Type := (Nat → Int32) ⊕ (Nat → Int64) ⊕ (Nat → UInt32) ⊕ (Nat → UInt64) ⊕ (Nat → Option Nat)
def rx_el (c : rx_cont) (j : Nat) : Value := match c with
  | .inl f => .int (f j)
  | .inr (.inl f) => .long (f j)
  | .inr (.inr (.inl f)) => .float (f j)
  | .inr (.inr (.inr (.inl f))) => .double (f j)
  | .inr (.inr (.inr (.inr f))) => va_rf (f j)
def rx_sh (tc : Nat) (c : rx_cont) : Prop := match tc with
  | 0 => ∃ f, c = .inl f
  | 1 => ∃ f, c = .inl f
  | 2 => ∃ f, c = .inr (.inl f)
  | 3 => ∃ f, c = .inl f
  | 4 => ∃ f, c = .inl f
  | _ + 5 => ∃ f, c = .inr (.inr (.inr (.inr f)))
def rx_ty (cl : List vw_C) (tc : Nat) : FieldType := match tc with
  | 0 => .int
  | 1 => .boolean
  | 2 => .long
  | 3 => .byte
  | 4 => .char
  | n + 5 => .object ((cl[n]?).elim "" (fun q => q.1))
def rx_cell (cl : List vw_C) (tys : List (ClassId × FieldType)) (r : Nat → Int) (ad xa : Nat → Nat) (x : rx_C) (e : va_E) : Prop := match x with
  | .inl (ci, fs) => ∃ vs : List Value, e = .inr (ci, vs) ∧ vs.length = fs.length ∧ ∀ (k : Nat) (f : rx_X), fs[k]? = some f → ∃ w : Value, vs[k]? = some w ∧ rx_ok r ad xa f w
  | .inr (tc, n, df, ov) => ∃ (cA : ClassId) (t0 : Nat) (c : rx_cont), e = .inl (cA, n, c) ∧ tys[t0]? = some (cA, rx_ty cl tc) ∧ rx_sh tc c ∧ ∀ j : Nat, j < n → rx_ok r ad xa (rx_gt ov df j) (rx_el c j)
def rx_csc (N M : Nat) (x : rx_C) : Prop := match x with
  | .inl (_, fs) => ∀ (k : Nat) (f : rx_X), fs[k]? = some f → rx_xsc N M f
  | .inr (_, n, df, ov) => ∀ j : Nat, j < n → rx_xsc N M (rx_gt ov df j)
def rx_sat (I : rx_I) (r : Nat → Int) : Prop := r 0 = 0 ∧ 8 ≤ I.length ∧ ∀ (n : Nat) (lo hi : Int), I[n]? = some (lo, hi) → lo ≤ r n ∧ r n ≤ hi
theorem rx_pos {I : rx_I} {r : Nat → Int} (h : rx_sat I r) : 0 < I.length := Nat.lt_of_lt_of_le (Nat.le_of_ble_eq_true rfl) h.2.1
def rx_fact (r : Nat → Int) (f : Nat × rx_E × rx_E) : Prop := match f.1 with
  | 0 => rx_ev r f.2.1 < rx_ev r f.2.2
  | 1 => rx_ev r f.2.1 ≤ rx_ev r f.2.2
  | 2 => rx_ev r f.2.1 = rx_ev r f.2.2
  | _ => rx_ev r f.2.1 ≠ rx_ev r f.2.2
def rx_fsc (N : Nat) (F : rx_F) : Prop := ∀ f ∈ F, f.2.1.1 < N ∧ f.2.2.1 < N
def rx_facts (F : rx_F) (r : Nat → Int) : Prop := ∀ f ∈ F, rx_fact r f
def rx_same (N : Nat) (r r' : Nat → Int) : Prop := ∀ n, n < N → r' n = r n
def rx_sameA (M : Nat) (a a' : Nat → Nat) : Prop := ∀ n, n < M → a' n = a n
/-- the world: the cells ht, at the addresses ad -/
def rx_W (D : va_G) (cl : List vw_C) (A : Nat → Prop) (s : State) (xa : Nat → Nat) (N : Nat) (ht : List rx_C) (r : Nat → Int) (ad : Nat → Nat) (H0 H : Heap) (locs : List Loc) : Prop :=
  ∃ (ws : va_W) (tys : List (ClassId × FieldType)), va_K D cl tys s ∧ va_P D cl ws H ∧ va_D A ws ∧ va_S A H0 H locs ∧ ws.length = ht.length ∧
    ∀ (k : Nat) (x : rx_C), ht[k]? = some x → rx_csc N ht.length x ∧ ∃ e : va_E, ws[k]? = some (ad k, e) ∧ rx_cell cl tys r ad xa x e
-- what stays when symbols and cells come
theorem rx_same.rf {N : Nat} {r : Nat → Int} : rx_same N r r := fun _ _ => rfl
theorem rx_sameA.rf {N : Nat} {r : Nat → Nat} : rx_sameA N r r := fun _ _ => rfl
theorem rx_same.tr {N N' : Nat} {r r' r2 : Nat → Int} (h : rx_same N r r') (h2 : rx_same N' r' r2) (hN : N ≤ N') : rx_same N r r2 := fun n hn => (h2 n (Nat.lt_of_lt_of_le hn hN)).trans (h n hn)
theorem rx_sameA.tr {N N' : Nat} {r r' r2 : Nat → Nat} (h : rx_sameA N r r') (h2 : rx_sameA N' r' r2) (hN : N ≤ N') : rx_sameA N r r2 := fun n hn => (h2 n (Nat.lt_of_lt_of_le hn hN)).trans (h n hn)
theorem rx_iv_ext {N M : Nat} {r r' : Nat → Int} {ad ad' xa : Nat → Nat} {v : rx_V} (h : rx_sc N M v) (hr : rx_same N r r') (ha : rx_sameA M ad ad') : rx_iv r' ad' xa v = rx_iv r ad xa v := by
  match v, h with
  | .inl none, _ => rfl
  | .inl (some k), h => exact congrArg Value.ref (ha k h)
  | .inr (0, e), h =>
    show Value.int (Int32.ofInt (r' e.1 + e.2)) = Value.int (Int32.ofInt (r e.1 + e.2))
    rw [hr e.1 h]
  | .inr (1, e), h =>
    show Value.long (Int64.ofInt (r' e.1 + e.2)) = Value.long (Int64.ofInt (r e.1 + e.2))
    rw [hr e.1 h]
  | .inr (_ + 2, e), _ => rfl
theorem rx_sc.mono {N M N' M' : Nat} {v : rx_V} (h : rx_sc N M v) (hN : N ≤ N') (hM : M ≤ M') : rx_sc N' M' v := by
  match v, h with
  | .inl none, _ => exact trivial
  | .inl (some k), h => exact Nat.lt_of_lt_of_le h hM
  | .inr (_, e), h => exact Nat.lt_of_lt_of_le h hN
theorem rx_xsc.mono {N M N' M' : Nat} {x : rx_X} (h : rx_xsc N M x) (hN : N ≤ N') (hM : M ≤ M') : rx_xsc N' M' x := by
  match x, h with
  | .inl v, h => exact rx_sc.mono (v := v) h hN hM
  | .inr _, _ => exact trivial
theorem rx_csc.mono {N M N' M' : Nat} {x : rx_C} (h : rx_csc N M x) (hN : N ≤ N') (hM : M ≤ M') : rx_csc N' M' x := by
  match x, h with
  | .inl (_, fs), h => exact fun k f hk => rx_xsc.mono (h k f hk) hN hM
  | .inr (_, n, df, ov), h => exact fun j hj => rx_xsc.mono (h j hj) hN hM
theorem rx_ok_ext {N M : Nat} {r r' : Nat → Int} {ad ad' xa : Nat → Nat} {x : rx_X} {w : Value} (h : rx_ok r ad xa x w) (hs : rx_xsc N M x) (hr : rx_same N r r') (ha : rx_sameA M ad ad') : rx_ok r' ad' xa x w := by
  match x, h, hs with
  | .inl v, h, hs => exact h.trans (rx_iv_ext (v := v) hs hr ha).symm
  | .inr (0, lo, hi), h, _ => exact h
  | .inr (_ + 1, lo, hi), h, _ => exact h
theorem rx_cell_ext {N M : Nat} {cl : List vw_C} {tys : List (ClassId × FieldType)} {r r' : Nat → Int} {ad ad' xa : Nat → Nat} {x : rx_C} {e : va_E} (h : rx_cell cl tys r ad xa x e) (hs : rx_csc N M x) (hr : rx_same N r r') (ha : rx_sameA M ad ad') : rx_cell cl tys r' ad' xa x e := by
  match x, h, hs with
  | .inl (ci, fs), h, hs =>
    obtain ⟨vs, h1, h2, h3⟩ := h
    refine ⟨vs, h1, h2, fun k f hk => ?_⟩
    obtain ⟨w, h4, h5⟩ := h3 k f hk
    exact ⟨w, h4, rx_ok_ext h5 (hs k f hk) hr ha⟩
  | .inr (tc, n, df, ov), h, hs =>
    obtain ⟨cA, t0, c, h1, h2, h3, h4⟩ := h
    exact ⟨cA, t0, c, h1, h2, h3, fun j hj => rx_ok_ext (h4 j hj) (hs j hj) hr ha⟩
theorem rx_cell_tys {cl : List vw_C} {tys t2 : List (ClassId × FieldType)} {r : Nat → Int} {ad xa : Nat → Nat} {x : rx_C} {e : va_E} (h : rx_cell cl tys r ad xa x e) : rx_cell cl (tys ++ t2) r ad xa x e := by
  match x, h with
  | .inl (ci, fs), h => exact h
  | .inr (tc, n, df, ov), h =>
    obtain ⟨cA, t0, c, h1, h2, h3, h4⟩ := h
    exact ⟨cA, t0, c, h1, by rw [List.getElem?_append_left (List.getElem?_eq_some_iff.mp h2).1]; exact h2, h3, h4⟩
theorem rx_fact_ext {N : Nat} {r r' : Nat → Int} {f : Nat × rx_E × rx_E} (h : rx_fact r f) (h1 : f.2.1.1 < N) (h2 : f.2.2.1 < N) (hr : rx_same N r r') : rx_fact r' f := by
  have e1 : rx_ev r' f.2.1 = rx_ev r f.2.1 := by unfold rx_ev; rw [hr _ h1]
  have e2 : rx_ev r' f.2.2 = rx_ev r f.2.2 := by unfold rx_ev; rw [hr _ h2]
  unfold rx_fact at h ⊢
  rw [e1, e2]
  exact h
theorem rx_facts_ext {N : Nat} {r r' : Nat → Int} {F : rx_F} (h : rx_facts F r) (hs : rx_fsc N F) (hr : rx_same N r r') : rx_facts F r' := fun f hf => rx_fact_ext (h f hf) (hs f hf).1 (hs f hf).2 hr
theorem rx_W.ext {D : va_G} {cl : List vw_C} {A : Nat → Prop} {s : State} {xa : Nat → Nat} {N N' : Nat} {ht : List rx_C} {r r' : Nat → Int} {ad ad' : Nat → Nat} {H0 H : Heap} {locs : List Loc} (h : rx_W D cl A s xa N ht r ad H0 H locs) (hN : N ≤ N') (hr : rx_same N r r') (ha : rx_sameA ht.length ad ad') : rx_W D cl A s xa N' ht r' ad' H0 H locs := by
  obtain ⟨ws, tys, hK, hP, hD, hS, hl, hc⟩ := h
  refine ⟨ws, tys, hK, hP, hD, hS, hl, fun k x hk => ?_⟩
  obtain ⟨h1, e, h2, h3⟩ := hc k x hk
  have hk2 : k < ht.length := (List.getElem?_eq_some_iff.mp hk).1
  exact ⟨rx_csc.mono h1 hN (Nat.le_refl _), e, by rw [ha k hk2]; exact h2, rx_cell_ext h3 h1 hr ha⟩
/-- one more symbol -/
def rx_up (r : Nat → Int) (n : Nat) (z : Int) : Nat → Int := fun j => if j = n then z else r j
theorem rx_up_self {r : Nat → Int} {n : Nat} {z : Int} : rx_up r n z n = z := by simp [rx_up]
theorem rx_up_same {r : Nat → Int} {n : Nat} {z : Int} : rx_same n r (rx_up r n z) := fun j hj => by
  unfold rx_up
  rw [if_neg (Nat.ne_of_lt hj)]
theorem rx_sat_up {I : rx_I} {r : Nat → Int} {z lo hi : Int} (h : rx_sat I r) (h1 : lo ≤ z) (h2 : z ≤ hi) : rx_sat (I ++ [(lo, hi)]) (rx_up r I.length z) := by
  refine ⟨(rx_up_same 0 (rx_pos h)).trans h.1, by rw [List.length_append]; exact Nat.le_trans h.2.1 (Nat.le_add_right _ _), ?_⟩
  intro n a b hn
  by_cases hl : n < I.length
  · rw [List.getElem?_append_left hl] at hn
    rw [rx_up_same n hl]
    exact h.2.2 n a b hn
  · rw [List.getElem?_append_right (Nat.not_lt.mp hl)] at hn
    have hz : n - I.length < 1 := (List.getElem?_eq_some_iff.mp hn).1
    have e : n = I.length := by omega
    subst e
    rw [Nat.sub_self] at hn
    cases hn
    rw [rx_up_self]
    exact ⟨h1, h2⟩
-- numbers
theorem rx_i32 {z : Int} (h1 : -2147483648 ≤ z) (h2 : z ≤ 2147483647) : (Int32.ofInt z).toInt = z := Int32.toInt_ofInt_of_le (by omega) (by omega)
theorem rx_i64 {z : Int} (h1 : -9223372036854775808 ≤ z) (h2 : z ≤ 9223372036854775807) : (Int64.ofInt z).toInt = z := Int64.toInt_ofInt_of_le (by omega) (by omega)
theorem rx_b32 (x : Int32) : -2147483648 ≤ x.toInt ∧ x.toInt ≤ 2147483647 := by
  have h1 := x.toInt_lt
  have h2 := x.le_toInt
  omega
theorem rx_b64 (x : Int64) : -9223372036854775808 ≤ x.toInt ∧ x.toInt ≤ 9223372036854775807 := by
  have h1 := x.toInt_lt
  have h2 := x.le_toInt
  omega
-- bounds of a number
def rx_bd (I : rx_I) (e : rx_E) : Option (Int × Int) := match I[e.1]? with
  | some (lo, hi) => some (lo + e.2, hi + e.2)
  | none => none
theorem rx_bd_ok {I : rx_I} {e : rx_E} {lo hi : Int} {r : Nat → Int} (h : rx_sat I r) (hb : rx_bd I e = some (lo, hi)) : lo ≤ rx_ev r e ∧ rx_ev r e ≤ hi ∧ e.1 < I.length := by
  unfold rx_bd at hb
  split at hb
  · rename_i a b he
    cases hb
    have := h.2.2 _ _ _ he
    unfold rx_ev
    refine ⟨by omega, by omega, (List.getElem?_eq_some_iff.mp he).1⟩
  · cases hb
/-- bounds of an int: those of its number, where it fits -/
def rx_bi (I : rx_I) (e : rx_E) : Option (Int × Int) := match rx_bd I e with
  | some (lo, hi) => if -2147483648 ≤ lo ∧ hi ≤ 2147483647 then some (lo, hi) else none
  | none => none
theorem rx_bi_ok {I : rx_I} {e : rx_E} {lo hi : Int} {r : Nat → Int} (h : rx_sat I r) (hb : rx_bi I e = some (lo, hi)) : lo ≤ rx_ev r e ∧ rx_ev r e ≤ hi ∧ (Int32.ofInt (rx_ev r e)).toInt = rx_ev r e ∧ e.1 < I.length := by
  unfold rx_bi at hb
  split at hb
  · rename_i a b he
    split at hb
    · rename_i hc
      cases hb
      obtain ⟨h1, h2, h3⟩ := rx_bd_ok h he
      exact ⟨h1, h2, rx_i32 (by omega) (by omega), h3⟩
    · cases hb
  · cases hb
def rx_bl (I : rx_I) (e : rx_E) : Option (Int × Int) := match rx_bd I e with
  | some (lo, hi) => if -9223372036854775808 ≤ lo ∧ hi ≤ 9223372036854775807 then some (lo, hi) else none
  | none => none
theorem rx_bl_ok {I : rx_I} {e : rx_E} {lo hi : Int} {r : Nat → Int} (h : rx_sat I r) (hb : rx_bl I e = some (lo, hi)) : lo ≤ rx_ev r e ∧ rx_ev r e ≤ hi ∧ (Int64.ofInt (rx_ev r e)).toInt = rx_ev r e ∧ e.1 < I.length := by
  unfold rx_bl at hb
  split at hb
  · rename_i a b he
    split at hb
    · rename_i hc
      cases hb
      obtain ⟨h1, h2, h3⟩ := rx_bd_ok h he
      exact ⟨h1, h2, rx_i64 (by omega) (by omega), h3⟩
    · cases hb
  · cases hb
-- what is learnt of a symbol
def rx_cap (I : rx_I) (n : Nat) (a b : Int) : rx_I := match I[n]? with
  | some (lo, hi) => I.set n (if a ≤ lo then lo else a, if hi ≤ b then hi else b)
  | none => I
theorem rx_cap_len {I : rx_I} {n : Nat} {a b : Int} : (rx_cap I n a b).length = I.length := by
  unfold rx_cap
  split <;> simp
theorem rx_cap_ok {I : rx_I} {n : Nat} {a b : Int} {r : Nat → Int} (h : rx_sat I r) (h1 : a ≤ r n) (h2 : r n ≤ b) : rx_sat (rx_cap I n a b) r := by
  unfold rx_cap
  split
  · rename_i lo hi he
    refine ⟨h.1, by rw [List.length_set]; exact h.2.1, ?_⟩
    intro j x y hj
    by_cases hjn : j = n
    · subst hjn
      rw [List.getElem?_set_self (List.getElem?_eq_some_iff.mp he).1] at hj
      cases hj
      have := h.2.2 _ _ _ he
      refine ⟨?_, ?_⟩
      · split <;> omega
      · split <;> omega
    · rw [List.getElem?_set_ne (Ne.symm hjn)] at hj
      exact h.2.2 j x y hj
  · exact h
/-- can there be such a number at all -/
def rx_can (I : rx_I) (n : Nat) : Bool := match I[n]? with
  | some (lo, hi) => decide (lo ≤ hi)
  | none => true
theorem rx_can_ok {I : rx_I} {n : Nat} {r : Nat → Int} (h : rx_sat I r) : rx_can I n = true := by
  unfold rx_can
  split
  · rename_i lo hi he
    have := h.2.2 _ _ _ he
    exact decide_eq_true (by omega)
  · rfl
/-- facts that can't be beside a new one -/
def rx_no (c : Nat) (a b : rx_E) (f : Nat × rx_E × rx_E) : Bool :=
  -- f: x < y or x ≤ y or x = y with x over b's symbol, y over a's: then b - x.2 .. : is a < b (0), a ≤ b (1), a = b (2) out
  if f.2.1.1 == b.1 && f.2.2.1 == a.1 then
    match f.1, c with
    | 0, 0 => decide (b.2 - f.2.1.2 ≤ a.2 - f.2.2.2 + 1)
    | 0, 1 => decide (b.2 - f.2.1.2 ≤ a.2 - f.2.2.2)
    | 0, 2 => decide (b.2 - f.2.1.2 ≤ a.2 - f.2.2.2)
    | 1, 0 => decide (b.2 - f.2.1.2 ≤ a.2 - f.2.2.2)
    | 1, 1 => decide (b.2 - f.2.1.2 < a.2 - f.2.2.2)
    | 1, 2 => decide (b.2 - f.2.1.2 < a.2 - f.2.2.2)
    | 2, 0 => decide (b.2 - f.2.1.2 ≤ a.2 - f.2.2.2)
    | 2, 1 => decide (b.2 - f.2.1.2 < a.2 - f.2.2.2)
    | 2, 2 => decide (¬ b.2 - f.2.1.2 = a.2 - f.2.2.2)
    | 2, 3 => decide (b.2 - f.2.1.2 = a.2 - f.2.2.2)
    | 3, 2 => decide (b.2 - f.2.1.2 = a.2 - f.2.2.2)
    | _, _ => false
  else false
theorem rx_no_ok {c : Nat} {a b : rx_E} {f : Nat × rx_E × rx_E} {r : Nat → Int} (hc : c ≤ 3) (hf : rx_fact r f) (hn : rx_fact r (c, a, b)) : rx_no c a b f = false := by
  obtain ⟨k, ⟨xn, xc⟩, ⟨yn, yc⟩⟩ := f
  obtain ⟨an, ac⟩ := a
  obtain ⟨bn, bc⟩ := b
  unfold rx_no
  split
  · rename_i he
    simp only [Bool.and_eq_true, beq_iff_eq] at he
    obtain ⟨e1, e2⟩ := he
    subst e1; subst e2
    rcases (show c = 0 ∨ c = 1 ∨ c = 2 ∨ c = 3 by omega) with rfl | rfl | rfl | rfl <;> rcases (show k = 0 ∨ k = 1 ∨ k = 2 ∨ k = 3 ∨ 4 ≤ k by omega) with rfl | rfl | rfl | rfl | hk <;> first
      | rfl
      | (obtain ⟨j, rfl⟩ := Nat.exists_eq_add_of_le hk
         rw [Nat.add_comm]
         rfl)
      | (first
          | have g1 : r xn + xc < r yn + yc := hf
          | have g1 : r xn + xc ≤ r yn + yc := hf
          | have g1 : r xn + xc = r yn + yc := hf
          | have g1 : r xn + xc ≠ r yn + yc := hf
         first
          | have g2 : r yn + ac < r xn + bc := hn
          | have g2 : r yn + ac ≤ r xn + bc := hn
          | have g2 : r yn + ac = r xn + bc := hn
          | have g2 : r yn + ac ≠ r xn + bc := hn
         exact decide_eq_false (by dsimp only; omega))
  · rfl
/-- is a relation to be had of the offsets alone -/
def rx_rel (c : Nat) (x y : Int) : Bool := match c with
  | 0 => decide (x < y)
  | 1 => decide (x ≤ y)
  | 2 => decide (x = y)
  | _ => decide (¬ x = y)
/-- what follows of a relation: none, if it can't be; the bounds of both numbers come with it -/
def rx_asmI (I : rx_I) (c : Nat) (a b : rx_E) (al ah bl bh : Int) : rx_I := match c with
  | 0 => rx_cap (rx_cap I a.1 (al - a.2) (bh - 1 - a.2)) b.1 (al + 1 - b.2) (bh - b.2)
  | 1 => rx_cap (rx_cap I a.1 (al - a.2) (bh - a.2)) b.1 (al - b.2) (bh - b.2)
  | 2 => rx_cap (rx_cap I a.1 (bl - a.2) (bh - a.2)) b.1 (al - b.2) (ah - b.2)
  | _ => if bl = bh then (if al = bl then rx_cap I a.1 (al + 1 - a.2) (ah - a.2) else if ah = bl then rx_cap I a.1 (al - a.2) (ah - 1 - a.2) else I)
    else if al = ah then (if bl = al then rx_cap I b.1 (bl + 1 - b.2) (bh - b.2) else if bh = al then rx_cap I b.1 (bl - b.2) (bh - 1 - b.2) else I) else I
/-- a fact once more, over what is known now -/
def rx_prop (I : rx_I) (f : Nat × rx_E × rx_E) : rx_I := match rx_bd I f.2.1, rx_bd I f.2.2 with
  | some (al, ah), some (bl, bh) => if f.1 ≤ 3 then rx_asmI I f.1 f.2.1 f.2.2 al ah bl bh else I
  | _, _ => I
def rx_asm2 (I : rx_I) (F : rx_F) (c : Nat) (a b : rx_E) : Option (rx_I × rx_F) :=
  if rx_can I a.1 && rx_can I b.1 then some (I, if c = 3 ∨ (¬ a.1 = 0 ∧ ¬ b.1 = 0) then (c, a, b) :: F else F) else none
def rx_asm (I : rx_I) (F : rx_F) (c : Nat) (a b : rx_E) (al ah bl bh : Int) : Option (rx_I × rx_F) :=
  if a.1 = b.1 then (if rx_rel c a.2 b.2 then some (I, F) else none)
  else if F.any (rx_no c a b) || ((c == 2 || c == 3) && F.any (rx_no c b a)) then none
  else rx_asm2 (F.foldl rx_prop (rx_asmI I c a b al ah bl bh)) F c a b
theorem rx_asmI_ok {I : rx_I} {c : Nat} {a b : rx_E} {al ah bl bh : Int} {r : Nat → Int} (hc : c ≤ 3) (h : rx_sat I r) (h1 : al ≤ rx_ev r a ∧ rx_ev r a ≤ ah) (h2 : bl ≤ rx_ev r b ∧ rx_ev r b ≤ bh) (hf : rx_fact r (c, a, b)) : rx_sat (rx_asmI I c a b al ah bl bh) r ∧ (rx_asmI I c a b al ah bl bh).length = I.length := by
  obtain ⟨an, ac⟩ := a
  obtain ⟨bn, bc⟩ := b
  have e1 : al ≤ r an + ac ∧ r an + ac ≤ ah := h1
  have e2 : bl ≤ r bn + bc ∧ r bn + bc ≤ bh := h2
  rcases (show c = 0 ∨ c = 1 ∨ c = 2 ∨ c = 3 by omega) with rfl | rfl | rfl | rfl
  · have g : r an + ac < r bn + bc := hf
    exact ⟨rx_cap_ok (rx_cap_ok h (by dsimp only; omega) (by dsimp only; omega)) (by dsimp only; omega) (by dsimp only; omega), rx_cap_len.trans rx_cap_len⟩
  · have g : r an + ac ≤ r bn + bc := hf
    exact ⟨rx_cap_ok (rx_cap_ok h (by dsimp only; omega) (by dsimp only; omega)) (by dsimp only; omega) (by dsimp only; omega), rx_cap_len.trans rx_cap_len⟩
  · have g : r an + ac = r bn + bc := hf
    exact ⟨rx_cap_ok (rx_cap_ok h (by dsimp only; omega) (by dsimp only; omega)) (by dsimp only; omega) (by dsimp only; omega), rx_cap_len.trans rx_cap_len⟩
  · have g : r an + ac ≠ r bn + bc := hf
    show rx_sat (if bl = bh then _ else _) r ∧ (if bl = bh then _ else _ : rx_I).length = I.length
    split
    · split
      · exact ⟨rx_cap_ok h (by dsimp only; omega) (by dsimp only; omega), rx_cap_len⟩
      · split
        · exact ⟨rx_cap_ok h (by dsimp only; omega) (by dsimp only; omega), rx_cap_len⟩
        · exact ⟨h, rfl⟩
    · split
      · split
        · exact ⟨rx_cap_ok h (by dsimp only; omega) (by dsimp only; omega), rx_cap_len⟩
        · split
          · exact ⟨rx_cap_ok h (by dsimp only; omega) (by dsimp only; omega), rx_cap_len⟩
          · exact ⟨h, rfl⟩
      · exact ⟨h, rfl⟩
theorem rx_prop_ok {I : rx_I} {f : Nat × rx_E × rx_E} {r : Nat → Int} (h : rx_sat I r) (hf : rx_fact r f) : rx_sat (rx_prop I f) r ∧ (rx_prop I f).length = I.length := by
  unfold rx_prop
  split
  · rename_i al ah bl bh e1 e2
    split
    · rename_i hc
      have q1 := rx_bd_ok h e1
      have q2 := rx_bd_ok h e2
      exact rx_asmI_ok hc h ⟨q1.1, q1.2.1⟩ ⟨q2.1, q2.2.1⟩ hf
    · exact ⟨h, rfl⟩
  · exact ⟨h, rfl⟩
theorem rx_prop_all {r : Nat → Int} : ∀ (F : rx_F) {I : rx_I}, rx_sat I r → rx_facts F r → rx_sat (F.foldl rx_prop I) r ∧ (F.foldl rx_prop I).length = I.length
  | [], _, h, _ => ⟨h, rfl⟩
  | f :: F, I, h, hF => by
    obtain ⟨h1, h2⟩ := rx_prop_ok (f := f) h (hF f List.mem_cons_self)
    obtain ⟨h3, h4⟩ := rx_prop_all F h1 (fun g hg => hF g (List.mem_cons_of_mem _ hg))
    exact ⟨h3, h4.trans h2⟩
/-- a number of which just one is possible is that one -/
def rx_nm (I : rx_I) (e : rx_E) : rx_E := match I[e.1]? with
  | some (lo, hi) => if lo = hi then (0, lo + e.2) else e
  | none => e
theorem rx_nm_ok {I : rx_I} {e : rx_E} {r : Nat → Int} (h : rx_sat I r) : rx_ev r (rx_nm I e) = rx_ev r e ∧ (e.1 < I.length → (rx_nm I e).1 < I.length) := by
  unfold rx_nm
  split
  · rename_i lo hi he
    split
    · rename_i hc
      have := h.2.2 _ _ _ he
      refine ⟨?_, fun _ => rx_pos h⟩
      unfold rx_ev
      dsimp only
      rw [h.1]
      omega
    · exact ⟨rfl, id⟩
  · exact ⟨rfl, id⟩
theorem rx_rel_ok {c : Nat} {a b : rx_E} {r : Nat → Int} (hc : c ≤ 3) (hab : a.1 = b.1) (hf : rx_fact r (c, a, b)) : rx_rel c a.2 b.2 = true := by
  obtain ⟨an, ac⟩ := a
  obtain ⟨bn, bc⟩ := b
  have e : an = bn := hab
  subst e
  rcases (show c = 0 ∨ c = 1 ∨ c = 2 ∨ c = 3 by omega) with rfl | rfl | rfl | rfl
  · have g : r an + ac < r an + bc := hf
    exact decide_eq_true (by dsimp only; omega)
  · have g : r an + ac ≤ r an + bc := hf
    exact decide_eq_true (by dsimp only; omega)
  · have g : r an + ac = r an + bc := hf
    exact decide_eq_true (by dsimp only; omega)
  · have g : r an + ac ≠ r an + bc := hf
    exact decide_eq_true (by dsimp only; omega)
theorem rx_fact_sym {c : Nat} {a b : rx_E} {r : Nat → Int} (hc : c = 2 ∨ c = 3) (hf : rx_fact r (c, a, b)) : rx_fact r (c, b, a) := by
  rcases hc with rfl | rfl
  · exact Eq.symm (a := rx_ev r a) (b := rx_ev r b) hf
  · exact Ne.symm (a := rx_ev r a) (b := rx_ev r b) hf
theorem rx_asm_ok {I : rx_I} {F : rx_F} {c : Nat} {a b : rx_E} {al ah bl bh : Int} {r : Nat → Int} {N : Nat} (hc : c ≤ 3) (h : rx_sat I r) (hF : rx_facts F r) (hs : rx_fsc N F) (ha : a.1 < N) (hb : b.1 < N) (h1 : al ≤ rx_ev r a ∧ rx_ev r a ≤ ah) (h2 : bl ≤ rx_ev r b ∧ rx_ev r b ≤ bh) (hf : rx_fact r (c, a, b)) : ∃ (I2 : rx_I) (F2 : rx_F), rx_asm I F c a b al ah bl bh = some (I2, F2) ∧ rx_sat I2 r ∧ rx_facts F2 r ∧ rx_fsc N F2 ∧ I2.length = I.length := by
  unfold rx_asm
  split
  · rename_i hab
    rw [if_pos (rx_rel_ok hc hab hf)]
    exact ⟨I, F, rfl, h, hF, hs, rfl⟩
  · have hn : (F.any (rx_no c a b) || ((c == 2 || c == 3) && F.any (rx_no c b a))) = false := by
      rw [Bool.or_eq_false_iff]
      refine ⟨List.any_eq_false.mpr fun f hf2 => by rw [rx_no_ok hc (hF f hf2) hf]; exact Bool.false_ne_true, ?_⟩
      by_cases hcc : c = 2 ∨ c = 3
      · have : F.any (rx_no c b a) = false := List.any_eq_false.mpr fun f hf2 => by rw [rx_no_ok hc (hF f hf2) (rx_fact_sym hcc hf)]; exact Bool.false_ne_true
        rw [this, Bool.and_false]
      · have : (c == 2 || c == 3) = false := by
          rw [Bool.or_eq_false_iff]
          exact ⟨beq_false_of_ne fun q => hcc (Or.inl q), beq_false_of_ne fun q => hcc (Or.inr q)⟩
        rw [this, Bool.false_and]
    rw [hn]
    obtain ⟨g1, g2⟩ := rx_asmI_ok (I := I) hc h h1 h2 hf
    obtain ⟨k1, k2⟩ := rx_prop_all F g1 hF
    rw [if_neg Bool.false_ne_true]
    unfold rx_asm2
    rw [rx_can_ok k1, rx_can_ok k1]
    refine ⟨_, _, rfl, k1, ?_, ?_, k2.trans g2⟩
    · split
      · intro f hf2
        rcases List.mem_cons.mp hf2 with e | e
        · subst e; exact hf
        · exact hF f e
      · exact hF
    · split
      · intro f hf2
        rcases List.mem_cons.mp hf2 with e | e
        · subst e; exact ⟨ha, hb⟩
        · exact hs f e
      · exact hs
end
section
/-! A REFLECTED MACHINE, part 2: what an operation makes of numbers -/
def rx_op (o : Nat) (x y : Int32) : Int32 := match o with
  | 0 => x + y
  | 1 => x - y
  | 2 => x * y
  | 3 => x / y
  | 4 => x - x / y * y
  | 5 => x &&& y
  | 6 => x ||| y
  | 7 => x ^^^ y
  | 8 => x <<< (y &&& 31)
  | 9 => x >>> (y &&& 31)
  | _ => (x.toUInt32 >>> (y.toUInt32 &&& Int32.toUInt32 31)).toInt32
/-- bounds of an answer, by those of what it is made of -/
def rx_opb (o : Nat) (al ah bl bh : Int) : Int × Int := match o with
  | 0 => if -2147483648 ≤ al + bl ∧ ah + bh ≤ 2147483647 then (al + bl, ah + bh) else (-2147483648, 2147483647)
  | 1 => if -2147483648 ≤ al - bh ∧ ah - bl ≤ 2147483647 then (al - bh, ah - bl) else (-2147483648, 2147483647)
  | 2 => if 0 ≤ al ∧ 0 ≤ bl ∧ ah * bh ≤ 2147483647 then (0, ah * bh) else (-2147483648, 2147483647)
  | 3 => if 0 ≤ al ∧ 0 < bl then (0, ah) else (-2147483648, 2147483647)
  | 4 => if 0 < bl then (if 0 ≤ al then (0, bh - 1) else (1 - bh, bh - 1)) else (-2147483648, 2147483647)
  | _ => (-2147483648, 2147483647)
theorem rx_mulb {a b ah bh : Int} (h0 : 0 ≤ a) (h1 : a ≤ ah) (h2 : 0 ≤ b) (h3 : b ≤ bh) : 0 ≤ a * b ∧ a * b ≤ ah * bh :=
  ⟨Int.mul_nonneg h0 h2, Int.le_trans (Int.mul_le_mul_of_nonneg_right h1 h2) (Int.mul_le_mul_of_nonneg_left h3 (Int.le_trans h0 h1))⟩
theorem rx_bmod {z : Int} (h1 : -2147483648 ≤ z) (h2 : z ≤ 2147483647) : z.bmod (2 ^ 32) = z := by
  simp only [Int.bmod]
  split <;> omega
theorem rx_opb_ok {o : Nat} {x y : Int32} {al ah bl bh : Int} (h1 : al ≤ x.toInt) (h2 : x.toInt ≤ ah) (h3 : bl ≤ y.toInt) (h4 : y.toInt ≤ bh) : (rx_opb o al ah bl bh).1 ≤ (rx_op o x y).toInt ∧ (rx_op o x y).toInt ≤ (rx_opb o al ah bl bh).2 := by
  have full : ∀ w : Int32, ((-2147483648, 2147483647) : Int × Int).1 ≤ w.toInt ∧ w.toInt ≤ ((-2147483648, 2147483647) : Int × Int).2 := fun w => rx_b32 w
  match o with
  | 0 =>
    show (if _ then _ else _ : Int × Int).1 ≤ (x + y).toInt ∧ (x + y).toInt ≤ (if _ then _ else _ : Int × Int).2
    split
    · rename_i h
      have e : (x + y).toInt = x.toInt + y.toInt := by
        rw [Int32.toInt_add]
        exact rx_bmod (by omega) (by omega)
      rw [e]
      exact ⟨by dsimp only; omega, by dsimp only; omega⟩
    · exact full _
  | 1 =>
    show (if _ then _ else _ : Int × Int).1 ≤ (x - y).toInt ∧ (x - y).toInt ≤ (if _ then _ else _ : Int × Int).2
    split
    · rename_i h
      have e : (x - y).toInt = x.toInt - y.toInt := by
        rw [Int32.toInt_sub]
        exact rx_bmod (by omega) (by omega)
      rw [e]
      exact ⟨by dsimp only; omega, by dsimp only; omega⟩
    · exact full _
  | 2 =>
    show (if _ then _ else _ : Int × Int).1 ≤ (x * y).toInt ∧ (x * y).toInt ≤ (if _ then _ else _ : Int × Int).2
    split
    · rename_i h
      obtain ⟨g1, g2⟩ := rx_mulb (a := x.toInt) (b := y.toInt) (by omega) h2 (by omega) h4
      have e : (x * y).toInt = x.toInt * y.toInt := by
        rw [Int32.toInt_mul]
        exact rx_bmod (by omega) (by omega)
      rw [e]
      exact ⟨g1, g2⟩
    · exact full _
  | 3 =>
    show (if _ then _ else _ : Int × Int).1 ≤ (x / y).toInt ∧ (x / y).toInt ≤ (if _ then _ else _ : Int × Int).2
    split
    · rename_i h
      have e : (x / y).toInt = x.toInt.tdiv y.toInt := by
        rw [Int32.toInt_div]
        refine rx_bmod ?_ ?_
        · have := Int.tdiv_nonneg (a := x.toInt) (b := y.toInt) (by omega) (by omega)
          omega
        · have := Int.tdiv_le_self (a := x.toInt) y.toInt (by omega)
          have := rx_b32 x
          omega
      rw [e]
      have g1 := Int.tdiv_nonneg (a := x.toInt) (b := y.toInt) (by omega) (by omega)
      have g2 := Int.tdiv_le_self (a := x.toInt) y.toInt (by omega)
      exact ⟨by dsimp only; omega, by dsimp only; omega⟩
    · exact full _
  | 4 =>
    show (if _ then _ else _ : Int × Int).1 ≤ (x - x / y * y).toInt ∧ (x - x / y * y).toInt ≤ (if _ then _ else _ : Int × Int).2
    rw [rem_toInt]
    split
    · rename_i h
      obtain ⟨g1, g2⟩ := tmod_bounds (a := x.toInt) (M := y.toInt) (by omega)
      split
      · rename_i h5
        have g3 := Int.tmod_nonneg (a := x.toInt) y.toInt (by omega)
        exact ⟨by dsimp only; omega, by dsimp only; omega⟩
      · exact ⟨by dsimp only; omega, by dsimp only; omega⟩
    · have := full (x - x / y * y)
      rw [rem_toInt] at this
      exact this
  | n + 5 => exact full _
/-- an answer: known, a symbol with an offset, or a new symbol -/
def rx_lit (e : rx_E) : Bool := e.1 == 0
theorem rx_lit_ok {I : rx_I} {e : rx_E} {r : Nat → Int} (h : rx_lit e = true) (hs : rx_sat I r) : rx_ev r e = e.2 := by
  unfold rx_lit at h
  rw [beq_iff_eq] at h
  unfold rx_ev
  rw [h, hs.1]
  omega
theorem rx_ev0 {I : rx_I} {r : Nat → Int} (hs : rx_sat I r) (z : Int) : rx_ev r (0, z) = z := by
  unfold rx_ev
  rw [hs.1]
  omega
def rx_bin1 (o : Nat) (I : rx_I) (a b : rx_E) : Option (rx_I × rx_E) :=
  if rx_lit a && rx_lit b then some (I, 0, (rx_op o (Int32.ofInt a.2) (Int32.ofInt b.2)).toInt)
  else match rx_bi I a, rx_bi I b with
    | some (al, ah), some (bl, bh) =>
      if o = 0 ∧ rx_lit b = true ∧ -2147483648 ≤ al + b.2 ∧ ah + b.2 ≤ 2147483647 then some (I, a.1, a.2 + b.2)
      else if o = 0 ∧ rx_lit a = true ∧ -2147483648 ≤ bl + a.2 ∧ bh + a.2 ≤ 2147483647 then some (I, b.1, b.2 + a.2)
      else if o = 1 ∧ rx_lit b = true ∧ -2147483648 ≤ al - b.2 ∧ ah - b.2 ≤ 2147483647 then some (I, a.1, a.2 - b.2)
      else some (I ++ [rx_opb o al ah bl bh], I.length, 0)
    | _, _ => none
/-- an int comes as a new symbol -/
theorem rx_fresh {I : rx_I} {r : Nat → Int} {lo hi : Int} (x : Int32) (h : rx_sat I r) (h1 : lo ≤ x.toInt) (h2 : x.toInt ≤ hi) : ∃ r' : Nat → Int, rx_same I.length r r' ∧ rx_sat (I ++ [(lo, hi)]) r' ∧ Int32.ofInt (rx_ev r' (I.length, 0)) = x := by
  refine ⟨rx_up r I.length x.toInt, rx_up_same, rx_sat_up h h1 h2, ?_⟩
  unfold rx_ev
  rw [rx_up_self, Int.add_zero, Int32.ofInt_toInt]
theorem rx_freshL {I : rx_I} {r : Nat → Int} {lo hi : Int} (x : Int64) (h : rx_sat I r) (h1 : lo ≤ x.toInt) (h2 : x.toInt ≤ hi) : ∃ r' : Nat → Int, rx_same I.length r r' ∧ rx_sat (I ++ [(lo, hi)]) r' ∧ Int64.ofInt (rx_ev r' (I.length, 0)) = x := by
  refine ⟨rx_up r I.length x.toInt, rx_up_same, rx_sat_up h h1 h2, ?_⟩
  unfold rx_ev
  rw [rx_up_self, Int.add_zero, Int64.ofInt_toInt]
theorem rx_bin1_ok {o : Nat} {I I2 : rx_I} {a b e : rx_E} {r : Nat → Int} (h : rx_sat I r) (hb : rx_bin1 o I a b = some (I2, e)) : ∃ r' : Nat → Int, rx_same I.length r r' ∧ rx_sat I2 r' ∧ Int32.ofInt (rx_ev r' e) = rx_op o (Int32.ofInt (rx_ev r a)) (Int32.ofInt (rx_ev r b)) ∧ I.length ≤ I2.length ∧ e.1 < I2.length := by
  unfold rx_bin1 at hb
  split at hb
  · rename_i hc
    rw [Bool.and_eq_true] at hc
    have e1 := rx_lit_ok hc.1 h
    have e3 := rx_lit_ok hc.2 h
    cases hb
    refine ⟨r, rx_same.rf, h, ?_, Nat.le_refl _, rx_pos h⟩
    rw [rx_ev0 h, Int32.ofInt_toInt, e1, e3]
  · split at hb
    · rename_i al ah bl bh ha hbb
      obtain ⟨a1, a2, a3, a4⟩ := rx_bi_ok h ha
      obtain ⟨b1, b2, b3, b4⟩ := rx_bi_ok h hbb
      split at hb
      · rename_i hc
        obtain ⟨rfl, hc2, hc3, hc4⟩ := hc
        have e1 := rx_lit_ok hc2 h
        cases hb
        refine ⟨r, rx_same.rf, h, ?_, Nat.le_refl _, a4⟩
        show Int32.ofInt (rx_ev r (a.1, a.2 + b.2)) = Int32.ofInt (rx_ev r a) + Int32.ofInt (rx_ev r b)
        rw [← Int32.ofInt_add, e1]
        congr 1
        unfold rx_ev
        dsimp only
        omega
      · split at hb
        · rename_i hc
          obtain ⟨rfl, hc2, hc3, hc4⟩ := hc
          have e1 := rx_lit_ok hc2 h
          cases hb
          refine ⟨r, rx_same.rf, h, ?_, Nat.le_refl _, b4⟩
          show Int32.ofInt (rx_ev r (b.1, b.2 + a.2)) = Int32.ofInt (rx_ev r a) + Int32.ofInt (rx_ev r b)
          rw [← Int32.ofInt_add, e1]
          congr 1
          unfold rx_ev
          dsimp only
          omega
        · split at hb
          · rename_i hc
            obtain ⟨rfl, hc2, hc3, hc4⟩ := hc
            have e1 := rx_lit_ok hc2 h
            cases hb
            refine ⟨r, rx_same.rf, h, ?_, Nat.le_refl _, a4⟩
            show Int32.ofInt (rx_ev r (a.1, a.2 - b.2)) = Int32.ofInt (rx_ev r a) - Int32.ofInt (rx_ev r b)
            rw [← Int32.ofInt_sub, e1]
            congr 1
            unfold rx_ev
            dsimp only
            omega
          · cases hb
            obtain ⟨g1, g2⟩ := rx_opb_ok (o := o) (x := Int32.ofInt (rx_ev r a)) (y := Int32.ofInt (rx_ev r b)) (al := al) (ah := ah) (bl := bl) (bh := bh) (by rw [a3]; exact a1) (by rw [a3]; exact a2) (by rw [b3]; exact b1) (by rw [b3]; exact b2)
            obtain ⟨r', q1, q2, q3⟩ := rx_fresh (lo := (rx_opb o al ah bl bh).1) (hi := (rx_opb o al ah bl bh).2) (rx_op o (Int32.ofInt (rx_ev r a)) (Int32.ofInt (rx_ev r b))) h g1 g2
            exact ⟨r', q1, q2, q3, by simp, by simp⟩
    · cases hb
def rx_bin (o : Nat) (I : rx_I) (a b : rx_E) : Option (rx_I × rx_E) := rx_bin1 o I (rx_nm I a) (rx_nm I b)
theorem rx_bin_ok {o : Nat} {I I2 : rx_I} {a b e : rx_E} {r : Nat → Int} (h : rx_sat I r) (hb : rx_bin o I a b = some (I2, e)) : ∃ r' : Nat → Int, rx_same I.length r r' ∧ rx_sat I2 r' ∧ Int32.ofInt (rx_ev r' e) = rx_op o (Int32.ofInt (rx_ev r a)) (Int32.ofInt (rx_ev r b)) ∧ I.length ≤ I2.length ∧ e.1 < I2.length := by
  have := rx_bin1_ok h hb
  rw [(rx_nm_ok (e := a) h).1, (rx_nm_ok (e := b) h).1] at this
  exact this
/-- longs: the same, with fewer bounds -/
def rx_opL (o : Nat) (x y : Int64) : Int64 := match o with
  | 0 => x + y
  | 1 => x - y
  | 2 => x * y
  | 3 => x / y
  | 4 => x - x / y * y
  | 5 => x &&& y
  | 6 => x ||| y
  | _ => x ^^^ y
def rx_binL1 (o : Nat) (I : rx_I) (a b : rx_E) : rx_I × rx_E :=
  if rx_lit a && rx_lit b then (I, 0, (rx_opL o (Int64.ofInt a.2) (Int64.ofInt b.2)).toInt)
  else if o = 0 ∧ rx_lit b = true ∧ a.1 < I.length then (I, a.1, a.2 + b.2)
  else if o = 0 ∧ rx_lit a = true ∧ b.1 < I.length then (I, b.1, b.2 + a.2)
  else if o = 1 ∧ rx_lit b = true ∧ a.1 < I.length then (I, a.1, a.2 - b.2)
  else (I ++ [(-9223372036854775808, 9223372036854775807)], I.length, 0)
theorem rx_binL1_ok {o : Nat} {I : rx_I} {a b : rx_E} {r : Nat → Int} (h : rx_sat I r) : ∃ r' : Nat → Int, rx_same I.length r r' ∧ rx_sat (rx_binL1 o I a b).1 r' ∧ Int64.ofInt (rx_ev r' (rx_binL1 o I a b).2) = rx_opL o (Int64.ofInt (rx_ev r a)) (Int64.ofInt (rx_ev r b)) ∧ I.length ≤ (rx_binL1 o I a b).1.length ∧ (rx_binL1 o I a b).2.1 < (rx_binL1 o I a b).1.length := by
  unfold rx_binL1
  split
  · rename_i hc
    rw [Bool.and_eq_true] at hc
    have e1 := rx_lit_ok hc.1 h
    have e3 := rx_lit_ok hc.2 h
    refine ⟨r, rx_same.rf, h, ?_, Nat.le_refl _, rx_pos h⟩
    dsimp only
    rw [rx_ev0 h, Int64.ofInt_toInt, e1, e3]
  · split
    · rename_i hc
      obtain ⟨ho, hl, hs⟩ := hc
      subst ho
      refine ⟨r, rx_same.rf, h, ?_, Nat.le_refl _, hs⟩
      rw [rx_lit_ok hl h]
      show Int64.ofInt (r a.1 + (a.2 + b.2)) = Int64.ofInt (r a.1 + a.2) + Int64.ofInt b.2
      rw [← Int64.ofInt_add, Int.add_assoc]
    · split
      · rename_i hc
        obtain ⟨ho, hl, hs⟩ := hc
        subst ho
        refine ⟨r, rx_same.rf, h, ?_, Nat.le_refl _, hs⟩
        rw [rx_lit_ok hl h]
        show Int64.ofInt (r b.1 + (b.2 + a.2)) = Int64.ofInt a.2 + Int64.ofInt (r b.1 + b.2)
        rw [← Int64.ofInt_add]
        congr 1
        omega
      · split
        · rename_i hc
          obtain ⟨ho, hl, hs⟩ := hc
          subst ho
          refine ⟨r, rx_same.rf, h, ?_, Nat.le_refl _, hs⟩
          rw [rx_lit_ok hl h]
          show Int64.ofInt (r a.1 + (a.2 - b.2)) = Int64.ofInt (r a.1 + a.2) - Int64.ofInt b.2
          rw [← Int64.ofInt_sub]
          congr 1
          omega
        · obtain ⟨r', q1, q2, q3⟩ := rx_freshL (lo := -9223372036854775808) (hi := 9223372036854775807) (rx_opL o (Int64.ofInt (rx_ev r a)) (Int64.ofInt (rx_ev r b))) h (rx_b64 _).1 (rx_b64 _).2
          exact ⟨r', q1, q2, q3, by simp, by simp⟩
def rx_binL (o : Nat) (I : rx_I) (a b : rx_E) : rx_I × rx_E := rx_binL1 o I (rx_nm I a) (rx_nm I b)
theorem rx_binL_ok {o : Nat} {I : rx_I} {a b : rx_E} {r : Nat → Int} (h : rx_sat I r) : ∃ r' : Nat → Int, rx_same I.length r r' ∧ rx_sat (rx_binL o I a b).1 r' ∧ Int64.ofInt (rx_ev r' (rx_binL o I a b).2) = rx_opL o (Int64.ofInt (rx_ev r a)) (Int64.ofInt (rx_ev r b)) ∧ I.length ≤ (rx_binL o I a b).1.length ∧ (rx_binL o I a b).2.1 < (rx_binL o I a b).1.length := by
  have := rx_binL1_ok (o := o) (a := rx_nm I a) (b := rx_nm I b) h
  rw [(rx_nm_ok (e := a) h).1, (rx_nm_ok (e := b) h).1] at this
  exact this
end
section
/-! A REFLECTED MACHINE, part 3: states, and the instructions that touch no cell -/
/-- symbols, facts, cells; how many cells and slots were made; pc, locals, stack -/
abbrev rx_Z : Type := rx_I × rx_F × List rx_C × Nat × Nat × Nat × List (Nat × rx_V) × List rx_V
def rx_n (z : Int) : rx_V := .inr (0, (0, z))
def rx_k2 (v : rx_V) : Bool := match v with
  | .inr (1, _) => true
  | _ => false
def rx_lvs (r : Nat → Int) (ad xa : Nat → Nat) (lv : List (Nat × rx_V)) : List (Nat × Value) := lv.map (fun q => (q.1, rx_iv r ad xa q.2))
def rx_del (lv : List (Nat × rx_V)) (i : Nat) : List (Nat × rx_V) := lv.filter (fun q => !(q.1 == i) && !(q.1 + 1 == i && rx_k2 q.2))
def rx_del2 (lv : List (Nat × rx_V)) (i : Nat) : List (Nat × rx_V) := lv.filter (fun q => !(q.1 == i) && (!(q.1 == i + 1) && !(q.1 + 1 == i && rx_k2 q.2)))
theorem rx_cat {r : Nat → Int} {ad xa : Nat → Nat} {v : rx_V} (h : rx_k2 v = false) : (rx_iv r ad xa v).category = 1 := by
  match v, h with
  | .inl none, _ => rfl
  | .inl (some k), _ => rfl
  | .inr (0, e), _ => rfl
  | .inr (1, e), h => exact absurd (show true = false from h) (fun q => Bool.false_ne_true q.symm)
  | .inr (_ + 2, e), _ => rfl
theorem rx_cat2 {r : Nat → Int} {ad xa : Nat → Nat} {v : rx_V} (h : rx_k2 v = true) : (rx_iv r ad xa v).category = 2 := by
  match v, h with
  | .inl none, h => exact absurd (show false = true from h) Bool.false_ne_true
  | .inl (some k), h => exact absurd (show false = true from h) Bool.false_ne_true
  | .inr (0, e), h => exact absurd (show false = true from h) Bool.false_ne_true
  | .inr (1, e), _ => rfl
  | .inr (_ + 2, e), h => exact absurd (show false = true from h) Bool.false_ne_true
theorem rx_cateq {r : Nat → Int} {ad xa : Nat → Nat} {v : rx_V} : ((rx_iv r ad xa v).category == 2) = rx_k2 v := by
  cases h : rx_k2 v with
  | false => rw [rx_cat h]; rfl
  | true => rw [rx_cat2 h]; rfl
theorem rx_lv_get {r : Nat → Int} {ad xa : Nat → Nat} {lv : List (Nat × rx_V)} {ls : Array Slot} {nL i : Nat} {v : rx_V} (h : lv_has ls nL (rx_lvs r ad xa lv)) (hv : rx_lk lv i = some v) : ls[i]? = some (.val (rx_iv r ad xa v)) :=
  h.2.2 (i, rx_iv r ad xa v) (List.mem_map.mpr ⟨(i, v), rx_lk_mem hv, rfl⟩)
theorem rx_lv_of {r : Nat → Int} {ad xa : Nat → Nat} {lv' : List (Nat × rx_V)} {ls : Array Slot} {nL i : Nat} {v : rx_V} {L : List (Nat × Value)} (h : lv_has ls nL ((i, rx_iv r ad xa v) :: L)) (hL : ∀ q ∈ lv', (q.1, rx_iv r ad xa q.2) ∈ L) : lv_has ls nL (rx_lvs r ad xa ((i, v) :: lv')) := by
  refine ⟨h.1, h.2.1, fun q hq => ?_⟩
  obtain ⟨y, hy, rfl⟩ := List.mem_map.mp hq
  rcases List.mem_cons.mp hy with e | e
  · subst e
    exact h.2.2 _ List.mem_cons_self
  · exact h.2.2 _ (List.mem_cons_of_mem _ (hL y e))
theorem rx_lv_st {r : Nat → Int} {ad xa : Nat → Nat} {lv : List (Nat × rx_V)} {ls : Array Slot} {nL i : Nat} {v : rx_V} (h : lv_has ls nL ((i, rx_iv r ad xa v) :: (rx_lvs r ad xa lv).filter (fun q => !(q.1 == i) && !(q.1 + 1 == i && q.2.category == 2)))) : lv_has ls nL (rx_lvs r ad xa ((i, v) :: rx_del lv i)) := by
  refine rx_lv_of h fun q hq => ?_
  obtain ⟨h1, h2⟩ := List.mem_filter.mp hq
  refine List.mem_filter.mpr ⟨List.mem_map.mpr ⟨q, h1, rfl⟩, ?_⟩
  dsimp only
  rw [rx_cateq]
  exact h2
theorem rx_lv_st2 {r : Nat → Int} {ad xa : Nat → Nat} {lv : List (Nat × rx_V)} {ls : Array Slot} {nL i : Nat} {v : rx_V} (h : lv_has ls nL ((i, rx_iv r ad xa v) :: (rx_lvs r ad xa lv).filter (fun q => !(q.1 == i) && (!(q.1 == i + 1) && !(q.1 + 1 == i && q.2.category == 2))))) : lv_has ls nL (rx_lvs r ad xa ((i, v) :: rx_del2 lv i)) := by
  refine rx_lv_of h fun q hq => ?_
  obtain ⟨h1, h2⟩ := List.mem_filter.mp hq
  refine List.mem_filter.mpr ⟨List.mem_map.mpr ⟨q, h1, rfl⟩, ?_⟩
  dsimp only
  rw [rx_cateq]
  exact h2
theorem rx_lvs_ext {N M : Nat} {r r' : Nat → Int} {ad ad' xa : Nat → Nat} {lv : List (Nat × rx_V)} (h : ∀ q ∈ lv, rx_sc N M q.2) (hr : rx_same N r r') (ha : rx_sameA M ad ad') : rx_lvs r' ad' xa lv = rx_lvs r ad xa lv :=
  List.map_congr_left fun q hq => by rw [rx_iv_ext (h q hq) hr ha]
theorem rx_st_ext {N M : Nat} {r r' : Nat → Int} {ad ad' xa : Nat → Nat} {st : List rx_V} (h : ∀ v ∈ st, rx_sc N M v) (hr : rx_same N r r') (ha : rx_sameA M ad ad') : st.map (rx_iv r' ad' xa) = st.map (rx_iv r ad xa) :=
  List.map_congr_left fun v hv => rx_iv_ext (h v hv) hr ha
/-- a state stands for what the machine holds -/
def rx_R (D : va_G) (cl : List vw_C) (A : Nat → Prop) (s : State) (xa : Nat → Nat) (nL : Nat) (H0 : Heap) (z : rx_Z) (r : Nat → Int) (ad : Nat → Nat) (H : Heap) (locs : List Loc) (ls : Array Slot) : Prop :=
  rx_sat z.1 r ∧ rx_facts z.2.1 r ∧ rx_fsc z.1.length z.2.1 ∧ rx_W D cl A s xa z.1.length z.2.2.1 r ad H0 H locs ∧ lv_has ls nL (rx_lvs r ad xa z.2.2.2.2.2.2.1) ∧ (∀ q ∈ z.2.2.2.2.2.2.1, rx_sc z.1.length z.2.2.1.length q.2) ∧ ∀ v ∈ z.2.2.2.2.2.2.2, rx_sc z.1.length z.2.2.1.length v
/-- the goal at a state -/
def rx_G (p : Program) (l : Launch) (e : Env) (R : Room) (s : State) (m : MethodId) (args : Array Value) (below : List Frame) (meth : Method) (c : Code) (Q : State → Prop) (D : va_G) (cl : List vw_C) (A : Nat → Prop) (xa : Nat → Nat) (nL : Nat) (H0 : Heap) (N M : Nat) (r : Nat → Int) (ad : Nat → Nat) (z : rx_Z) : Prop :=
  ∀ (r' : Nat → Int) (ad' : Nat → Nat) (H : Heap) (locs : List Loc) (ls : Array Slot), N ≤ z.1.length → M ≤ z.2.2.1.length → rx_same N r r' → rx_sameA M ad ad' → rx_R D cl A s xa nL H0 z r' ad' H locs ls →
    W p l e R s m args below meth c H locs z.2.2.2.1 z.2.2.2.2.1 Q (F0 m z.2.2.2.2.2.1 ls (z.2.2.2.2.2.2.2.map (rx_iv r' ad' xa)))
/-- where a branch goes -/
def rx_to (pc : Nat) (off : Int) : Nat := ((pc : Int) + off).toNat
def rx_cnd (c : Jvm.ClassFile.Cond) (a b : rx_E) : (Nat × rx_E × rx_E) × (Nat × rx_E × rx_E) := match c with
  | .eq => ((2, a, b), (3, a, b))
  | .ne => ((3, a, b), (2, a, b))
  | .lt => ((0, a, b), (1, b, a))
  | .ge => ((1, b, a), (0, a, b))
  | .gt => ((0, b, a), (1, a, b))
  | .le => ((1, a, b), (0, b, a))
end
section
/-! A REFLECTED MACHINE, part 4: plain instructions, a handler each -/
def rx_pi (st : List rx_V) : Option (rx_E × List rx_V) := match st with
  | .inr (0, e) :: t => some (e, t)
  | _ => none
def rx_pl (st : List rx_V) : Option (rx_E × List rx_V) := match st with
  | .inr (1, e) :: t => some (e, t)
  | _ => none
def rx_pr (st : List rx_V) : Option (Option Nat × List rx_V) := match st with
  | .inl o :: t => some (o, t)
  | _ => none
def rx_pv (st : List rx_V) : Option (rx_V × List rx_V) := match st with
  | v :: t => some (v, t)
  | [] => none
theorem rx_pi_ok {st t : List rx_V} {e : rx_E} (h : rx_pi st = some (e, t)) : st = .inr (0, e) :: t := by
  match st, h with
  | [], h => exact absurd (show (none : Option (rx_E × List rx_V)) = some (e, t) from h) (fun q => by cases q)
  | .inl _ :: _, h => exact absurd (show (none : Option (rx_E × List rx_V)) = some (e, t) from h) (fun q => by cases q)
  | .inr (0, e0) :: t0, h =>
    have h2 : some (e0, t0) = some (e, t) := h
    cases h2
    rfl
  | .inr (_ + 1, _) :: _, h => exact absurd (show (none : Option (rx_E × List rx_V)) = some (e, t) from h) (fun q => by cases q)
theorem rx_pl_ok {st t : List rx_V} {e : rx_E} (h : rx_pl st = some (e, t)) : st = .inr (1, e) :: t := by
  match st, h with
  | [], h => exact absurd (show (none : Option (rx_E × List rx_V)) = some (e, t) from h) (fun q => by cases q)
  | .inl _ :: _, h => exact absurd (show (none : Option (rx_E × List rx_V)) = some (e, t) from h) (fun q => by cases q)
  | .inr (0, _) :: _, h => exact absurd (show (none : Option (rx_E × List rx_V)) = some (e, t) from h) (fun q => by cases q)
  | .inr (1, e0) :: t0, h =>
    have h2 : some (e0, t0) = some (e, t) := h
    cases h2
    rfl
  | .inr (_ + 2, _) :: _, h => exact absurd (show (none : Option (rx_E × List rx_V)) = some (e, t) from h) (fun q => by cases q)
theorem rx_pr_ok {st t : List rx_V} {o : Option Nat} (h : rx_pr st = some (o, t)) : st = .inl o :: t := by
  match st, h with
  | [], h => exact absurd (show (none : Option (Option Nat × List rx_V)) = some (o, t) from h) (fun q => by cases q)
  | .inl o0 :: t0, h =>
    have h2 : some (o0, t0) = some (o, t) := h
    cases h2
    rfl
  | .inr _ :: _, h => exact absurd (show (none : Option (Option Nat × List rx_V)) = some (o, t) from h) (fun q => by cases q)
theorem rx_pv_ok {st t : List rx_V} {v : rx_V} (h : rx_pv st = some (v, t)) : st = v :: t := by
  match st, h with
  | [], h => exact absurd (show (none : Option (rx_V × List rx_V)) = some (v, t) from h) (fun q => by cases q)
  | v0 :: t0, h =>
    have h2 : some (v0, t0) = some (v, t) := h
    cases h2
    rfl
def rx_zst (z : rx_Z) : List rx_V := z.2.2.2.2.2.2.2
def rx_zlv (z : rx_Z) : List (Nat × rx_V) := z.2.2.2.2.2.2.1
def rx_zpc (z : rx_Z) : Nat := z.2.2.2.2.2.1
/-- the state further on, with this stack -/
def rx_nx (z : rx_Z) (d : Nat) (st : List rx_V) : rx_Z := match z with
  | (I0, F1, ht0, c0, s0, pc0, lv0, _) => (I0, F1, ht0, c0, s0, pc0 + d, lv0, st)
def rx_nxI (I : rx_I) (z : rx_Z) (d : Nat) (st : List rx_V) : rx_Z := match z with
  | (_, F1, ht0, c0, s0, pc0, lv0, _) => (I, F1, ht0, c0, s0, pc0 + d, lv0, st)
def rx_nxl (lv : List (Nat × rx_V)) (z : rx_Z) (d : Nat) (st : List rx_V) : rx_Z := match z with
  | (I0, F1, ht0, c0, s0, pc0, _, _) => (I0, F1, ht0, c0, s0, pc0 + d, lv, st)
section RXP
variable {p : Program} {l : Launch} {e : Env} {R : Room} {s : State} {m : MethodId} {args : Array Value} {below : List Frame} {meth : Method} {c : Code} {Q : State → Prop}
variable {D : va_G} {cl : List vw_C} {A : Nat → Prop} {xa : Nat → Nat} {nL : Nat} {H0 H : Heap} {locs : List Loc} {ls : Array Slot} {r : Nat → Int} {ad : Nat → Nat}
variable {cc : ByteArray} {z : rx_Z} {zs : List rx_Z}
theorem rx_at {N M : Nat} {z' : rx_Z} {r' : Nat → Int} {ad' : Nat → Nat} {H' : Heap} {locs' : List Loc} {ls' : Array Slot} {pc k n : Nat} {vs : List Value} (K : rx_G p l e R s m args below meth c Q D cl A xa nL H0 N M r ad z') (hr : rx_same N r r') (ha : rx_sameA M ad ad') (hR : rx_R D cl A s xa nL H0 z' r' ad' H' locs' ls')
    (hpc : rx_zpc z' = pc) (hk : z'.2.2.2.1 = k) (hn : z'.2.2.2.2.1 = n) (hvs : (rx_zst z').map (rx_iv r' ad' xa) = vs)
    (hN : N ≤ z'.1.length := by first | exact Nat.le_refl _ | assumption | (apply Nat.le_of_eq; symm; assumption) | (unfold rx_nxa; simp)) (hM : M ≤ z'.2.2.1.length := by first | exact Nat.le_refl _ | assumption | (unfold rx_nxa; simp) | (unfold rx_nxh; simp)) : W p l e R s m args below meth c H' locs' k n Q (F0 m pc ls' vs) := by
  subst hpc; subst hk; subst hn; subst hvs
  exact K r' ad' H' locs' ls' hN hM hr ha hR
theorem rx_stsc (hR : rx_R D cl A s xa nL H0 z r ad H locs ls) : ∀ v ∈ rx_zst z, rx_sc z.1.length z.2.2.1.length v := hR.2.2.2.2.2.2
theorem rx_lvsc (hR : rx_R D cl A s xa nL H0 z r ad H locs ls) : ∀ q ∈ rx_zlv z, rx_sc z.1.length z.2.2.1.length q.2 := hR.2.2.2.2.2.1
theorem rx_lvh (hR : rx_R D cl A s xa nL H0 z r ad H locs ls) : lv_has ls nL (rx_lvs r ad xa (rx_zlv z)) := hR.2.2.2.2.1
theorem rx_R_nx {d : Nat} {st : List rx_V} (hR : rx_R D cl A s xa nL H0 z r ad H locs ls) (hs : ∀ v ∈ st, rx_sc z.1.length z.2.2.1.length v) : rx_R D cl A s xa nL H0 (rx_nx z d st) r ad H locs ls :=
  ⟨hR.1, hR.2.1, hR.2.2.1, hR.2.2.2.1, hR.2.2.2.2.1, hR.2.2.2.2.2.1, hs⟩
theorem rx_R_nxl {d : Nat} {st : List rx_V} {lv : List (Nat × rx_V)} {ls' : Array Slot} (hR : rx_R D cl A s xa nL H0 z r ad H locs ls) (hl : lv_has ls' nL (rx_lvs r ad xa lv)) (hq : ∀ q ∈ lv, rx_sc z.1.length z.2.2.1.length q.2) (hs : ∀ v ∈ st, rx_sc z.1.length z.2.2.1.length v) : rx_R D cl A s xa nL H0 (rx_nxl lv z d st) r ad H locs ls' :=
  ⟨hR.1, hR.2.1, hR.2.2.1, hR.2.2.2.1, hl, hq, hs⟩
theorem rx_fsc.mono {N N' : Nat} {F : rx_F} (h : rx_fsc N F) (hN : N ≤ N') : rx_fsc N' F := fun f hf => ⟨Nat.lt_of_lt_of_le (h f hf).1 hN, Nat.lt_of_lt_of_le (h f hf).2 hN⟩
theorem rx_R_nxI {d : Nat} {st : List rx_V} {I : rx_I} {r' : Nat → Int} (hR : rx_R D cl A s xa nL H0 z r ad H locs ls) (hI : z.1.length ≤ I.length) (hr : rx_same z.1.length r r') (hsat : rx_sat I r') (hs : ∀ v ∈ st, rx_sc I.length z.2.2.1.length v) : rx_R D cl A s xa nL H0 (rx_nxI I z d st) r' ad H locs ls :=
  ⟨hsat, rx_facts_ext hR.2.1 hR.2.2.1 hr, hR.2.2.1.mono hI, hR.2.2.2.1.ext hI hr rx_sameA.rf, by
    have h := rx_lvh hR
    show lv_has ls nL (rx_lvs r' ad xa (rx_zlv z))
    rw [rx_lvs_ext (rx_lvsc hR) hr rx_sameA.rf]
    exact h, fun q hq => rx_sc.mono (rx_lvsc hR q hq) hI (Nat.le_refl _), hs⟩
theorem rx_n_iv {I : rx_I} (hs : rx_sat I r) (n : Int) : rx_iv r ad xa (rx_n n) = .int (Int32.ofInt n) := by
  show Value.int (Int32.ofInt (rx_ev r (0, n))) = _
  rw [rx_ev0 hs]
theorem rx_nL_iv {I : rx_I} (hs : rx_sat I r) (n : Int) : rx_iv r ad xa (.inr (1, (0, n))) = .long (Int64.ofInt n) := by
  show Value.long (Int64.ofInt (rx_ev r (0, n))) = _
  rw [rx_ev0 hs]
theorem rx_sc0 (hR : rx_R D cl A s xa nL H0 z r ad H locs ls) (k : Nat) (n : Int) : rx_sc z.1.length z.2.2.1.length (.inr (k, (0, n))) := rx_pos hR.1
/-- a value comes on top -/
theorem rx_push {v : rx_V} {w : Value} {d : Nat} (hR : rx_R D cl A s xa nL H0 z r ad H locs ls) (hv : rx_iv r ad xa v = w) (hsc : rx_sc z.1.length z.2.2.1.length v)
    (K : rx_G p l e R s m args below meth c Q D cl A xa nL H0 z.1.length z.2.2.1.length r ad (rx_nx z d (v :: rx_zst z))) : W p l e R s m args below meth c H locs z.2.2.2.1 z.2.2.2.2.1 Q (F0 m (rx_zpc z + d) ls (w :: (rx_zst z).map (rx_iv r ad xa))) := by
  refine rx_at K rx_same.rf rx_sameA.rf (rx_R_nx hR fun x hx => ?_) rfl rfl rfl (by rw [← hv]; rfl)
  rcases List.mem_cons.mp hx with h | h
  · subst h; exact hsc
  · exact rx_stsc hR x h
end RXP
def rx_h_push (v : rx_V) (d : Nat) (z : rx_Z) : Option (List rx_Z) := some [rx_nx z d (v :: rx_zst z)]
def rx_h_load (kd i d : Nat) (z : rx_Z) : Option (List rx_Z) := match rx_lk (rx_zlv z) i with
  | some (.inr (j, e)) => if j = kd then some [rx_nx z d (.inr (j, e) :: rx_zst z)] else none
  | _ => none
def rx_h_loadA (i d : Nat) (z : rx_Z) : Option (List rx_Z) := match rx_lk (rx_zlv z) i with
  | some (.inl o) => some [rx_nx z d (.inl o :: rx_zst z)]
  | some (.inr (j + 2, e)) => some [rx_nx z d (.inr (j + 2, e) :: rx_zst z)]
  | _ => none
def rx_h_istore (nL i d : Nat) (z : rx_Z) : Option (List rx_Z) := match rx_pi (rx_zst z) with
  | some (e, t) => if i < nL then some [rx_nxl ((i, .inr (0, e)) :: rx_del (rx_zlv z) i) z d t] else none
  | none => none
def rx_h_lstore (nL i d : Nat) (z : rx_Z) : Option (List rx_Z) := match rx_pl (rx_zst z) with
  | some (e, t) => if i + 1 < nL then some [rx_nxl ((i, .inr (1, e)) :: rx_del2 (rx_zlv z) i) z d t] else none
  | none => none
def rx_h_astore (nL i d : Nat) (z : rx_Z) : Option (List rx_Z) := match rx_pr (rx_zst z) with
  | some (o, t) => if i < nL then some [rx_nxl ((i, .inl o) :: rx_del (rx_zlv z) i) z d t] else none
  | none => none
def rx_h_iinc (nL i : Nat) (n : Int) (z : rx_Z) : Option (List rx_Z) := match rx_lk (rx_zlv z) i with
  | some (.inr (0, e)) => match rx_bin 0 z.1 e (0, n) with
    | some (I, e2) => if i < nL then some [(I, z.2.1, z.2.2.1, z.2.2.2.1, z.2.2.2.2.1, rx_zpc z + 3, (i, .inr (0, e2)) :: rx_del (rx_zlv z) i, rx_zst z)] else none
    | none => none
  | _ => none
def rx_h_bin (o : Nat) (z : rx_Z) : Option (List rx_Z) := match rx_pi (rx_zst z) with
  | some (b, t) => match rx_pi t with
    | some (a, t) => match rx_bin o z.1 a b with
      | some (I, e) => some [rx_nxI I z 1 (.inr (0, e) :: t)]
      | none => none
    | none => none
  | none => none
/-- a divisor whose bounds shut 0 out -/
def rx_nz (b : Option (Int × Int)) : Bool := match b with
  | some (lo, hi) => decide (0 < lo) || decide (hi < 0)
  | none => false
def rx_h_div (o : Nat) (z : rx_Z) : Option (List rx_Z) := match rx_pi (rx_zst z) with
  | some (b, t) => if rx_nz (rx_bi z.1 b) then rx_h_bin o z else none
  | none => none
def rx_h_binL (o : Nat) (z : rx_Z) : Option (List rx_Z) := match rx_pl (rx_zst z) with
  | some (b, t) => match rx_pl t with
    | some (a, t) => some [rx_nxI (rx_binL o z.1 a b).1 z 1 (.inr (1, (rx_binL o z.1 a b).2) :: t)]
    | none => none
  | none => none
def rx_h_divL (o : Nat) (z : rx_Z) : Option (List rx_Z) := match rx_pl (rx_zst z) with
  | some (b, t) => if rx_nz (rx_bl z.1 b) then rx_h_binL o z else none
  | none => none
def rx_h_ineg (z : rx_Z) : Option (List rx_Z) := match rx_pi (rx_zst z) with
  | some (a, t) => match rx_bin 1 z.1 (0, 0) a with
    | some (I, e) => some [rx_nxI I z 1 (.inr (0, e) :: t)]
    | none => none
  | none => none
def rx_h_i2l (z : rx_Z) : Option (List rx_Z) := match rx_pi (rx_zst z) with
  | some (a, t) => match rx_bi z.1 a with
    | some _ => some [rx_nx z 1 (.inr (1, a) :: t)]
    | none => none
  | none => none
def rx_h_dup (z : rx_Z) : Option (List rx_Z) := match rx_pv (rx_zst z) with
  | some (v, t) => if rx_k2 v then none else some [rx_nx z 1 (v :: v :: t)]
  | none => none
def rx_h_pop (z : rx_Z) : Option (List rx_Z) := match rx_pv (rx_zst z) with
  | some (v, t) => if rx_k2 v then none else some [rx_nx z 1 t]
  | none => none
def rx_h_dup2 (z : rx_Z) : Option (List rx_Z) := match rx_pv (rx_zst z) with
  | some (v, t) => if rx_k2 v then some [rx_nx z 1 (v :: v :: t)] else match rx_pv t with
    | some (w, t) => if rx_k2 w then none else some [rx_nx z 1 (v :: w :: v :: w :: t)]
    | none => none
  | none => none
section RXQ
variable {p : Program} {l : Launch} {e : Env} {R : Room} {s : State} {m : MethodId} {args : Array Value} {below : List Frame} {meth : Method} {c : Code} {Q : State → Prop}
variable {D : va_G} {cl : List vw_C} {A : Nat → Prop} {xa : Nat → Nat} {nL : Nat} {H0 H : Heap} {locs : List Loc} {ls : Array Slot} {r : Nat → Int} {ad : Nat → Nat}
variable {cc : ByteArray} {z : rx_Z} {zs : List rx_Z}
theorem rx_h_push_ok {v : rx_V} {w : Value} {d : Nat} (hR : rx_R D cl A s xa nL H0 z r ad H locs ls) (hz : rx_h_push v d z = some zs) (hv : rx_iv r ad xa v = w) (hsc : rx_sc z.1.length z.2.2.1.length v)
    (row : W p l e R s m args below meth c H locs z.2.2.2.1 z.2.2.2.2.1 Q (F0 m (rx_zpc z + d) ls (w :: (rx_zst z).map (rx_iv r ad xa))) → W p l e R s m args below meth c H locs z.2.2.2.1 z.2.2.2.2.1 Q (F0 m (rx_zpc z) ls ((rx_zst z).map (rx_iv r ad xa))))
    (K : ∀ z' ∈ zs, rx_G p l e R s m args below meth c Q D cl A xa nL H0 z.1.length z.2.2.1.length r ad z') : W p l e R s m args below meth c H locs z.2.2.2.1 z.2.2.2.2.1 Q (F0 m (rx_zpc z) ls ((rx_zst z).map (rx_iv r ad xa))) := by
  unfold rx_h_push at hz
  cases hz
  exact row (rx_push hR hv hsc (K _ List.mem_cons_self))
theorem rx_h_load_ok {kd i d : Nat} (hR : rx_R D cl A s xa nL H0 z r ad H locs ls) (hz : rx_h_load kd i d z = some zs)
    (row : ∀ e0 : rx_E, ls[i]? = some (.val (rx_iv r ad xa (.inr (kd, e0)))) → W p l e R s m args below meth c H locs z.2.2.2.1 z.2.2.2.2.1 Q (F0 m (rx_zpc z + d) ls (rx_iv r ad xa (.inr (kd, e0)) :: (rx_zst z).map (rx_iv r ad xa))) → W p l e R s m args below meth c H locs z.2.2.2.1 z.2.2.2.2.1 Q (F0 m (rx_zpc z) ls ((rx_zst z).map (rx_iv r ad xa))))
    (K : ∀ z' ∈ zs, rx_G p l e R s m args below meth c Q D cl A xa nL H0 z.1.length z.2.2.1.length r ad z') : W p l e R s m args below meth c H locs z.2.2.2.1 z.2.2.2.2.1 Q (F0 m (rx_zpc z) ls ((rx_zst z).map (rx_iv r ad xa))) := by
  unfold rx_h_load at hz
  split at hz
  · rename_i j e0 he
    split at hz
    · rename_i hj
      subst hj
      cases hz
      exact row e0 (rx_lv_get (rx_lvh hR) he) (rx_push hR rfl (rx_lvsc hR _ (rx_lk_mem he)) (K _ List.mem_cons_self))
    · cases hz
  · cases hz
theorem rx_h_loadA_ok {i d : Nat} (hR : rx_R D cl A s xa nL H0 z r ad H locs ls) (hz : rx_h_loadA i d z = some zs)
    (rowN : ls[i]? = some (.val .null) → W p l e R s m args below meth c H locs z.2.2.2.1 z.2.2.2.2.1 Q (F0 m (rx_zpc z + d) ls (.null :: (rx_zst z).map (rx_iv r ad xa))) → W p l e R s m args below meth c H locs z.2.2.2.1 z.2.2.2.2.1 Q (F0 m (rx_zpc z) ls ((rx_zst z).map (rx_iv r ad xa))))
    (row : ∀ a : Nat, ls[i]? = some (.val (.ref a)) → W p l e R s m args below meth c H locs z.2.2.2.1 z.2.2.2.2.1 Q (F0 m (rx_zpc z + d) ls (.ref a :: (rx_zst z).map (rx_iv r ad xa))) → W p l e R s m args below meth c H locs z.2.2.2.1 z.2.2.2.2.1 Q (F0 m (rx_zpc z) ls ((rx_zst z).map (rx_iv r ad xa))))
    (K : ∀ z' ∈ zs, rx_G p l e R s m args below meth c Q D cl A xa nL H0 z.1.length z.2.2.1.length r ad z') : W p l e R s m args below meth c H locs z.2.2.2.1 z.2.2.2.2.1 Q (F0 m (rx_zpc z) ls ((rx_zst z).map (rx_iv r ad xa))) := by
  unfold rx_h_loadA at hz
  split at hz
  · rename_i o he
    cases hz
    have hg := rx_lv_get (rx_lvh hR) he
    have hp := rx_push (w := rx_iv r ad xa (.inl o)) (d := d) hR rfl (rx_lvsc hR _ (rx_lk_mem he)) (K _ List.mem_cons_self)
    match o, hg, hp with
    | none, hg, hp => exact rowN hg hp
    | some k, hg, hp => exact row _ hg hp
  · rename_i j e0 he
    cases hz
    exact row (xa e0.2.toNat) (rx_lv_get (rx_lvh hR) he) (rx_push (v := .inr (j + 2, e0)) hR rfl (rx_lvsc hR _ (rx_lk_mem he)) (K _ List.mem_cons_self))
  · cases hz
theorem rx_del_mem {lv : List (Nat × rx_V)} {i : Nat} {q : Nat × rx_V} (h : q ∈ rx_del lv i) : q ∈ lv := (List.mem_filter.mp h).1
theorem rx_del2_mem {lv : List (Nat × rx_V)} {i : Nat} {q : Nat × rx_V} (h : q ∈ rx_del2 lv i) : q ∈ lv := (List.mem_filter.mp h).1
theorem rx_h_istore_ok {i d : Nat} (hR : rx_R D cl A s xa nL H0 z r ad H locs ls) (hz : rx_h_istore nL i d z = some zs)
    (row : ∀ (x : Int32) (rest : List Value), i < nL → (∀ ls' : Array Slot, lv_has ls' nL ((i, Value.int x) :: (rx_lvs r ad xa (rx_zlv z)).filter (fun q => !(q.1 == i) && !(q.1 + 1 == i && q.2.category == 2))) → W p l e R s m args below meth c H locs z.2.2.2.1 z.2.2.2.2.1 Q (F0 m (rx_zpc z + d) ls' rest)) → W p l e R s m args below meth c H locs z.2.2.2.1 z.2.2.2.2.1 Q (F0 m (rx_zpc z) ls (.int x :: rest)))
    (K : ∀ z' ∈ zs, rx_G p l e R s m args below meth c Q D cl A xa nL H0 z.1.length z.2.2.1.length r ad z') : W p l e R s m args below meth c H locs z.2.2.2.1 z.2.2.2.2.1 Q (F0 m (rx_zpc z) ls ((rx_zst z).map (rx_iv r ad xa))) := by
  unfold rx_h_istore at hz
  split at hz
  · rename_i e0 t he
    split at hz
    · rename_i hi
      cases hz
      have hst := rx_stsc hR
      rw [rx_pi_ok he] at hst ⊢
      refine row _ _ hi fun ls' hl => ?_
      refine rx_at (K _ List.mem_cons_self) rx_same.rf rx_sameA.rf (rx_R_nxl hR (rx_lv_st (v := .inr (0, e0)) hl) (fun q hq => ?_) (fun v hv => hst v (List.mem_cons_of_mem _ hv))) rfl rfl rfl rfl
      rcases List.mem_cons.mp hq with h | h
      · subst h; exact hst _ List.mem_cons_self
      · exact rx_lvsc hR q (rx_del_mem h)
    · cases hz
  · cases hz
theorem rx_h_lstore_ok {i d : Nat} (hR : rx_R D cl A s xa nL H0 z r ad H locs ls) (hz : rx_h_lstore nL i d z = some zs)
    (row : ∀ (x : Int64) (rest : List Value), i + 1 < nL → (∀ ls' : Array Slot, lv_has ls' nL ((i, Value.long x) :: (rx_lvs r ad xa (rx_zlv z)).filter (fun q => !(q.1 == i) && (!(q.1 == i + 1) && !(q.1 + 1 == i && q.2.category == 2)))) → W p l e R s m args below meth c H locs z.2.2.2.1 z.2.2.2.2.1 Q (F0 m (rx_zpc z + d) ls' rest)) → W p l e R s m args below meth c H locs z.2.2.2.1 z.2.2.2.2.1 Q (F0 m (rx_zpc z) ls (.long x :: rest)))
    (K : ∀ z' ∈ zs, rx_G p l e R s m args below meth c Q D cl A xa nL H0 z.1.length z.2.2.1.length r ad z') : W p l e R s m args below meth c H locs z.2.2.2.1 z.2.2.2.2.1 Q (F0 m (rx_zpc z) ls ((rx_zst z).map (rx_iv r ad xa))) := by
  unfold rx_h_lstore at hz
  split at hz
  · rename_i e0 t he
    split at hz
    · rename_i hi
      cases hz
      have hst := rx_stsc hR
      rw [rx_pl_ok he] at hst ⊢
      refine row _ _ hi fun ls' hl => ?_
      refine rx_at (K _ List.mem_cons_self) rx_same.rf rx_sameA.rf (rx_R_nxl hR (rx_lv_st2 (v := .inr (1, e0)) hl) (fun q hq => ?_) (fun v hv => hst v (List.mem_cons_of_mem _ hv))) rfl rfl rfl rfl
      rcases List.mem_cons.mp hq with h | h
      · subst h; exact hst _ List.mem_cons_self
      · exact rx_lvsc hR q (rx_del2_mem h)
    · cases hz
  · cases hz
theorem rx_h_astore_ok {i d : Nat} (hR : rx_R D cl A s xa nL H0 z r ad H locs ls) (hz : rx_h_astore nL i d z = some zs)
    (row : ∀ (o : Option Nat) (rest : List Value), i < nL → (∀ ls' : Array Slot, lv_has ls' nL ((i, rx_iv r ad xa (.inl o)) :: (rx_lvs r ad xa (rx_zlv z)).filter (fun q => !(q.1 == i) && !(q.1 + 1 == i && q.2.category == 2))) → W p l e R s m args below meth c H locs z.2.2.2.1 z.2.2.2.2.1 Q (F0 m (rx_zpc z + d) ls' rest)) → W p l e R s m args below meth c H locs z.2.2.2.1 z.2.2.2.2.1 Q (F0 m (rx_zpc z) ls (rx_iv r ad xa (.inl o) :: rest)))
    (K : ∀ z' ∈ zs, rx_G p l e R s m args below meth c Q D cl A xa nL H0 z.1.length z.2.2.1.length r ad z') : W p l e R s m args below meth c H locs z.2.2.2.1 z.2.2.2.2.1 Q (F0 m (rx_zpc z) ls ((rx_zst z).map (rx_iv r ad xa))) := by
  unfold rx_h_astore at hz
  split at hz
  · rename_i o t he
    split at hz
    · rename_i hi
      cases hz
      have hst := rx_stsc hR
      rw [rx_pr_ok he] at hst ⊢
      refine row _ _ hi fun ls' hl => ?_
      refine rx_at (K _ List.mem_cons_self) rx_same.rf rx_sameA.rf (rx_R_nxl hR (rx_lv_st (v := .inl o) hl) (fun q hq => ?_) (fun v hv => hst v (List.mem_cons_of_mem _ hv))) rfl rfl rfl rfl
      rcases List.mem_cons.mp hq with h | h
      · subst h; exact hst _ List.mem_cons_self
      · exact rx_lvsc hR q (rx_del_mem h)
    · cases hz
  · cases hz
/-- a number comes on top, with new symbols -/
theorem rx_pushI {kd d : Nat} {I : rx_I} {e0 : rx_E} {t : List rx_V} {r' : Nat → Int} {w : Value} (hR : rx_R D cl A s xa nL H0 z r ad H locs ls) (ht : ∀ v ∈ t, rx_sc z.1.length z.2.2.1.length v) (hr : rx_same z.1.length r r') (hsat : rx_sat I r') (hI : z.1.length ≤ I.length) (he : e0.1 < I.length) (hw : rx_iv r' ad xa (.inr (kd, e0)) = w)
    (K : rx_G p l e R s m args below meth c Q D cl A xa nL H0 z.1.length z.2.2.1.length r ad (rx_nxI I z d (.inr (kd, e0) :: t))) : W p l e R s m args below meth c H locs z.2.2.2.1 z.2.2.2.2.1 Q (F0 m (rx_zpc z + d) ls (w :: t.map (rx_iv r ad xa))) := by
  refine rx_at K hr rx_sameA.rf (rx_R_nxI hR hI hr hsat fun v hv => ?_) rfl rfl rfl ?_
  · rcases List.mem_cons.mp hv with h | h
    · subst h; exact he
    · exact rx_sc.mono (ht v h) hI (Nat.le_refl _)
  · show rx_iv r' ad xa (.inr (kd, e0)) :: t.map (rx_iv r' ad xa) = _
    rw [hw, rx_st_ext ht hr rx_sameA.rf]
theorem rx_h_bin_ok {o : Nat} (hR : rx_R D cl A s xa nL H0 z r ad H locs ls) (hz : rx_h_bin o z = some zs)
    (row : ∀ (a b : rx_E) (t : List rx_V), rx_zst z = .inr (0, b) :: .inr (0, a) :: t → W p l e R s m args below meth c H locs z.2.2.2.1 z.2.2.2.2.1 Q (F0 m (rx_zpc z + 1) ls (.int (rx_op o (Int32.ofInt (rx_ev r a)) (Int32.ofInt (rx_ev r b))) :: t.map (rx_iv r ad xa))) → W p l e R s m args below meth c H locs z.2.2.2.1 z.2.2.2.2.1 Q (F0 m (rx_zpc z) ls (.int (Int32.ofInt (rx_ev r b)) :: .int (Int32.ofInt (rx_ev r a)) :: t.map (rx_iv r ad xa))))
    (K : ∀ z' ∈ zs, rx_G p l e R s m args below meth c Q D cl A xa nL H0 z.1.length z.2.2.1.length r ad z') : W p l e R s m args below meth c H locs z.2.2.2.1 z.2.2.2.2.1 Q (F0 m (rx_zpc z) ls ((rx_zst z).map (rx_iv r ad xa))) := by
  unfold rx_h_bin at hz
  split at hz
  · rename_i b t hb
    split at hz
    · rename_i a t2 ha
      split at hz
      · rename_i I2 e2 he
        cases hz
        have e1 := rx_pi_ok hb
        have e3 := rx_pi_ok ha
        subst e3
        have hst := rx_stsc hR
        obtain ⟨r', q1, q2, q3, q4, q5⟩ := rx_bin_ok hR.1 he
        have rw1 := row a b t2 e1
        rw [e1] at hst ⊢
        exact rw1 (rx_pushI hR (fun v hv => hst v (List.mem_cons_of_mem _ (List.mem_cons_of_mem _ hv))) q1 q2 q4 q5 (by show Value.int (Int32.ofInt (rx_ev r' e2)) = _; rw [q3]) (K _ List.mem_cons_self))
      · cases hz
    · cases hz
  · cases hz
theorem rx_nz_ok {I : rx_I} {b : rx_E} (h : rx_sat I r) (hn : rx_nz (rx_bi I b) = true) : ¬ Int32.ofInt (rx_ev r b) = 0 := by
  unfold rx_nz at hn
  split at hn
  · rename_i lo hi he
    obtain ⟨h1, h2, h3, -⟩ := rx_bi_ok h he
    intro q
    rw [q, Int32.toInt_zero] at h3
    rw [Bool.or_eq_true, decide_eq_true_eq, decide_eq_true_eq] at hn
    omega
  · exact absurd hn Bool.false_ne_true
theorem rx_nzL_ok {I : rx_I} {b : rx_E} (h : rx_sat I r) (hn : rx_nz (rx_bl I b) = true) : ¬ Int64.ofInt (rx_ev r b) = 0 := by
  unfold rx_nz at hn
  split at hn
  · rename_i lo hi he
    obtain ⟨h1, h2, h3, -⟩ := rx_bl_ok h he
    intro q
    rw [q, Int64.toInt_zero] at h3
    rw [Bool.or_eq_true, decide_eq_true_eq, decide_eq_true_eq] at hn
    omega
  · exact absurd hn Bool.false_ne_true
theorem rx_h_div_ok {o : Nat} (hR : rx_R D cl A s xa nL H0 z r ad H locs ls) (hz : rx_h_div o z = some zs)
    (row : ∀ (x y : Int32) (rest : List Value), ¬ y = 0 → W p l e R s m args below meth c H locs z.2.2.2.1 z.2.2.2.2.1 Q (F0 m (rx_zpc z + 1) ls (.int (rx_op o x y) :: rest)) → W p l e R s m args below meth c H locs z.2.2.2.1 z.2.2.2.2.1 Q (F0 m (rx_zpc z) ls (.int y :: .int x :: rest)))
    (K : ∀ z' ∈ zs, rx_G p l e R s m args below meth c Q D cl A xa nL H0 z.1.length z.2.2.1.length r ad z') : W p l e R s m args below meth c H locs z.2.2.2.1 z.2.2.2.2.1 Q (F0 m (rx_zpc z) ls ((rx_zst z).map (rx_iv r ad xa))) := by
  unfold rx_h_div at hz
  split at hz
  · rename_i b t hb
    split at hz
    · rename_i hn
      refine rx_h_bin_ok hR hz (fun a b' t' e k => row _ _ _ ?_ k) K
      have e1 := rx_pi_ok hb
      rw [e] at e1
      cases e1
      exact rx_nz_ok hR.1 hn
    · cases hz
  · cases hz
theorem rx_h_binL_ok {o : Nat} (hR : rx_R D cl A s xa nL H0 z r ad H locs ls) (hz : rx_h_binL o z = some zs)
    (row : ∀ (a b : rx_E) (t : List rx_V), rx_zst z = .inr (1, b) :: .inr (1, a) :: t → W p l e R s m args below meth c H locs z.2.2.2.1 z.2.2.2.2.1 Q (F0 m (rx_zpc z + 1) ls (.long (rx_opL o (Int64.ofInt (rx_ev r a)) (Int64.ofInt (rx_ev r b))) :: t.map (rx_iv r ad xa))) → W p l e R s m args below meth c H locs z.2.2.2.1 z.2.2.2.2.1 Q (F0 m (rx_zpc z) ls (.long (Int64.ofInt (rx_ev r b)) :: .long (Int64.ofInt (rx_ev r a)) :: t.map (rx_iv r ad xa))))
    (K : ∀ z' ∈ zs, rx_G p l e R s m args below meth c Q D cl A xa nL H0 z.1.length z.2.2.1.length r ad z') : W p l e R s m args below meth c H locs z.2.2.2.1 z.2.2.2.2.1 Q (F0 m (rx_zpc z) ls ((rx_zst z).map (rx_iv r ad xa))) := by
  unfold rx_h_binL at hz
  split at hz
  · rename_i b t hb
    split at hz
    · rename_i a t2 ha
      cases hz
      have e1 := rx_pl_ok hb
      have e3 := rx_pl_ok ha
      subst e3
      have hst := rx_stsc hR
      obtain ⟨r', q1, q2, q3, q4, q5⟩ := rx_binL_ok (o := o) (a := a) (b := b) hR.1
      have rw1 := row a b t2 e1
      rw [e1] at hst ⊢
      exact rw1 (rx_pushI hR (fun v hv => hst v (List.mem_cons_of_mem _ (List.mem_cons_of_mem _ hv))) q1 q2 q4 q5 (by show Value.long (Int64.ofInt (rx_ev r' _)) = _; rw [q3]) (K _ List.mem_cons_self))
    · cases hz
  · cases hz
theorem rx_h_divL_ok {o : Nat} (hR : rx_R D cl A s xa nL H0 z r ad H locs ls) (hz : rx_h_divL o z = some zs)
    (row : ∀ (x y : Int64) (rest : List Value), ¬ y = 0 → W p l e R s m args below meth c H locs z.2.2.2.1 z.2.2.2.2.1 Q (F0 m (rx_zpc z + 1) ls (.long (rx_opL o x y) :: rest)) → W p l e R s m args below meth c H locs z.2.2.2.1 z.2.2.2.2.1 Q (F0 m (rx_zpc z) ls (.long y :: .long x :: rest)))
    (K : ∀ z' ∈ zs, rx_G p l e R s m args below meth c Q D cl A xa nL H0 z.1.length z.2.2.1.length r ad z') : W p l e R s m args below meth c H locs z.2.2.2.1 z.2.2.2.2.1 Q (F0 m (rx_zpc z) ls ((rx_zst z).map (rx_iv r ad xa))) := by
  unfold rx_h_divL at hz
  split at hz
  · rename_i b t hb
    split at hz
    · rename_i hn
      refine rx_h_binL_ok hR hz (fun a b' t' e k => row _ _ _ ?_ k) K
      have e1 := rx_pl_ok hb
      rw [e] at e1
      cases e1
      exact rx_nzL_ok hR.1 hn
    · cases hz
  · cases hz
theorem rx_h_ineg_ok (hR : rx_R D cl A s xa nL H0 z r ad H locs ls) (hz : rx_h_ineg z = some zs)
    (row : ∀ (x : Int32) (rest : List Value), W p l e R s m args below meth c H locs z.2.2.2.1 z.2.2.2.2.1 Q (F0 m (rx_zpc z + 1) ls (.int (-x) :: rest)) → W p l e R s m args below meth c H locs z.2.2.2.1 z.2.2.2.2.1 Q (F0 m (rx_zpc z) ls (.int x :: rest)))
    (K : ∀ z' ∈ zs, rx_G p l e R s m args below meth c Q D cl A xa nL H0 z.1.length z.2.2.1.length r ad z') : W p l e R s m args below meth c H locs z.2.2.2.1 z.2.2.2.2.1 Q (F0 m (rx_zpc z) ls ((rx_zst z).map (rx_iv r ad xa))) := by
  unfold rx_h_ineg at hz
  split at hz
  · rename_i a t ha
    split at hz
    · rename_i I2 e2 he
      cases hz
      have hst := rx_stsc hR
      obtain ⟨r', q1, q2, q3, q4, q5⟩ := rx_bin_ok hR.1 he
      rw [rx_pi_ok ha] at hst ⊢
      refine row _ _ (rx_pushI hR (fun v hv => hst v (List.mem_cons_of_mem _ hv)) q1 q2 q4 q5 ?_ (K _ List.mem_cons_self))
      show Value.int (Int32.ofInt (rx_ev r' e2)) = _
      rw [q3, rx_ev0 hR.1]
      show Value.int (Int32.ofInt 0 - _) = _
      rw [show Int32.ofInt 0 = 0 from rfl, Int32.zero_sub]
    · cases hz
  · cases hz
theorem rx_h_i2l_ok (hR : rx_R D cl A s xa nL H0 z r ad H locs ls) (hz : rx_h_i2l z = some zs)
    (row : ∀ (x : Int32) (rest : List Value), W p l e R s m args below meth c H locs z.2.2.2.1 z.2.2.2.2.1 Q (F0 m (rx_zpc z + 1) ls (.long x.toInt64 :: rest)) → W p l e R s m args below meth c H locs z.2.2.2.1 z.2.2.2.2.1 Q (F0 m (rx_zpc z) ls (.int x :: rest)))
    (K : ∀ z' ∈ zs, rx_G p l e R s m args below meth c Q D cl A xa nL H0 z.1.length z.2.2.1.length r ad z') : W p l e R s m args below meth c H locs z.2.2.2.1 z.2.2.2.2.1 Q (F0 m (rx_zpc z) ls ((rx_zst z).map (rx_iv r ad xa))) := by
  unfold rx_h_i2l at hz
  split at hz
  · rename_i a t ha
    split at hz
    · rename_i b he
      cases hz
      have hst := rx_stsc hR
      obtain ⟨lo, hi⟩ := b
      obtain ⟨h1, h2, h3, h4⟩ := rx_bi_ok hR.1 he
      rw [rx_pi_ok ha] at hst ⊢
      refine row _ _ (rx_at (K _ List.mem_cons_self) rx_same.rf rx_sameA.rf (rx_R_nx hR fun v hv => ?_) rfl rfl rfl ?_)
      · rcases List.mem_cons.mp hv with h | h
        · subst h; exact h4
        · exact hst v (List.mem_cons_of_mem _ h)
      · show Value.long (Int64.ofInt (rx_ev r a)) :: _ = Value.long (Int32.ofInt (rx_ev r a)).toInt64 :: _
        congr 2
        have h5 := rx_b32 (Int32.ofInt (rx_ev r a))
        rw [h3] at h5
        apply Int64.toInt_inj.mp
        rw [rx_i64 (by omega) (by omega), Int32.toInt_toInt64, h3]
    · cases hz
  · cases hz
theorem rx_h_dup_ok (hR : rx_R D cl A s xa nL H0 z r ad H locs ls) (hz : rx_h_dup z = some zs)
    (row : ∀ (v : Value) (rest : List Value), v.category = 1 → W p l e R s m args below meth c H locs z.2.2.2.1 z.2.2.2.2.1 Q (F0 m (rx_zpc z + 1) ls (v :: v :: rest)) → W p l e R s m args below meth c H locs z.2.2.2.1 z.2.2.2.2.1 Q (F0 m (rx_zpc z) ls (v :: rest)))
    (K : ∀ z' ∈ zs, rx_G p l e R s m args below meth c Q D cl A xa nL H0 z.1.length z.2.2.1.length r ad z') : W p l e R s m args below meth c H locs z.2.2.2.1 z.2.2.2.2.1 Q (F0 m (rx_zpc z) ls ((rx_zst z).map (rx_iv r ad xa))) := by
  unfold rx_h_dup at hz
  split at hz
  · rename_i v t hv
    split at hz
    · cases hz
    · rename_i hk
      cases hz
      have hst := rx_stsc hR
      rw [rx_pv_ok hv] at hst ⊢
      refine row _ _ (rx_cat (Bool.eq_false_iff.mpr hk)) (rx_at (K _ List.mem_cons_self) rx_same.rf rx_sameA.rf (rx_R_nx hR fun x hx => ?_) rfl rfl rfl rfl)
      rcases List.mem_cons.mp hx with h | h
      · subst h; exact hst _ List.mem_cons_self
      · exact hst x h
  · cases hz
theorem rx_h_pop_ok (hR : rx_R D cl A s xa nL H0 z r ad H locs ls) (hz : rx_h_pop z = some zs)
    (row : ∀ (v : Value) (rest : List Value), v.category = 1 → W p l e R s m args below meth c H locs z.2.2.2.1 z.2.2.2.2.1 Q (F0 m (rx_zpc z + 1) ls rest) → W p l e R s m args below meth c H locs z.2.2.2.1 z.2.2.2.2.1 Q (F0 m (rx_zpc z) ls (v :: rest)))
    (K : ∀ z' ∈ zs, rx_G p l e R s m args below meth c Q D cl A xa nL H0 z.1.length z.2.2.1.length r ad z') : W p l e R s m args below meth c H locs z.2.2.2.1 z.2.2.2.2.1 Q (F0 m (rx_zpc z) ls ((rx_zst z).map (rx_iv r ad xa))) := by
  unfold rx_h_pop at hz
  split at hz
  · rename_i v t hv
    split at hz
    · cases hz
    · rename_i hk
      cases hz
      have hst := rx_stsc hR
      rw [rx_pv_ok hv] at hst ⊢
      exact row _ _ (rx_cat (Bool.eq_false_iff.mpr hk)) (rx_at (K _ List.mem_cons_self) rx_same.rf rx_sameA.rf (rx_R_nx hR fun x hx => hst x (List.mem_cons_of_mem _ hx)) rfl rfl rfl rfl)
  · cases hz
theorem rx_h_dup2_ok (hR : rx_R D cl A s xa nL H0 z r ad H locs ls) (hz : rx_h_dup2 z = some zs)
    (row2 : ∀ (v : Value) (rest : List Value), v.category = 2 → W p l e R s m args below meth c H locs z.2.2.2.1 z.2.2.2.2.1 Q (F0 m (rx_zpc z + 1) ls (v :: v :: rest)) → W p l e R s m args below meth c H locs z.2.2.2.1 z.2.2.2.2.1 Q (F0 m (rx_zpc z) ls (v :: rest)))
    (row : ∀ (v w : Value) (rest : List Value), v.category = 1 → w.category = 1 → W p l e R s m args below meth c H locs z.2.2.2.1 z.2.2.2.2.1 Q (F0 m (rx_zpc z + 1) ls (v :: w :: v :: w :: rest)) → W p l e R s m args below meth c H locs z.2.2.2.1 z.2.2.2.2.1 Q (F0 m (rx_zpc z) ls (v :: w :: rest)))
    (K : ∀ z' ∈ zs, rx_G p l e R s m args below meth c Q D cl A xa nL H0 z.1.length z.2.2.1.length r ad z') : W p l e R s m args below meth c H locs z.2.2.2.1 z.2.2.2.2.1 Q (F0 m (rx_zpc z) ls ((rx_zst z).map (rx_iv r ad xa))) := by
  unfold rx_h_dup2 at hz
  split at hz
  · rename_i v t hv
    have hst := rx_stsc hR
    rw [rx_pv_ok hv] at hst ⊢
    split at hz
    · rename_i hk
      cases hz
      refine row2 _ _ (rx_cat2 hk) (rx_at (K _ List.mem_cons_self) rx_same.rf rx_sameA.rf (rx_R_nx hR fun x hx => ?_) rfl rfl rfl rfl)
      rcases List.mem_cons.mp hx with h | h
      · subst h; exact hst _ List.mem_cons_self
      · exact hst x h
    · rename_i hk
      split at hz
      · rename_i w t2 hw
        have e2 := rx_pv_ok hw
        subst e2
        split at hz
        · cases hz
        · rename_i hk2
          cases hz
          refine row _ _ _ (rx_cat (Bool.eq_false_iff.mpr hk)) (rx_cat (Bool.eq_false_iff.mpr hk2)) (rx_at (K _ List.mem_cons_self) rx_same.rf rx_sameA.rf (rx_R_nx hR fun x hx => ?_) rfl rfl rfl rfl)
          rcases List.mem_cons.mp hx with h | h
          · subst h; exact hst _ List.mem_cons_self
          · rcases List.mem_cons.mp h with h | h
            · subst h; exact hst _ (List.mem_cons_of_mem _ List.mem_cons_self)
            · exact hst x h
      · cases hz
  · cases hz
theorem rx_h_iinc_ok {i : Nat} {n : Int} (hR : rx_R D cl A s xa nL H0 z r ad H locs ls) (hz : rx_h_iinc nL i n z = some zs)
    (row : ∀ (x v : Int32) (k : Nat), i < nL → (rx_lvs r ad xa (rx_zlv z))[k]? = some (i, Value.int x) → x + Int32.ofInt n = v → (∀ ls' : Array Slot, lv_has ls' nL ((i, Value.int v) :: (rx_lvs r ad xa (rx_zlv z)).filter (fun q => !(q.1 == i) && !(q.1 + 1 == i && q.2.category == 2))) → W p l e R s m args below meth c H locs z.2.2.2.1 z.2.2.2.2.1 Q (F0 m (rx_zpc z + 3) ls' ((rx_zst z).map (rx_iv r ad xa)))) → W p l e R s m args below meth c H locs z.2.2.2.1 z.2.2.2.2.1 Q (F0 m (rx_zpc z) ls ((rx_zst z).map (rx_iv r ad xa))))
    (K : ∀ z' ∈ zs, rx_G p l e R s m args below meth c Q D cl A xa nL H0 z.1.length z.2.2.1.length r ad z') : W p l e R s m args below meth c H locs z.2.2.2.1 z.2.2.2.2.1 Q (F0 m (rx_zpc z) ls ((rx_zst z).map (rx_iv r ad xa))) := by
  unfold rx_h_iinc at hz
  split at hz
  · rename_i e0 he
    split at hz
    · rename_i I2 e2 hb
      split at hz
      · rename_i hi
        cases hz
        obtain ⟨r', q1, q2, q3, q4, q5⟩ := rx_bin_ok hR.1 hb
        have hmem : (i, rx_iv r ad xa (.inr (0, e0))) ∈ rx_lvs r ad xa (rx_zlv z) := List.mem_map.mpr ⟨(i, .inr (0, e0)), rx_lk_mem he, rfl⟩
        obtain ⟨k, hk⟩ := List.getElem?_of_mem hmem
        have hv : Int32.ofInt (rx_ev r e0) + Int32.ofInt n = Int32.ofInt (rx_ev r' e2) := by
          rw [q3, rx_ev0 hR.1]
          rfl
        refine row _ _ k hi hk hv fun ls' hl => ?_
        have hl2 : lv_has ls' nL (rx_lvs r' ad xa ((i, .inr (0, e2)) :: rx_del (rx_zlv z) i)) := by
          refine rx_lv_st ?_
          rw [rx_lvs_ext (rx_lvsc hR) q1 rx_sameA.rf]
          exact hl
        refine rx_at (K _ List.mem_cons_self) q1 rx_sameA.rf ⟨q2, rx_facts_ext hR.2.1 hR.2.2.1 q1, hR.2.2.1.mono q4, hR.2.2.2.1.ext q4 q1 rx_sameA.rf, hl2, fun q hq => ?_, fun v hv => rx_sc.mono (rx_stsc hR v hv) q4 (Nat.le_refl _)⟩ rfl rfl rfl ?_
        · rcases List.mem_cons.mp hq with h | h
          · subst h; exact q5
          · exact rx_sc.mono (rx_lvsc hR q (rx_del_mem h)) q4 (Nat.le_refl _)
        · show (rx_zst z).map (rx_iv r' ad xa) = (rx_zst z).map (rx_iv r ad xa)
          exact rx_st_ext (rx_stsc hR) q1 rx_sameA.rf
      · cases hz
    · cases hz
  · cases hz
end RXQ
end
section
/-! A REFLECTED MACHINE, part 5: branches -/
def rx_jp (I : rx_I) (F : rx_F) (z : rx_Z) (pc : Nat) (st : List rx_V) : rx_Z := match z with
  | (_, _, ht0, c0, s0, _, lv0, _) => (I, F, ht0, c0, s0, pc, lv0, st)
/-- the way that is gone if a fact holds: none, if it can't -/
def rx_way (z : rx_Z) (f : Nat × rx_E × rx_E) (pc : Nat) (st : List rx_V) : List rx_Z := match rx_bd z.1 f.2.1, rx_bd z.1 f.2.2 with
  | some (al, ah), some (bl, bh) => match rx_asm z.1 z.2.1 f.1 f.2.1 f.2.2 al ah bl bh with
    | some (I, F) => [rx_jp I F z pc st]
    | none => []
  | _, _ => [rx_jp z.1 z.2.1 z pc st]
def rx_okI (I : rx_I) (e : rx_E) : Bool := (rx_bi I e).isSome
def rx_okL (I : rx_I) (e : rx_E) : Bool := (rx_bl I e).isSome
def rx_fork (z : rx_Z) (cnd : Jvm.ClassFile.Cond) (a b : rx_E) (tgt nx : Nat) (st : List rx_V) : List rx_Z :=
  rx_way z (rx_cnd cnd (rx_nm z.1 a) (rx_nm z.1 b)).1 tgt st ++ rx_way z (rx_cnd cnd (rx_nm z.1 a) (rx_nm z.1 b)).2 nx st
def rx_off (pc : Nat) (off : Int) : Option Nat := if 0 ≤ (pc : Int) + off then some ((pc : Int) + off).toNat else none
def rx_h_if (cnd : Jvm.ClassFile.Cond) (off : Int) (z : rx_Z) : Option (List rx_Z) := match rx_pi (rx_zst z), rx_off (rx_zpc z) off with
  | some (a, t), some tgt => if rx_okI z.1 a then some (rx_fork z cnd a (0, 0) tgt (rx_zpc z + 3) t) else none
  | _, _ => none
def rx_h_icmp (cnd : Jvm.ClassFile.Cond) (off : Int) (z : rx_Z) : Option (List rx_Z) := match rx_pi (rx_zst z), rx_off (rx_zpc z) off with
  | some (b, t), some tgt => match rx_pi t with
    | some (a, t) => if rx_okI z.1 a && rx_okI z.1 b then some (rx_fork z cnd a b tgt (rx_zpc z + 3) t) else none
    | none => none
  | _, _ => none
def rx_h_lcmp (nx : Except DecodeError (Instr × Nat)) (z : rx_Z) : Option (List rx_Z) := match rx_pl (rx_zst z) with
  | some (b, t) => match rx_pl t with
    | some (a, t) => match nx with
      | .ok (.ifCond cnd off, 3) => match rx_off (rx_zpc z + 1) off with
        | some tgt => if rx_okL z.1 a && rx_okL z.1 b then some (rx_fork z cnd a b tgt (rx_zpc z + 4) t) else none
        | none => none
      | _ => none
    | none => none
  | none => none
def rx_h_goto (off : Int) (z : rx_Z) : Option (List rx_Z) := match rx_off (rx_zpc z) off with
  | some tgt => some [rx_jp z.1 z.2.1 z tgt (rx_zst z)]
  | none => none
/-- what a condition says of two numbers -/
def rx_holds (c : Jvm.ClassFile.Cond) (x y : Int) : Prop := match c with
  | .eq => x = y
  | .ne => ¬ x = y
  | .lt => x < y
  | .ge => y ≤ x
  | .gt => y < x
  | .le => x ≤ y
theorem rx_cnd_t {c : Jvm.ClassFile.Cond} {r : Nat → Int} {a b : rx_E} (h : rx_holds c (rx_ev r a) (rx_ev r b)) : rx_fact r (rx_cnd c a b).1 ∧ (rx_cnd c a b).1.1 ≤ 3 := by
  cases c
  · exact ⟨h, Nat.le_of_ble_eq_true rfl⟩
  · exact ⟨h, Nat.le_of_ble_eq_true rfl⟩
  · exact ⟨h, Nat.le_of_ble_eq_true rfl⟩
  · exact ⟨h, Nat.le_of_ble_eq_true rfl⟩
  · exact ⟨h, Nat.le_of_ble_eq_true rfl⟩
  · exact ⟨h, Nat.le_of_ble_eq_true rfl⟩
theorem rx_cnd_f {c : Jvm.ClassFile.Cond} {r : Nat → Int} {a b : rx_E} (h : ¬ rx_holds c (rx_ev r a) (rx_ev r b)) : rx_fact r (rx_cnd c a b).2 ∧ (rx_cnd c a b).2.1 ≤ 3 := by
  cases c
  · exact ⟨h, Nat.le_of_ble_eq_true rfl⟩
  · exact ⟨Classical.not_not.mp h, Nat.le_of_ble_eq_true rfl⟩
  · exact ⟨Int.not_lt.mp h, Nat.le_of_ble_eq_true rfl⟩
  · exact ⟨Int.not_le.mp h, Nat.le_of_ble_eq_true rfl⟩
  · exact ⟨Int.not_lt.mp h, Nat.le_of_ble_eq_true rfl⟩
  · exact ⟨Int.not_le.mp h, Nat.le_of_ble_eq_true rfl⟩
theorem rx_cnd_in {c : Jvm.ClassFile.Cond} {a b : rx_E} {N : Nat} (ha : a.1 < N) (hb : b.1 < N) : ((rx_cnd c a b).1.2.1.1 < N ∧ (rx_cnd c a b).1.2.2.1 < N) ∧ ((rx_cnd c a b).2.2.1.1 < N ∧ (rx_cnd c a b).2.2.2.1 < N) := by
  cases c <;> exact ⟨⟨by first | exact ha | exact hb, by first | exact ha | exact hb⟩, ⟨by first | exact ha | exact hb, by first | exact ha | exact hb⟩⟩
section RXB
variable {p : Program} {l : Launch} {e : Env} {R : Room} {s : State} {m : MethodId} {args : Array Value} {below : List Frame} {meth : Method} {c : Code} {Q : State → Prop}
variable {D : va_G} {cl : List vw_C} {A : Nat → Prop} {xa : Nat → Nat} {nL : Nat} {H0 H : Heap} {locs : List Loc} {ls : Array Slot} {r : Nat → Int} {ad : Nat → Nat}
variable {cc : ByteArray} {z : rx_Z} {zs : List rx_Z}
theorem rx_R_jp {I : rx_I} {F : rx_F} {pc : Nat} {st : List rx_V} (hR : rx_R D cl A s xa nL H0 z r ad H locs ls) (hI : I.length = z.1.length) (hsat : rx_sat I r) (hF : rx_facts F r) (hfs : rx_fsc z.1.length F) (hs : ∀ v ∈ st, rx_sc z.1.length z.2.2.1.length v) : rx_R D cl A s xa nL H0 (rx_jp I F z pc st) r ad H locs ls := by
  obtain ⟨h1, h2, h3, h4, h5, h6, h7⟩ := hR
  refine ⟨hsat, hF, ?_, ?_, h5, ?_, ?_⟩
  · show rx_fsc I.length F
    rw [hI]; exact hfs
  · show rx_W D cl A s xa I.length z.2.2.1 r ad H0 H locs
    rw [hI]; exact h4
  · show ∀ q ∈ rx_zlv z, rx_sc I.length z.2.2.1.length q.2
    rw [hI]; exact h6
  · show ∀ v ∈ st, rx_sc I.length z.2.2.1.length v
    rw [hI]; exact hs
/-- a way is among the goals, if its fact holds -/
theorem rx_way_ok {f : Nat × rx_E × rx_E} {pc : Nat} {st : List rx_V} (hR : rx_R D cl A s xa nL H0 z r ad H locs ls) (hf : rx_fact r f) (hc : f.1 ≤ 3) (h1 : f.2.1.1 < z.1.length) (h2 : f.2.2.1 < z.1.length) (hs : ∀ v ∈ st, rx_sc z.1.length z.2.2.1.length v)
    (K : ∀ z' ∈ rx_way z f pc st, rx_G p l e R s m args below meth c Q D cl A xa nL H0 z.1.length z.2.2.1.length r ad z') : W p l e R s m args below meth c H locs z.2.2.2.1 z.2.2.2.2.1 Q (F0 m pc ls (st.map (rx_iv r ad xa))) := by
  obtain ⟨k, x, y⟩ := f
  unfold rx_way at K
  dsimp only at K hc h1 h2
  split at K
  · rename_i al ah bl bh e1 e2
    have q1 := rx_bd_ok hR.1 e1
    have q2 := rx_bd_ok hR.1 e2
    obtain ⟨I2, F2, g1, g2, g3, g4, g5⟩ := rx_asm_ok (I := z.1) (F := z.2.1) hc hR.1 hR.2.1 hR.2.2.1 h1 h2 ⟨q1.1, q1.2.1⟩ ⟨q2.1, q2.2.1⟩ hf
    rw [g1] at K
    exact rx_at (K _ List.mem_cons_self) rx_same.rf rx_sameA.rf (rx_R_jp hR g5 g2 g3 g4 hs) rfl rfl rfl rfl
  · exact rx_at (K _ List.mem_cons_self) rx_same.rf rx_sameA.rf (rx_R_jp hR rfl hR.1 hR.2.1 hR.2.2.1 hs) rfl rfl rfl rfl
theorem rx_fork_ok {cnd : Jvm.ClassFile.Cond} {a b : rx_E} {tgt nx : Nat} {st : List rx_V} (hR : rx_R D cl A s xa nL H0 z r ad H locs ls) (ha : a.1 < z.1.length) (hb : b.1 < z.1.length) (hs : ∀ v ∈ st, rx_sc z.1.length z.2.2.1.length v)
    (K : ∀ z' ∈ rx_fork z cnd a b tgt nx st, rx_G p l e R s m args below meth c Q D cl A xa nL H0 z.1.length z.2.2.1.length r ad z') :
    (rx_holds cnd (rx_ev r a) (rx_ev r b) → W p l e R s m args below meth c H locs z.2.2.2.1 z.2.2.2.2.1 Q (F0 m tgt ls (st.map (rx_iv r ad xa)))) ∧ (¬ rx_holds cnd (rx_ev r a) (rx_ev r b) → W p l e R s m args below meth c H locs z.2.2.2.1 z.2.2.2.2.1 Q (F0 m nx ls (st.map (rx_iv r ad xa)))) := by
  obtain ⟨a1, a2⟩ := rx_nm_ok (e := a) hR.1
  obtain ⟨b1, b2⟩ := rx_nm_ok (e := b) hR.1
  obtain ⟨⟨i1, i2⟩, i3, i4⟩ := rx_cnd_in (c := cnd) (a2 ha) (b2 hb)
  rw [← a1, ← b1]
  refine ⟨fun h => ?_, fun h => ?_⟩
  · obtain ⟨f1, f2⟩ := rx_cnd_t h
    exact rx_way_ok hR f1 f2 i1 i2 hs fun z' hz => K z' (List.mem_append_left _ hz)
  · obtain ⟨f1, f2⟩ := rx_cnd_f h
    exact rx_way_ok hR f1 f2 i3 i4 hs fun z' hz => K z' (List.mem_append_right _ hz)
theorem rx_off_ok {pc tgt : Nat} {off : Int} (h : rx_off pc off = some tgt) : (pc : Int) + off = (tgt : Int) := by
  unfold rx_off at h
  split at h
  · cases h
    omega
  · cases h
theorem rx_okI_ok {I : rx_I} {a : rx_E} (h : rx_sat I r) (ho : rx_okI I a = true) : (Int32.ofInt (rx_ev r a)).toInt = rx_ev r a ∧ a.1 < I.length := by
  unfold rx_okI at ho
  obtain ⟨b, hb⟩ := Option.isSome_iff_exists.mp ho
  obtain ⟨lo, hi⟩ := b
  exact (rx_bi_ok h hb).2.2
theorem rx_okL_ok {I : rx_I} {a : rx_E} (h : rx_sat I r) (ho : rx_okL I a = true) : (Int64.ofInt (rx_ev r a)).toInt = rx_ev r a ∧ a.1 < I.length := by
  unfold rx_okL at ho
  obtain ⟨b, hb⟩ := Option.isSome_iff_exists.mp ho
  obtain ⟨lo, hi⟩ := b
  exact (rx_bl_ok h hb).2.2
/-- all conditions at once, of one int -/
theorem rx_lv_if (hexec : p.tables.exec = Jvm.exec) (hb : c.code = cc) {k n pc : Nat} {rest : List Value} {x : Int32} {cnd : Jvm.ClassFile.Cond} {off : Int} {tgt : Nat} (hdg : decode cc pc = .ok (.ifCond cnd off, 3)) (ht : (pc : Int) + off = (tgt : Int))
    (kt : rx_holds cnd x.toInt 0 → W p l e R s m args below meth c H locs k n Q (F0 m tgt ls rest)) (kf : ¬ rx_holds cnd x.toInt 0 → W p l e R s m args below meth c H locs k n Q (F0 m (pc + 3) ls rest)) : W p l e R s m args below meth c H locs k n Q (F0 m pc ls (.int x :: rest)) := by
  have z0 : (0 : Int32).toInt = 0 := Int32.toInt_zero
  have ex : (x = 0) ↔ (x.toInt = 0) := by rw [← z0]; exact Int32.toInt_inj.symm
  have el : (x < 0) ↔ (x.toInt < 0) := by rw [Int32.lt_iff_toInt_lt, z0]
  have eg : (0 < x) ↔ (0 < x.toInt) := by rw [Int32.lt_iff_toInt_lt, z0]
  have ege : (0 ≤ x) ↔ (0 ≤ x.toInt) := by rw [Int32.le_iff_toInt_le, z0]
  have ele : (x ≤ 0) ↔ (x.toInt ≤ 0) := by rw [Int32.le_iff_toInt_le, z0]
  cases cnd
  · exact lv_if_eq hexec hb hdg ht (fun h => kt (ex.mp h)) (fun h => kf (fun q => h (ex.mpr q)))
  · exact lv_if_ne hexec hb hdg ht (fun h => kt (fun q => h (ex.mpr q))) (fun h => kf (fun q => q (ex.mp h)))
  · exact lv_if_lt hexec hb hdg ht (fun h => kt (el.mp h)) (fun h => kf (fun q => h (el.mpr q)))
  · exact lv_if_ge hexec hb hdg ht (fun h => kt (ege.mp h)) (fun h => kf (fun q => h (ege.mpr q)))
  · exact lv_if_gt hexec hb hdg ht (fun h => kt (eg.mp h)) (fun h => kf (fun q => h (eg.mpr q)))
  · exact lv_if_le hexec hb hdg ht (fun h => kt (ele.mp h)) (fun h => kf (fun q => h (ele.mpr q)))
theorem rx_lv_icmp (hexec : p.tables.exec = Jvm.exec) (hb : c.code = cc) {k n pc : Nat} {rest : List Value} {x y : Int32} {cnd : Jvm.ClassFile.Cond} {off : Int} {tgt : Nat} (hdg : decode cc pc = .ok (.if_icmp cnd off, 3)) (ht : (pc : Int) + off = (tgt : Int))
    (kt : rx_holds cnd x.toInt y.toInt → W p l e R s m args below meth c H locs k n Q (F0 m tgt ls rest)) (kf : ¬ rx_holds cnd x.toInt y.toInt → W p l e R s m args below meth c H locs k n Q (F0 m (pc + 3) ls rest)) : W p l e R s m args below meth c H locs k n Q (F0 m pc ls (.int y :: .int x :: rest)) := by
  have ex : (x = y) ↔ (x.toInt = y.toInt) := Int32.toInt_inj.symm
  have el : (x < y) ↔ (x.toInt < y.toInt) := Int32.lt_iff_toInt_lt
  have eg : (y < x) ↔ (y.toInt < x.toInt) := Int32.lt_iff_toInt_lt
  have ege : (y ≤ x) ↔ (y.toInt ≤ x.toInt) := Int32.le_iff_toInt_le
  have ele : (x ≤ y) ↔ (x.toInt ≤ y.toInt) := Int32.le_iff_toInt_le
  cases cnd
  · exact lv_icmp_eq hexec hb hdg ht (fun h => kt (ex.mp h)) (fun h => kf (fun q => h (ex.mpr q)))
  · exact lv_icmp_ne hexec hb hdg ht (fun h => kt (fun q => h (ex.mpr q))) (fun h => kf (fun q => q (ex.mp h)))
  · exact lv_icmp_lt hexec hb hdg ht (fun h => kt (el.mp h)) (fun h => kf (fun q => h (el.mpr q)))
  · exact lv_icmp_ge hexec hb hdg ht (fun h => kt (ege.mp h)) (fun h => kf (fun q => h (ege.mpr q)))
  · exact lv_icmp_gt hexec hb hdg ht (fun h => kt (eg.mp h)) (fun h => kf (fun q => h (eg.mpr q)))
  · exact lv_icmp_le hexec hb hdg ht (fun h => kt (ele.mp h)) (fun h => kf (fun q => h (ele.mpr q)))
theorem rx_h_if_ok {cnd : Jvm.ClassFile.Cond} {off : Int} (hexec : p.tables.exec = Jvm.exec) (hb : c.code = cc) (hdg : decode cc (rx_zpc z) = .ok (.ifCond cnd off, 3)) (hR : rx_R D cl A s xa nL H0 z r ad H locs ls) (hz : rx_h_if cnd off z = some zs)
    (K : ∀ z' ∈ zs, rx_G p l e R s m args below meth c Q D cl A xa nL H0 z.1.length z.2.2.1.length r ad z') : W p l e R s m args below meth c H locs z.2.2.2.1 z.2.2.2.2.1 Q (F0 m (rx_zpc z) ls ((rx_zst z).map (rx_iv r ad xa))) := by
  unfold rx_h_if at hz
  split at hz
  · rename_i a t tgt ha ht
    split at hz
    · rename_i ho
      cases hz
      obtain ⟨o1, o2⟩ := rx_okI_ok hR.1 ho
      have hst := rx_stsc hR
      rw [rx_pi_ok ha] at hst ⊢
      obtain ⟨k1, k2⟩ := rx_fork_ok hR o2 (rx_pos hR.1) (fun v hv => hst v (List.mem_cons_of_mem _ hv)) K
      rw [rx_ev0 hR.1] at k1 k2
      exact rx_lv_if hexec hb hdg (rx_off_ok ht) (fun h => k1 (by rw [o1] at h; exact h)) (fun h => k2 (by rw [o1] at h; exact h))
    · cases hz
  · cases hz
theorem rx_h_icmp_ok {cnd : Jvm.ClassFile.Cond} {off : Int} (hexec : p.tables.exec = Jvm.exec) (hb : c.code = cc) (hdg : decode cc (rx_zpc z) = .ok (.if_icmp cnd off, 3)) (hR : rx_R D cl A s xa nL H0 z r ad H locs ls) (hz : rx_h_icmp cnd off z = some zs)
    (K : ∀ z' ∈ zs, rx_G p l e R s m args below meth c Q D cl A xa nL H0 z.1.length z.2.2.1.length r ad z') : W p l e R s m args below meth c H locs z.2.2.2.1 z.2.2.2.2.1 Q (F0 m (rx_zpc z) ls ((rx_zst z).map (rx_iv r ad xa))) := by
  unfold rx_h_icmp at hz
  split at hz
  · rename_i b t tgt hbb ht
    split at hz
    · rename_i a t2 ha
      split at hz
      · rename_i ho
        cases hz
        rw [Bool.and_eq_true] at ho
        obtain ⟨o1, o2⟩ := rx_okI_ok hR.1 ho.1
        obtain ⟨o3, o4⟩ := rx_okI_ok hR.1 ho.2
        have hst := rx_stsc hR
        have e2 := rx_pi_ok ha
        subst e2
        rw [rx_pi_ok hbb] at hst ⊢
        obtain ⟨k1, k2⟩ := rx_fork_ok hR o2 o4 (fun v hv => hst v (List.mem_cons_of_mem _ (List.mem_cons_of_mem _ hv))) K
        exact rx_lv_icmp hexec hb hdg (rx_off_ok ht) (fun h => k1 (by rw [o1, o3] at h; exact h)) (fun h => k2 (by rw [o1, o3] at h; exact h))
      · cases hz
    · cases hz
  · cases hz
theorem rx_lcmp_holds {cnd : Jvm.ClassFile.Cond} (x y : Int64) : rx_holds cnd (lg_cmp x y).toInt 0 ↔ rx_holds cnd x.toInt y.toInt := by
  have z0 : (0 : Int32).toInt = 0 := Int32.toInt_zero
  have ex : ((lg_cmp x y).toInt = 0) ↔ (x.toInt = y.toInt) := by rw [← z0, Int32.toInt_inj, lg_cmp_eq, Int64.toInt_inj]
  cases cnd
  · exact ex
  · exact not_congr ex
  · show (lg_cmp x y).toInt < 0 ↔ x.toInt < y.toInt
    rw [← z0, ← Int32.lt_iff_toInt_lt, lg_cmp_lt, Int64.lt_iff_toInt_lt]
  · show 0 ≤ (lg_cmp x y).toInt ↔ y.toInt ≤ x.toInt
    rw [← z0, ← Int32.le_iff_toInt_le, lg_cmp_ge, Int64.le_iff_toInt_le]
  · show 0 < (lg_cmp x y).toInt ↔ y.toInt < x.toInt
    rw [← z0, ← Int32.lt_iff_toInt_lt, lg_cmp_gt, Int64.lt_iff_toInt_lt]
  · show (lg_cmp x y).toInt ≤ 0 ↔ x.toInt ≤ y.toInt
    rw [← z0, ← Int32.le_iff_toInt_le, lg_cmp_le, Int64.le_iff_toInt_le]
theorem rx_h_lcmp_ok (hexec : p.tables.exec = Jvm.exec) (hb : c.code = cc) (hdg : decode cc (rx_zpc z) = .ok (.lcmp, 1)) (hR : rx_R D cl A s xa nL H0 z r ad H locs ls) (hz : rx_h_lcmp (decode cc (rx_zpc z + 1)) z = some zs)
    (K : ∀ z' ∈ zs, rx_G p l e R s m args below meth c Q D cl A xa nL H0 z.1.length z.2.2.1.length r ad z') : W p l e R s m args below meth c H locs z.2.2.2.1 z.2.2.2.2.1 Q (F0 m (rx_zpc z) ls ((rx_zst z).map (rx_iv r ad xa))) := by
  unfold rx_h_lcmp at hz
  split at hz
  · rename_i b t hbb
    split at hz
    · rename_i a t2 ha
      split at hz
      · rename_i cnd off hd2
        split at hz
        · rename_i tgt ht
          split at hz
          · rename_i ho
            cases hz
            rw [Bool.and_eq_true] at ho
            obtain ⟨o1, o2⟩ := rx_okL_ok hR.1 ho.1
            obtain ⟨o3, o4⟩ := rx_okL_ok hR.1 ho.2
            have hst := rx_stsc hR
            have e2 := rx_pl_ok ha
            subst e2
            rw [rx_pl_ok hbb] at hst ⊢
            obtain ⟨k1, k2⟩ := rx_fork_ok hR o2 o4 (fun v hv => hst v (List.mem_cons_of_mem _ (List.mem_cons_of_mem _ hv))) K
            refine W.lcmp hexec hb hdg ?_
            refine rx_lv_if hexec hb hd2 (rx_off_ok ht) (fun h => k1 ?_) (fun h => k2 ?_)
            · have h2 := (rx_lcmp_holds _ _).mp h
              rw [o1, o3] at h2
              exact h2
            · intro q
              refine h ((rx_lcmp_holds _ _).mpr ?_)
              rw [o1, o3]
              exact q
          · cases hz
        · cases hz
      · cases hz
    · cases hz
  · cases hz
theorem rx_h_goto_ok {off : Int} (hexec : p.tables.exec = Jvm.exec) (hb : c.code = cc) (hdg : decode cc (rx_zpc z) = .ok (.goto off, 3)) (hR : rx_R D cl A s xa nL H0 z r ad H locs ls) (hz : rx_h_goto off z = some zs)
    (K : ∀ z' ∈ zs, rx_G p l e R s m args below meth c Q D cl A xa nL H0 z.1.length z.2.2.1.length r ad z') : W p l e R s m args below meth c H locs z.2.2.2.1 z.2.2.2.2.1 Q (F0 m (rx_zpc z) ls ((rx_zst z).map (rx_iv r ad xa))) := by
  unfold rx_h_goto at hz
  split at hz
  · rename_i tgt ht
    cases hz
    exact lv_goto hexec hb hdg (rx_off_ok ht) (rx_at (K _ List.mem_cons_self) rx_same.rf rx_sameA.rf (rx_R_jp hR rfl hR.1 hR.2.1 hR.2.2.1 (rx_stsc hR)) rfl rfl rfl rfl)
  · cases hz
end RXB
end
section
/-! A REFLECTED MACHINE, part 6: switches, and what reads and writes cells -/
/-- a field: class, place, kind of its type (0 int, 1 boolean, 2 long, 3 reference), final, by a nest mate -/
abbrev rx_Q : Type := Nat × Nat × Nat × Bool × Bool
def rx_tyc (ty : FieldType) : Nat := match ty with
  | .int => 0
  | .boolean => 1
  | .long => 2
  | .object _ => 3
  | .array _ => 3
  | _ => 9
def rx_in01 (I : rx_I) (e : rx_E) : Bool := match rx_bi I e with
  | some (lo, hi) => decide (0 ≤ lo) && decide (hi ≤ 1)
  | none => false
def rx_fit (I : rx_I) (tc : Nat) (v : rx_V) : Bool := match tc with
  | 0 => (match v with
    | .inr (0, _) => true
    | _ => false)
  | 1 => (match v with
    | .inr (0, e) => rx_in01 I e
    | _ => false)
  | 2 => (match v with
    | .inr (1, _) => true
    | _ => false)
  | 3 => (match v with
    | .inl _ => true
    | _ => false)
  | _ => false
theorem rx_in01_ok {I : rx_I} {e : rx_E} {r : Nat → Int} (h : rx_sat I r) (hf : rx_in01 I e = true) : Int32.ofInt (rx_ev r e) = 0 ∨ Int32.ofInt (rx_ev r e) = 1 := by
  unfold rx_in01 at hf
  split at hf
  · rename_i lo hi he
    obtain ⟨h1, h2, -, -⟩ := rx_bi_ok h he
    rw [Bool.and_eq_true, decide_eq_true_eq, decide_eq_true_eq] at hf
    rcases (show rx_ev r e = 0 ∨ rx_ev r e = 1 by omega) with q | q
    · exact Or.inl (by rw [q]; rfl)
    · exact Or.inr (by rw [q]; rfl)
  · exact absurd hf Bool.false_ne_true
theorem rx_fit_ok {I : rx_I} {tc : Nat} {v : rx_V} {r : Nat → Int} {ad xa : Nat → Nat} {ty : FieldType} (h : rx_sat I r) (hf : rx_fit I tc v = true) (hty : rx_tyc ty = tc) : narrow ty (rx_iv r ad xa v) = rx_iv r ad xa v ∧ fits ty (rx_iv r ad xa v) = true := by
  subst hty
  have no : ∀ {P : Prop}, false = true → P := fun q => absurd q Bool.false_ne_true
  match ty, v, hf with
  | .int, .inr (0, e), _ => exact ⟨rfl, rfl⟩
  | .int, .inl _, hf => exact no hf
  | .int, .inr (_ + 1, _), hf => exact no hf
  | .boolean, .inr (0, e), hf =>
    have h2 : rx_in01 I e = true := hf
    rcases rx_in01_ok h h2 with q | q
    · show narrow .boolean (.int (Int32.ofInt (rx_ev r e))) = .int (Int32.ofInt (rx_ev r e)) ∧ fits .boolean (.int (Int32.ofInt (rx_ev r e))) = true
      rw [q]
      exact ⟨rfl, rfl⟩
    · show narrow .boolean (.int (Int32.ofInt (rx_ev r e))) = .int (Int32.ofInt (rx_ev r e)) ∧ fits .boolean (.int (Int32.ofInt (rx_ev r e))) = true
      rw [q]
      exact ⟨rfl, rfl⟩
  | .boolean, .inl _, hf => exact no hf
  | .boolean, .inr (_ + 1, _), hf => exact no hf
  | .long, .inr (1, e), _ => exact ⟨rfl, rfl⟩
  | .long, .inl _, hf => exact no hf
  | .long, .inr (0, _), hf => exact no hf
  | .long, .inr (_ + 2, _), hf => exact no hf
  | .object _, .inl none, _ => exact ⟨rfl, rfl⟩
  | .object _, .inl (some k), _ => exact ⟨rfl, rfl⟩
  | .object _, .inr _, hf => exact no hf
  | .array _, .inl none, _ => exact ⟨rfl, rfl⟩
  | .array _, .inl (some k), _ => exact ⟨rfl, rfl⟩
  | .array _, .inr _, hf => exact no hf
  | .byte, _, hf => exact no hf
  | .char, _, hf => exact no hf
  | .short, _, hf => exact no hf
  | .float, _, hf => exact no hf
  | .double, _, hf => exact no hf
/-- a field of a method's pool is what the table says -/
def rx_Fok (s : State) (args : Array Value) (Ts : List Jvm.Cond) (own : String) (cl : List vw_C) (idx : Nat) (q : rx_Q) : Prop :=
  ∃ (C : String) (T : u_T) (N : Nat) (ty : Nat → FieldType), cl[q.1]? = some (C, T, N) ∧ q.2.1 < N ∧ (∀ w ∈ u_ws C T N, w ∈ Ts) ∧ (∀ k, k < N → parseFieldDescriptor (T k).2.2.1 = some (ty k)) ∧ (∀ a, a < N → ∀ b, b < N → a ≠ b → (T a).2.1 ≠ (T b).2.1) ∧
    rx_tyc (ty q.2.1) = q.2.2.1 ∧ (T q.2.1).2.2.2 = q.2.2.2.1 ∧ (q.2.2.2.1 = true → q.2.2.2.2 = false → (T q.2.1).1 = own) ∧
    ((q.2.2.2.2 = false ∧ (Jvm.Cond.fieldLink own idx (T q.2.1).1 (T q.2.1).2.1 (T q.2.1).2.2.1).before args s = true) ∨ (q.2.2.2.2 = true ∧ ∃ host : String, (Jvm.Cond.fieldLinkNest own idx (T q.2.1).1 (T q.2.1).2.1 (T q.2.1).2.2.1 host).before args s = true))
def rx_nxh (ht : List rx_C) (z : rx_Z) (d : Nat) (st : List rx_V) : rx_Z := match z with
  | (I0, F1, _, c0, s0, pc0, lv0, _) => (I0, F1, ht, c0, s0, pc0 + d, lv0, st)
def rx_h_get (fr : Nat → Option rx_Q) (idx : Nat) (z : rx_Z) : Option (List rx_Z) := match rx_pr (rx_zst z), fr idx with
  | some (some k, t), some q => match (z.2.2.1)[k]? with
    | some (.inl (ci, fs)) => if ci = q.1 then (match fs[q.2.1]? with
      | some (.inl v) => some [rx_nx z 3 (v :: t)]
      | _ => none) else none
    | _ => none
  | _, _ => none
def rx_h_put (fr : Nat → Option rx_Q) (ini : Bool) (idx : Nat) (z : rx_Z) : Option (List rx_Z) := match rx_pv (rx_zst z), fr idx with
  | some (v, t), some q => match rx_pr t with
    | some (some k, t2) => match (z.2.2.1)[k]? with
      | some (.inl (ci, fs)) => if ci = q.1 ∧ q.2.1 < fs.length ∧ rx_fit z.1 q.2.2.1 v = true ∧ (q.2.2.2.1 = false ∨ (ini = true ∧ q.2.2.2.2 = false)) then some [rx_nxh ((z.2.2.1).set k (.inl (ci, fs.set q.2.1 (.inl v)))) z 3 t2] else none
      | _ => none
    | _ => none
  | _, _ => none
/-- an entry comes on top, if it is known -/
def rx_pushX (z : rx_Z) (x : rx_X) (t : List rx_V) : Option (List rx_Z) := match x with
  | .inl v => some [rx_nx z 1 (v :: t)]
  | .inr _ => none
/-- one entry each, for the places lo, lo + 1 .. -/
def rx_each (z : rx_Z) (ix : rx_E) (df : rx_X) (ov : List (Nat × rx_V)) (t : List rx_V) : Nat → Int → Option (List rx_Z)
  | 0, _ => some []
  | c + 1, lo => match rx_gt ov df lo.toNat, rx_each z ix df ov t c (lo + 1) with
    | .inl v, some l => some (rx_way z (2, ix, (0, lo)) (rx_zpc z + 1) (v :: t) ++ l)
    | _, _ => none
def rx_h_ald (okc : Nat → Bool) (z : rx_Z) : Option (List rx_Z) := match rx_pi (rx_zst z) with
  | some (ix, t) => match rx_pr t with
    | some (some k, t2) => match (z.2.2.1)[k]? with
      | some (.inr (tc, n, df, ov)) => if okc tc then (match rx_bi z.1 ix with
        | some (lo, hi) => if 0 ≤ lo ∧ hi < (n : Int) then
            (if lo = hi then rx_pushX z (rx_gt ov df lo.toNat) t2
             else if ov.all (fun q => decide ((q.1 : Int) < lo) || decide (hi < (q.1 : Int))) then rx_pushX z df t2
             else rx_each z (rx_nm z.1 ix) df ov t2 (hi - lo + 1).toNat lo)
          else none
        | none => none) else none
      | _ => none
    | _ => none
  | none => none
def rx_ovset (ov : List (Nat × rx_V)) (df : rx_X) (j : Nat) (v : rx_V) : List (Nat × rx_V) :=
  if (Sum.inl v : rx_X) = df then ov.filter (fun q => !(q.1 == j)) else (j, v) :: ov.filter (fun q => !(q.1 == j))
/-- a store at a known place -/
def rx_h_ast (okc : Nat → Bool) (okv : rx_I → List rx_C → Nat → rx_V → Bool) (z : rx_Z) : Option (List rx_Z) := match rx_pv (rx_zst z) with
  | some (v, t0) => match rx_pi t0 with
    | some (ix, t) => match rx_pr t with
      | some (some k, t2) => match (z.2.2.1)[k]? with
        | some (.inr (tc, n, df, ov)) => if okc tc && okv z.1 z.2.2.1 tc v then (match rx_bi z.1 ix with
          | some (lo, hi) => if 0 ≤ lo ∧ hi < (n : Int) ∧ lo = hi then some [rx_nxh ((z.2.2.1).set k (.inr (tc, n, df, rx_ovset ov df lo.toNat v))) z 1 t2] else none
          | none => none) else none
        | _ => none
      | _ => none
    | none => none
  | none => none
def rx_h_alen (z : rx_Z) : Option (List rx_Z) := match rx_pv (rx_zst z) with
  | some (.inl (some k), t) => match (z.2.2.1)[k]? with
    | some (.inr (_, n, _, _)) => some [rx_nx z 1 (rx_n (n : Int) :: t)]
    | _ => none
  | some (.inr (2, (_, 0)), t) => some [rx_nx z 1 (.inr (0, (1, 0)) :: t)]
  | _ => none
section RXH
variable {p : Program} {l : Launch} {e : Env} {R : Room} {s : State} {m : MethodId} {args : Array Value} {below : List Frame} {meth : Method} {c : Code} {Q : State → Prop}
variable {D : va_G} {cl : List vw_C} {A : Nat → Prop} {xa : Nat → Nat} {nL : Nat} {H0 H : Heap} {locs : List Loc} {ls : Array Slot} {r : Nat → Int} {ad : Nat → Nat}
variable {cc : ByteArray} {z : rx_Z} {zs : List rx_Z}
theorem rx_W_set {N : Nat} {ht : List rx_C} {ws : va_W} {tys : List (ClassId × FieldType)} {k : Nat} {x' : rx_C} {e' : va_E} {H1 : Heap} {locs1 : List Loc} (hK : va_K D cl tys s) (hl : ws.length = ht.length) (hc : ∀ (k : Nat) (x : rx_C), ht[k]? = some x → rx_csc N ht.length x ∧ ∃ e : va_E, ws[k]? = some (ad k, e) ∧ rx_cell cl tys r ad xa x e)
    (hx' : rx_csc N ht.length x') (he' : rx_cell cl tys r ad xa x' e') (hP1 : va_P D cl (ws.set k (ad k, e')) H1) (hD1 : va_D A (ws.set k (ad k, e'))) (hS1 : va_S A H0 H1 locs1) : rx_W D cl A s xa N (ht.set k x') r ad H0 H1 locs1 := by
  refine ⟨ws.set k (ad k, e'), tys, hK, hP1, hD1, hS1, by rw [List.length_set, List.length_set]; exact hl, fun j x hj => ?_⟩
  rw [List.length_set]
  by_cases hjk : j = k
  · subst hjk
    have hlt : j < ht.length := by
      have := (List.getElem?_eq_some_iff.mp hj).1
      rwa [List.length_set] at this
    rw [List.getElem?_set_self hlt] at hj
    cases hj
    exact ⟨hx', e', by rw [List.getElem?_set_self (by rw [hl]; exact hlt)], he'⟩
  · rw [List.getElem?_set_ne (Ne.symm hjk)] at hj
    obtain ⟨h1, e2, h2, h3⟩ := hc j x hj
    exact ⟨h1, e2, by rw [List.getElem?_set_ne (Ne.symm hjk)]; exact h2, h3⟩
theorem rx_R_nxh {ht' : List rx_C} {H1 : Heap} {locs1 : List Loc} {d : Nat} {st : List rx_V} (hR : rx_R D cl A s xa nL H0 z r ad H locs ls) (hlen : ht'.length = (z.2.2.1).length) (hW : rx_W D cl A s xa z.1.length ht' r ad H0 H1 locs1) (hs : ∀ v ∈ st, rx_sc z.1.length (z.2.2.1).length v) : rx_R D cl A s xa nL H0 (rx_nxh ht' z d st) r ad H1 locs1 ls := by
  obtain ⟨h1, h2, h3, -, h5, h6, -⟩ := hR
  refine ⟨h1, h2, h3, hW, h5, ?_, ?_⟩
  · show ∀ q ∈ rx_zlv z, rx_sc z.1.length ht'.length q.2
    rw [hlen]; exact h6
  · show ∀ v ∈ st, rx_sc z.1.length ht'.length v
    rw [hlen]; exact hs
theorem rx_h_get_ok {fr : Nat → Option rx_Q} {idx : Nat} {Ts : List Jvm.Cond} {own : String} (hexec : p.tables.exec = Jvm.exec) (hb : c.code = cc) (hts : ∀ w ∈ Ts, w.before args s = true) (hown : s.vm.findClass own = some m.cls) (hF : ∀ q, fr idx = some q → rx_Fok s args Ts own cl idx q) (hdg : decode cc (rx_zpc z) = .ok (.getfield idx, 3))
    (hR : rx_R D cl A s xa nL H0 z r ad H locs ls) (hz : rx_h_get fr idx z = some zs)
    (K : ∀ z' ∈ zs, rx_G p l e R s m args below meth c Q D cl A xa nL H0 z.1.length z.2.2.1.length r ad z') : W p l e R s m args below meth c H locs z.2.2.2.1 z.2.2.2.2.1 Q (F0 m (rx_zpc z) ls ((rx_zst z).map (rx_iv r ad xa))) := by
  unfold rx_h_get at hz
  split at hz
  · rename_i k t q hst hq
    split at hz
    · rename_i ci fs hht
      split at hz
      · rename_i hci
        split at hz
        · rename_i v hfs
          cases hz
          subst hci
          obtain ⟨ws, tys, hK, hP, hD, hS, hl, hc⟩ := id hR.2.2.2.1
          obtain ⟨hcs, e0, hw, hcell⟩ := hc k _ hht
          obtain ⟨vs, he0, hlen, hvs⟩ := hcell
          subst he0
          obtain ⟨w, hw2, hok⟩ := hvs _ _ hfs
          have hok2 : w = rx_iv r ad xa v := hok
          subst hok2
          have hsc : rx_sc z.1.length z.2.2.1.length v := hcs _ _ hfs
          have hsts := rx_stsc hR
          rw [rx_pr_ok hst] at hsts ⊢
          have kk := rx_at (K _ List.mem_cons_self) rx_same.rf rx_sameA.rf (rx_R_nx hR fun x hx => by
            rcases List.mem_cons.mp hx with h | h
            · subst h; exact hsc
            · exact hsts x (List.mem_cons_of_mem _ h)) (pc := rx_zpc z + 3) (vs := rx_iv r ad xa v :: t.map (rx_iv r ad xa)) rfl rfl rfl rfl
          obtain ⟨C, T, N, ty, f1, f2, f3, f4, f5, f6, f7, f8, f9⟩ := hF q hq
          rcases f9 with ⟨-, f9⟩ | ⟨-, host, f9⟩
          · exact va_get hexec hb hts f3 hown hK hP k hw f1 q.2.1 f2 f9 (fun _ h => h) hw2 hdg kk
          · exact va_getN hexec hb hts f3 hown hK hP k hw f1 q.2.1 f2 f9 (fun _ h => h) hw2 hdg kk
        · cases hz
      · cases hz
    · cases hz
  · cases hz
theorem rx_h_put_ok {fr : Nat → Option rx_Q} {ini : Bool} {idx : Nat} {Ts : List Jvm.Cond} {own : String} (hexec : p.tables.exec = Jvm.exec) (hb : c.code = cc) (hts : ∀ w ∈ Ts, w.before args s = true) (hown : s.vm.findClass own = some m.cls) (hini : ini = true → meth.name = "<init>") (hF : ∀ q, fr idx = some q → rx_Fok s args Ts own cl idx q) (hdg : decode cc (rx_zpc z) = .ok (.putfield idx, 3))
    (hR : rx_R D cl A s xa nL H0 z r ad H locs ls) (hz : rx_h_put fr ini idx z = some zs)
    (K : ∀ z' ∈ zs, rx_G p l e R s m args below meth c Q D cl A xa nL H0 z.1.length z.2.2.1.length r ad z') : W p l e R s m args below meth c H locs z.2.2.2.1 z.2.2.2.2.1 Q (F0 m (rx_zpc z) ls ((rx_zst z).map (rx_iv r ad xa))) := by
  unfold rx_h_put at hz
  split at hz
  · rename_i v t q hst hq
    split at hz
    · rename_i k t2 hst2
      split at hz
      · rename_i ci fs hht
        split at hz
        · rename_i hcond
          obtain ⟨hci, hlt, hfit, hfin⟩ := hcond
          cases hz
          subst hci
          obtain ⟨ws, tys, hK, hP, hD, hS, hl, hc⟩ := id hR.2.2.2.1
          obtain ⟨hcs, e0, hw, hcell⟩ := hc k _ hht
          obtain ⟨vs, he0, hlen, hvs⟩ := hcell
          subst he0
          have hsts := rx_stsc hR
          have e2 := rx_pr_ok hst2
          subst e2
          rw [rx_pv_ok hst] at hsts ⊢
          obtain ⟨C, T, N, ty, f1, f2, f3, f4, f5, f6, f7, f8, f9⟩ := hF q hq
          obtain ⟨n1, n2⟩ := rx_fit_ok (ad := ad) (xa := xa) hR.1 hfit f6
          have hsv : rx_sc z.1.length z.2.2.1.length v := hsts _ List.mem_cons_self
          have kk : ∀ (H1 : Heap) (locs1 : List Loc), va_P D cl (ws.set k (ad k, .inr (q.1, vs.set q.2.1 (rx_iv r ad xa v)))) H1 → va_D A (ws.set k (ad k, .inr (q.1, vs.set q.2.1 (rx_iv r ad xa v)))) → va_S A H0 H1 locs1 → W p l e R s m args below meth c H1 locs1 z.2.2.2.1 z.2.2.2.2.1 Q (F0 m (rx_zpc z + 3) ls (t2.map (rx_iv r ad xa))) := by
            intro H1 locs1 hP1 hD1 hS1
            refine rx_at (K _ List.mem_cons_self) rx_same.rf rx_sameA.rf (rx_R_nxh hR (by rw [List.length_set]) (rx_W_set hK hl hc ?_ ?_ hP1 hD1 hS1) fun x hx => hsts x (List.mem_cons_of_mem _ (List.mem_cons_of_mem _ hx))) rfl rfl rfl rfl
            · intro j f hj
              by_cases hjk : j = q.2.1
              · subst hjk
                rw [List.getElem?_set_self hlt] at hj
                cases hj
                exact hsv
              · rw [List.getElem?_set_ne (Ne.symm hjk)] at hj
                exact hcs j f hj
            · refine ⟨_, rfl, by rw [List.length_set, List.length_set]; exact hlen, fun j f hj => ?_⟩
              by_cases hjk : j = q.2.1
              · subst hjk
                rw [List.getElem?_set_self hlt] at hj
                cases hj
                exact ⟨_, by rw [List.getElem?_set_self (by rw [hlen]; exact hlt)], rfl⟩
              · rw [List.getElem?_set_ne (Ne.symm hjk)] at hj
                obtain ⟨w, g1, g2⟩ := hvs j f hj
                exact ⟨w, by rw [List.getElem?_set_ne (Ne.symm hjk)]; exact g1, g2⟩
          rcases hfin with hfin | ⟨hi, hnest⟩
          · rcases f9 with ⟨-, f9⟩ | ⟨-, host, f9⟩
            · exact va_put hexec hb hts f3 ty f4 f5 hown hK hP hD hS k hw f1 q.2.1 f2 f9 (fun _ h => h) (by rw [f7]; exact hfin) (f4 _ f2) n1 n2 (by rw [hlen]; exact hlt) hdg kk
            · exact va_putN hexec hb hts f3 ty f4 f5 hown hK hP hD hS k hw f1 q.2.1 f2 f9 (fun _ h => h) (by rw [f7]; exact hfin) (f4 _ f2) n1 n2 (by rw [hlen]; exact hlt) hdg kk
          · rcases f9 with ⟨-, f9⟩ | ⟨f9, -⟩
            · cases hfb : q.2.2.2.1 with
              | false => exact va_put hexec hb hts f3 ty f4 f5 hown hK hP hD hS k hw f1 q.2.1 f2 f9 (fun _ h => h) (by rw [f7]; exact hfb) (f4 _ f2) n1 n2 (by rw [hlen]; exact hlt) hdg kk
              | true => exact va_putF hexec hb hts f3 ty f4 f5 hown hK hP hD hS k hw f1 q.2.1 f2 f9 (fun _ h => h) (by rw [f7]; exact hfb) (hini hi) (f8 hfb hnest) (f4 _ f2) n1 n2 (by rw [hlen]; exact hlt) hdg kk
            · rw [hnest] at f9
              exact absurd f9 Bool.false_ne_true
        · cases hz
      · cases hz
    · cases hz
  · cases hz
end RXH
end
section
/-! A REFLECTED MACHINE, part 7: rows -/
def rx_isTc (k : Nat) (tc : Nat) : Bool := tc == k
def rx_isRef (tc : Nat) : Bool := decide (5 ≤ tc)
section RXA
variable {p : Program} {l : Launch} {e : Env} {R : Room} {s : State} {m : MethodId} {args : Array Value} {below : List Frame} {meth : Method} {c : Code} {Q : State → Prop}
variable {D : va_G} {cl : List vw_C} {A : Nat → Prop} {xa : Nat → Nat} {nL : Nat} {H0 H : Heap} {locs : List Loc} {ls : Array Slot} {r : Nat → Int} {ad : Nat → Nat}
variable {cc : ByteArray} {z : rx_Z} {zs : List rx_Z}
/-- a row is in the table: an entry's bounds -/
theorem rx_ixIn {ix : rx_E} {I : rx_I} {lo hi : Int} {n : Nat} (h : rx_sat I r) (hb : rx_bi I ix = some (lo, hi)) (h0 : 0 ≤ lo) (hn : hi < (n : Int)) : vp_in (Int32.ofInt (rx_ev r ix)) n ∧ (Int32.ofInt (rx_ev r ix)).toNatClampNeg = (rx_ev r ix).toNat ∧ lo ≤ rx_ev r ix ∧ rx_ev r ix ≤ hi ∧ ix.1 < I.length := by
  obtain ⟨h1, h2, h3, h4⟩ := rx_bi_ok h hb
  refine ⟨vp_in_iff.mpr (by rw [h3]; omega), ?_, h1, h2, h4⟩
  show (Int32.ofInt (rx_ev r ix)).toInt.toNat = _
  rw [h3]
theorem rx_pushX_ok {x : rx_X} {t : List rx_V} {w : Value} (hR : rx_R D cl A s xa nL H0 z r ad H locs ls) (hz : rx_pushX z x t = some zs) (hsc : rx_xsc z.1.length z.2.2.1.length x) (hx : rx_ok r ad xa x w) (ht : ∀ v ∈ t, rx_sc z.1.length z.2.2.1.length v)
    (K : ∀ z' ∈ zs, rx_G p l e R s m args below meth c Q D cl A xa nL H0 z.1.length z.2.2.1.length r ad z') : W p l e R s m args below meth c H locs z.2.2.2.1 z.2.2.2.2.1 Q (F0 m (rx_zpc z + 1) ls (w :: t.map (rx_iv r ad xa))) := by
  unfold rx_pushX at hz
  split at hz
  · rename_i v
    cases hz
    have hw : w = rx_iv r ad xa v := hx
    subst hw
    refine rx_at (K _ List.mem_cons_self) rx_same.rf rx_sameA.rf (rx_R_nx hR fun y hy => ?_) rfl rfl rfl rfl
    rcases List.mem_cons.mp hy with h | h
    · subst h; exact hsc
    · exact ht y h
  · cases hz
theorem rx_each_ok {ix : rx_E} {df : rx_X} {ov : List (Nat × rx_V)} {t : List rx_V} (hR : rx_R D cl A s xa nL H0 z r ad H locs ls) (hix : ix.1 < z.1.length) (ht : ∀ v ∈ t, rx_sc z.1.length z.2.2.1.length v) : ∀ (k : Nat) (lo : Int) (zs : List rx_Z), rx_each z ix df ov t k lo = some zs → lo ≤ rx_ev r ix → rx_ev r ix < lo + k → (∀ j : Nat, (j : Int) = rx_ev r ix → rx_xsc z.1.length z.2.2.1.length (rx_gt ov df j)) → 0 ≤ lo →
    ∀ w : Value, rx_ok r ad xa (rx_gt ov df (rx_ev r ix).toNat) w → (∀ z' ∈ zs, rx_G p l e R s m args below meth c Q D cl A xa nL H0 z.1.length z.2.2.1.length r ad z') → W p l e R s m args below meth c H locs z.2.2.2.1 z.2.2.2.2.1 Q (F0 m (rx_zpc z + 1) ls (w :: t.map (rx_iv r ad xa))) := by
  intro k
  induction k with
  | zero =>
    intro lo zs _ h1 h2
    exact absurd h2 (by omega)
  | succ k ih =>
    intro lo zs hz h1 h2 hsc h0 w hw K
    rw [rx_each] at hz
    split at hz
    · rename_i v l hv hl
      cases hz
      by_cases hq : rx_ev r ix = lo
      · have e1 : (rx_ev r ix).toNat = lo.toNat := by rw [hq]
        rw [e1, hv] at hw
        have hw2 : w = rx_iv r ad xa v := hw
        subst hw2
        have hs2 := hsc lo.toNat (by omega)
        rw [hv] at hs2
        refine rx_way_ok (st := v :: t) hR (f := (2, ix, (0, lo))) ?_ (Nat.le_of_ble_eq_true rfl) hix (rx_pos hR.1) (fun y hy => ?_) fun z' hz' => K z' (List.mem_append_left _ hz')
        · show rx_ev r ix = rx_ev r (0, lo)
          rw [rx_ev0 hR.1]
          exact hq
        · rcases List.mem_cons.mp hy with h | h
          · subst h; exact hs2
          · exact ht y h
      · exact ih (lo + 1) l hl (by omega) (by omega) hsc (by omega) w hw fun z' hz' => K z' (List.mem_append_right _ hz')
    · cases hz
theorem rx_gt_out {ov : List (Nat × rx_V)} {df : rx_X} {lo hi : Int} {j : Nat} (h : ov.all (fun q => decide ((q.1 : Int) < lo) || decide (hi < (q.1 : Int))) = true) (h1 : lo ≤ (j : Int)) (h2 : (j : Int) ≤ hi) : rx_gt ov df j = df := by
  unfold rx_gt
  split
  · rename_i v hv
    have := List.all_eq_true.mp h _ (rx_lk_mem hv)
    rw [Bool.or_eq_true, decide_eq_true_eq, decide_eq_true_eq] at this
    dsimp only at this
    omega
  · rfl
theorem rx_h_ald_ok {okc : Nat → Bool} (hR : rx_R D cl A s xa nL H0 z r ad H locs ls) (hz : rx_h_ald okc z = some zs)
    (row : ∀ (ws : va_W) (tys : List (ClassId × FieldType)) (k n tc t0 : Nat) (cA : ClassId) (x : rx_cont) (i : Int32) (rest : List Value), okc tc = true → va_K D cl tys s → va_P D cl ws H → ws[k]? = some (ad k, .inl (cA, n, x)) → tys[t0]? = some (cA, rx_ty cl tc) → rx_sh tc x → vp_in i n →
      W p l e R s m args below meth c H locs z.2.2.2.1 z.2.2.2.2.1 Q (F0 m (rx_zpc z + 1) ls (rx_el x i.toNatClampNeg :: rest)) → W p l e R s m args below meth c H locs z.2.2.2.1 z.2.2.2.2.1 Q (F0 m (rx_zpc z) ls (.int i :: .ref (ad k) :: rest)))
    (K : ∀ z' ∈ zs, rx_G p l e R s m args below meth c Q D cl A xa nL H0 z.1.length z.2.2.1.length r ad z') : W p l e R s m args below meth c H locs z.2.2.2.1 z.2.2.2.2.1 Q (F0 m (rx_zpc z) ls ((rx_zst z).map (rx_iv r ad xa))) := by
  unfold rx_h_ald at hz
  split at hz
  · rename_i ix t hix
    split at hz
    · rename_i k t2 hk
      split at hz
      · rename_i tc n df ov hht
        split at hz
        · rename_i hokc
          split at hz
          · rename_i lo hi hbi
            split at hz
            · rename_i hrange
              obtain ⟨ws, tys, hK, hP, hD, hS, hl, hc⟩ := id hR.2.2.2.1
              obtain ⟨hcs, e0, hw, hcell⟩ := hc k _ hht
              obtain ⟨cA, t0, x, he0, htys, hsh, hel⟩ := hcell
              subst he0
              obtain ⟨i1, i2, i3, i4, i5⟩ := rx_ixIn hR.1 hbi hrange.1 hrange.2
              have hsts := rx_stsc hR
              have e2 := rx_pr_ok hk
              subst e2
              rw [rx_pi_ok hix] at hsts ⊢
              refine row ws tys k n tc t0 cA x _ _ hokc hK hP hw htys hsh i1 ?_
              rw [i2]
              have hin : (rx_ev r ix).toNat < n := by omega
              have hval := hel _ hin
              have hscv := hcs _ hin
              have ht2 : ∀ v ∈ t2, rx_sc z.1.length z.2.2.1.length v := fun v hv => hsts v (List.mem_cons_of_mem _ (List.mem_cons_of_mem _ hv))
              split at hz
              · rename_i heq
                have e3 : lo.toNat = (rx_ev r ix).toNat := by omega
                rw [e3] at hz
                exact rx_pushX_ok hR hz hscv hval ht2 K
              · split at hz
                · rename_i hall
                  have e4 : rx_gt ov df (rx_ev r ix).toNat = df := rx_gt_out hall (by omega) (by omega)
                  rw [e4] at hval hscv
                  exact rx_pushX_ok hR hz hscv hval ht2 K
                · obtain ⟨m1, m2⟩ := rx_nm_ok (e := ix) hR.1
                  refine rx_each_ok hR (m2 i5) ht2 _ lo zs hz (by rw [m1]; exact i3) (by rw [m1]; omega) (fun j hj => ?_) hrange.1 _ ?_ K
                  · have : j = (rx_ev r ix).toNat := by rw [m1] at hj; omega
                    rw [this]
                    exact hscv
                  · rw [m1]
                    exact hval
            · cases hz
          · cases hz
        · cases hz
      · cases hz
    · cases hz
  · cases hz
theorem rx_ovset_gt {ov : List (Nat × rx_V)} {df : rx_X} {j i : Nat} {v : rx_V} : rx_gt (rx_ovset ov df j v) df i = if i = j then .inl v else rx_gt ov df i := by
  have hf : ∀ (ov : List (Nat × rx_V)), rx_lk (ov.filter (fun q => !(q.1 == j))) i = if i = j then none else rx_lk ov i := by
    intro ov
    induction ov with
    | nil => by_cases h : i = j <;> simp [rx_lk, h]
    | cons q ov ih =>
      by_cases hq : q.1 = j
      · rw [List.filter_cons_of_neg (by simp [hq]), ih]
        by_cases h : i = j
        · rw [if_pos h, if_pos h]
        · rw [if_neg h, if_neg h, rx_lk, if_neg (fun z => h (by rw [← z, hq]))]
      · rw [List.filter_cons_of_pos (by simp [hq]), rx_lk, ih]
        by_cases h : i = j
        · rw [if_pos h, if_pos h, if_neg (fun z => hq (by rw [z, h]))]
        · rw [if_neg h, if_neg h, rx_lk]
  unfold rx_ovset
  by_cases hd : (Sum.inl v : rx_X) = df
  · rw [if_pos hd]
    unfold rx_gt
    rw [hf]
    by_cases h : i = j
    · rw [if_pos h, if_pos h]
      exact hd.symm
    · rw [if_neg h, if_neg h]
  · rw [if_neg hd]
    unfold rx_gt
    rw [rx_lk, hf]
    dsimp only
    by_cases h : i = j
    · rw [if_pos h.symm, if_pos h]
    · rw [if_neg (fun z => h z.symm), if_neg h, if_neg h]
theorem rx_h_ast_ok {okc : Nat → Bool} {okv : rx_I → List rx_C → Nat → rx_V → Bool} (hR : rx_R D cl A s xa nL H0 z r ad H locs ls) (hz : rx_h_ast okc okv z = some zs)
    (row : ∀ (ws : va_W) (tys : List (ClassId × FieldType)) (k n tc t0 : Nat) (cA : ClassId) (x : rx_cont) (i : Int32) (v : rx_V) (rest : List Value), okc tc = true → okv z.1 z.2.2.1 tc v = true → va_K D cl tys s → va_P D cl ws H → va_D A ws → va_S A H0 H locs → (∀ (k : Nat) (x : rx_C), z.2.2.1[k]? = some x → ∃ e : va_E, ws[k]? = some (ad k, e) ∧ rx_cell cl tys r ad xa x e) → ws[k]? = some (ad k, .inl (cA, n, x)) → tys[t0]? = some (cA, rx_ty cl tc) → rx_sh tc x → vp_in i n →
      (∀ (x' : rx_cont) (H1 : Heap) (locs1 : List Loc), rx_sh tc x' → (∀ j : Nat, rx_el x' j = if j = i.toNatClampNeg then rx_iv r ad xa v else rx_el x j) → va_P D cl (ws.set k (ad k, .inl (cA, n, x'))) H1 → va_D A (ws.set k (ad k, .inl (cA, n, x'))) → va_S A H0 H1 locs1 → W p l e R s m args below meth c H1 locs1 z.2.2.2.1 z.2.2.2.2.1 Q (F0 m (rx_zpc z + 1) ls rest)) →
      W p l e R s m args below meth c H locs z.2.2.2.1 z.2.2.2.2.1 Q (F0 m (rx_zpc z) ls (rx_iv r ad xa v :: .int i :: .ref (ad k) :: rest)))
    (K : ∀ z' ∈ zs, rx_G p l e R s m args below meth c Q D cl A xa nL H0 z.1.length z.2.2.1.length r ad z') : W p l e R s m args below meth c H locs z.2.2.2.1 z.2.2.2.2.1 Q (F0 m (rx_zpc z) ls ((rx_zst z).map (rx_iv r ad xa))) := by
  unfold rx_h_ast at hz
  split at hz
  · rename_i v tt hv
    split at hz
    · rename_i ix t hix
      split at hz
      · rename_i k t2 hk
        split at hz
        · rename_i tc n df ov hht
          split at hz
          · rename_i hok
            rw [Bool.and_eq_true] at hok
            split at hz
            · rename_i lo hi hbi
              split at hz
              · rename_i hrange
                cases hz
                obtain ⟨ws, tys, hK, hP, hD, hS, hl, hc⟩ := id hR.2.2.2.1
                obtain ⟨hcs, e0, hw, hcell⟩ := hc k _ hht
                obtain ⟨cA, t0, x, he0, htys, hsh, hel⟩ := hcell
                subst he0
                obtain ⟨i1, i2, i3, i4, i5⟩ := rx_ixIn hR.1 hbi hrange.1 hrange.2.1
                have hsts := rx_stsc hR
                have e2 := rx_pr_ok hk
                subst e2
                have e3 := rx_pi_ok hix
                subst e3
                rw [rx_pv_ok hv] at hsts ⊢
                have hj : lo.toNat = (rx_ev r ix).toNat := by omega
                refine row ws tys k n tc t0 cA x _ v _ hok.1 hok.2 hK hP hD hS (fun k x hx => (hc k x hx).2) hw htys hsh i1 fun x' H1 locs1 hsh' hel' hP1 hD1 hS1 => ?_
                refine rx_at (K _ List.mem_cons_self) rx_same.rf rx_sameA.rf (rx_R_nxh hR (by rw [List.length_set]) (rx_W_set hK hl hc ?_ ?_ hP1 hD1 hS1) fun y hy => hsts y (List.mem_cons_of_mem _ (List.mem_cons_of_mem _ (List.mem_cons_of_mem _ hy)))) rfl rfl rfl rfl
                · intro j hjn
                  rw [rx_ovset_gt]
                  split
                  · exact hsts _ List.mem_cons_self
                  · exact hcs j hjn
                · refine ⟨cA, t0, x', rfl, htys, hsh', fun j hjn => ?_⟩
                  rw [rx_ovset_gt, hel' j, i2, hj]
                  split
                  · exact rfl
                  · exact hel j hjn
              · cases hz
            · cases hz
          · cases hz
        · cases hz
      · cases hz
    · cases hz
  · cases hz
end RXA
end
section
/-! A REFLECTED MACHINE, part 8: what rows do by their kinds, and new cells -/
section RXM
variable {p : Program} {l : Launch} {e : Env} {R : Room} {s : State} {m : MethodId} {args : Array Value} {below : List Frame} {meth : Method} {c : Code} {Q : State → Prop}
variable {D : va_G} {cl : List vw_C} {A : Nat → Prop} {xa : Nat → Nat} {nL : Nat} {H0 H : Heap} {locs : List Loc} {ls : Array Slot} {r : Nat → Int} {ad : Nat → Nat}
variable {cc : ByteArray} {z : rx_Z} {zs : List rx_Z}
theorem rx_isTc_ok {k tc : Nat} (h : rx_isTc k tc = true) : tc = k := by
  unfold rx_isTc at h
  exact beq_iff_eq.mp h
theorem rx_isRef_ok {tc : Nat} (h : rx_isRef tc = true) : ∃ n, tc = n + 5 := by
  unfold rx_isRef at h
  rw [decide_eq_true_eq] at h
  exact ⟨tc - 5, by omega⟩
theorem rx_iald (hexec : p.tables.exec = Jvm.exec) (hb : c.code = cc) (hdg : decode cc (rx_zpc z) = .ok (.iaload, 1)) (hR : rx_R D cl A s xa nL H0 z r ad H locs ls) (hz : rx_h_ald (rx_isTc 0) z = some zs)
    (K : ∀ z' ∈ zs, rx_G p l e R s m args below meth c Q D cl A xa nL H0 z.1.length z.2.2.1.length r ad z') : W p l e R s m args below meth c H locs z.2.2.2.1 z.2.2.2.2.1 Q (F0 m (rx_zpc z) ls ((rx_zst z).map (rx_iv r ad xa))) := by
  refine rx_h_ald_ok hR hz (fun ws tys k n tc t0 cA x i rest hok hK hP hw ht hsh hin kk => ?_) K
  have h0 := rx_isTc_ok hok
  subst h0
  obtain ⟨f, hf⟩ := hsh
  subst hf
  exact va_iald hexec hb hK hP k t0 hw ht hin hdg kk
theorem rx_zald (hexec : p.tables.exec = Jvm.exec) (hb : c.code = cc) (hdg : decode cc (rx_zpc z) = .ok (.baload, 1)) (hR : rx_R D cl A s xa nL H0 z r ad H locs ls) (hz : rx_h_ald (rx_isTc 1) z = some zs)
    (K : ∀ z' ∈ zs, rx_G p l e R s m args below meth c Q D cl A xa nL H0 z.1.length z.2.2.1.length r ad z') : W p l e R s m args below meth c H locs z.2.2.2.1 z.2.2.2.2.1 Q (F0 m (rx_zpc z) ls ((rx_zst z).map (rx_iv r ad xa))) := by
  refine rx_h_ald_ok hR hz (fun ws tys k n tc t0 cA x i rest hok hK hP hw ht hsh hin kk => ?_) K
  have h0 := rx_isTc_ok hok
  subst h0
  obtain ⟨f, hf⟩ := hsh
  subst hf
  exact va_zald hexec hb hK hP k t0 hw ht hin hdg kk
theorem rx_lald (hexec : p.tables.exec = Jvm.exec) (hb : c.code = cc) (hdg : decode cc (rx_zpc z) = .ok (.laload, 1)) (hR : rx_R D cl A s xa nL H0 z r ad H locs ls) (hz : rx_h_ald (rx_isTc 2) z = some zs)
    (K : ∀ z' ∈ zs, rx_G p l e R s m args below meth c Q D cl A xa nL H0 z.1.length z.2.2.1.length r ad z') : W p l e R s m args below meth c H locs z.2.2.2.1 z.2.2.2.2.1 Q (F0 m (rx_zpc z) ls ((rx_zst z).map (rx_iv r ad xa))) := by
  refine rx_h_ald_ok hR hz (fun ws tys k n tc t0 cA x i rest hok hK hP hw ht hsh hin kk => ?_) K
  have h0 := rx_isTc_ok hok
  subst h0
  obtain ⟨f, hf⟩ := hsh
  subst hf
  exact va_lald hexec hb hK hP k t0 hw ht hin hdg kk
theorem rx_aald (hexec : p.tables.exec = Jvm.exec) (hb : c.code = cc) (hdg : decode cc (rx_zpc z) = .ok (.aaload, 1)) (hR : rx_R D cl A s xa nL H0 z r ad H locs ls) (hz : rx_h_ald rx_isRef z = some zs)
    (K : ∀ z' ∈ zs, rx_G p l e R s m args below meth c Q D cl A xa nL H0 z.1.length z.2.2.1.length r ad z') : W p l e R s m args below meth c H locs z.2.2.2.1 z.2.2.2.2.1 Q (F0 m (rx_zpc z) ls ((rx_zst z).map (rx_iv r ad xa))) := by
  refine rx_h_ald_ok hR hz (fun ws tys k n tc t0 cA x i rest hok hK hP hw ht hsh hin kk => ?_) K
  obtain ⟨q, h0⟩ := rx_isRef_ok hok
  subst h0
  obtain ⟨f, hf⟩ := hsh
  subst hf
  exact va_aldq hexec hb hK hP k t0 hw ht hin hdg kk
theorem rx_fit_int {I : rx_I} {v : rx_V} (h : rx_fit I 0 v = true) : ∃ q : rx_E, v = .inr (0, q) := by
  match v, h with
  | .inr (0, q), _ => exact ⟨q, rfl⟩
  | .inl _, h => exact absurd (show false = true from h) Bool.false_ne_true
  | .inr (_ + 1, _), h => exact absurd (show false = true from h) Bool.false_ne_true
theorem rx_fit_bool {I : rx_I} {v : rx_V} (h : rx_fit I 1 v = true) : ∃ q : rx_E, v = .inr (0, q) ∧ rx_in01 I q = true := by
  match v, h with
  | .inr (0, q), h => exact ⟨q, rfl, h⟩
  | .inl _, h => exact absurd (show false = true from h) Bool.false_ne_true
  | .inr (_ + 1, _), h => exact absurd (show false = true from h) Bool.false_ne_true
theorem rx_fit_long {I : rx_I} {v : rx_V} (h : rx_fit I 2 v = true) : ∃ q : rx_E, v = .inr (1, q) := by
  match v, h with
  | .inr (1, q), _ => exact ⟨q, rfl⟩
  | .inl _, h => exact absurd (show false = true from h) Bool.false_ne_true
  | .inr (0, _), h => exact absurd (show false = true from h) Bool.false_ne_true
  | .inr (_ + 2, _), h => exact absurd (show false = true from h) Bool.false_ne_true
theorem rx_iast (hexec : p.tables.exec = Jvm.exec) (hb : c.code = cc) (hdg : decode cc (rx_zpc z) = .ok (.iastore, 1)) (hR : rx_R D cl A s xa nL H0 z r ad H locs ls) (hz : rx_h_ast (rx_isTc 0) (fun I _ _ v => rx_fit I 0 v) z = some zs)
    (K : ∀ z' ∈ zs, rx_G p l e R s m args below meth c Q D cl A xa nL H0 z.1.length z.2.2.1.length r ad z') : W p l e R s m args below meth c H locs z.2.2.2.1 z.2.2.2.2.1 Q (F0 m (rx_zpc z) ls ((rx_zst z).map (rx_iv r ad xa))) := by
  refine rx_h_ast_ok hR hz (fun ws tys k n tc t0 cA x i v rest hok hov hK hP hD hS hcs hw ht hsh hin kk => ?_) K
  have h0 := rx_isTc_ok hok
  subst h0
  obtain ⟨f, hf⟩ := hsh
  subst hf
  obtain ⟨q, hq⟩ := rx_fit_int hov
  subst hq
  refine va_iast hexec hb hK hP hD hS k t0 hw ht hin hdg fun H1 locs1 hP1 hD1 hS1 => kk (.inl _) H1 locs1 ⟨_, rfl⟩ (fun j => ?_) hP1 hD1 hS1
  show Value.int (upd f i.toNatClampNeg (Int32.ofInt (rx_ev r q)) j) = _
  unfold upd
  by_cases hj : j = i.toNatClampNeg
  · rw [if_pos hj, if_pos hj]; rfl
  · rw [if_neg hj, if_neg hj]; rfl
theorem rx_zast (hexec : p.tables.exec = Jvm.exec) (hb : c.code = cc) (hdg : decode cc (rx_zpc z) = .ok (.bastore, 1)) (hR : rx_R D cl A s xa nL H0 z r ad H locs ls) (hz : rx_h_ast (rx_isTc 1) (fun I _ _ v => rx_fit I 1 v) z = some zs)
    (K : ∀ z' ∈ zs, rx_G p l e R s m args below meth c Q D cl A xa nL H0 z.1.length z.2.2.1.length r ad z') : W p l e R s m args below meth c H locs z.2.2.2.1 z.2.2.2.2.1 Q (F0 m (rx_zpc z) ls ((rx_zst z).map (rx_iv r ad xa))) := by
  refine rx_h_ast_ok hR hz (fun ws tys k n tc t0 cA x i v rest hok hov hK hP hD hS hcs hw ht hsh hin kk => ?_) K
  have h0 := rx_isTc_ok hok
  subst h0
  obtain ⟨f, hf⟩ := hsh
  subst hf
  obtain ⟨q, hq, h01⟩ := rx_fit_bool hov
  subst hq
  have hnar : vp_nar .boolean (Int32.ofInt (rx_ev r q)) = Int32.ofInt (rx_ev r q) := by
    rcases rx_in01_ok hR.1 h01 with h | h <;> (rw [h]; rfl)
  refine va_zast hexec hb hK hP hD hS k t0 hw ht hin hdg fun H1 locs1 hP1 hD1 hS1 => kk (.inl _) H1 locs1 ⟨_, rfl⟩ (fun j => ?_) hP1 hD1 hS1
  show Value.int (upd f i.toNatClampNeg (vp_nar .boolean (Int32.ofInt (rx_ev r q))) j) = _
  rw [hnar]
  unfold upd
  by_cases hj : j = i.toNatClampNeg
  · rw [if_pos hj, if_pos hj]; rfl
  · rw [if_neg hj, if_neg hj]; rfl
theorem rx_last (hexec : p.tables.exec = Jvm.exec) (hb : c.code = cc) (hdg : decode cc (rx_zpc z) = .ok (.lastore, 1)) (hR : rx_R D cl A s xa nL H0 z r ad H locs ls) (hz : rx_h_ast (rx_isTc 2) (fun I _ _ v => rx_fit I 2 v) z = some zs)
    (K : ∀ z' ∈ zs, rx_G p l e R s m args below meth c Q D cl A xa nL H0 z.1.length z.2.2.1.length r ad z') : W p l e R s m args below meth c H locs z.2.2.2.1 z.2.2.2.2.1 Q (F0 m (rx_zpc z) ls ((rx_zst z).map (rx_iv r ad xa))) := by
  refine rx_h_ast_ok hR hz (fun ws tys k n tc t0 cA x i v rest hok hov hK hP hD hS hcs hw ht hsh hin kk => ?_) K
  have h0 := rx_isTc_ok hok
  subst h0
  obtain ⟨f, hf⟩ := hsh
  subst hf
  obtain ⟨q, hq⟩ := rx_fit_long hov
  subst hq
  refine va_last hexec hb hK hP hD hS k t0 hw ht hin hdg fun H1 locs1 hP1 hD1 hS1 => kk (.inr (.inl _)) H1 locs1 ⟨_, rfl⟩ (fun j => ?_) hP1 hD1 hS1
  show Value.long (vp_updL f i.toNatClampNeg (Int64.ofInt (rx_ev r q)) j) = _
  unfold vp_updL
  by_cases hj : j = i.toNatClampNeg
  · rw [if_pos hj, if_pos hj]; rfl
  · rw [if_neg hj, if_neg hj]; rfl
def rx_fitA (I : rx_I) (ht : List rx_C) (tc : Nat) (v : rx_V) : Bool := match v with
  | .inl (some k) => (match ht[k]? with
    | some (.inl (ci, _)) => tc == ci + 5
    | _ => false)
  | _ => false
theorem rx_fitA_ok {I : rx_I} {ht : List rx_C} {tc : Nat} {v : rx_V} (h : rx_fitA I ht tc v = true) : ∃ (k ci : Nat) (fs : List rx_X), v = .inl (some k) ∧ ht[k]? = some (.inl (ci, fs)) ∧ tc = ci + 5 := by
  unfold rx_fitA at h
  split at h
  · rename_i k
    split at h
    · rename_i ci fs he
      exact ⟨k, ci, fs, rfl, he, beq_iff_eq.mp h⟩
    · exact absurd h Bool.false_ne_true
  · exact absurd h Bool.false_ne_true
theorem rx_aast (hexec : p.tables.exec = Jvm.exec) (hb : c.code = cc) (hdg : decode cc (rx_zpc z) = .ok (.aastore, 1)) (hR : rx_R D cl A s xa nL H0 z r ad H locs ls) (hz : rx_h_ast rx_isRef rx_fitA z = some zs)
    (K : ∀ z' ∈ zs, rx_G p l e R s m args below meth c Q D cl A xa nL H0 z.1.length z.2.2.1.length r ad z') : W p l e R s m args below meth c H locs z.2.2.2.1 z.2.2.2.2.1 Q (F0 m (rx_zpc z) ls ((rx_zst z).map (rx_iv r ad xa))) := by
  refine rx_h_ast_ok hR hz (fun ws tys k n tc t0 cA x i v rest hok hov hK hP hD hS hcs hw ht hsh hin kk => ?_) K
  obtain ⟨kv, ci, fs, hv, hkv, htc⟩ := rx_fitA_ok hov
  subst hv; subst htc
  obtain ⟨f, hf⟩ := hsh
  subst hf
  obtain ⟨e1, hwv, vs, he1, -, -⟩ := hcs kv _ hkv
  subst he1
  obtain ⟨r0, hr0, -⟩ := hP kv _ hwv
  have ht2 : tys[t0]? = some (cA, .object r0.1) := by
    rw [ht]
    show some (cA, FieldType.object ((cl[ci]?).elim "" (fun q => q.1))) = _
    rw [show cl[ci]? = some r0 from hr0]
    rfl
  refine va_astq hexec hb hK hP hD hS k t0 kv ci hw ht2 hwv hr0 hin hdg fun H1 locs1 hP1 hD1 hS1 => kk (.inr (.inr (.inr (.inr _)))) H1 locs1 ⟨_, rfl⟩ (fun j => ?_) hP1 hD1 hS1
  show va_rf (va_up f i.toNatClampNeg (some (ad kv)) j) = _
  unfold va_up
  by_cases hj : j = i.toNatClampNeg
  · rw [if_pos hj, if_pos hj]; rfl
  · rw [if_neg hj, if_neg hj]; rfl
theorem rx_alen_ok {b : Nat → Int} {bs L : Nat} {xs : Nat → Int32} (hexec : p.tables.exec = Jvm.exec) (hb : c.code = cc) (hdg : decode cc (rx_zpc z) = .ok (.arraylength, 1)) (hR : rx_R D cl A s xa nL H0 z r ad H locs ls) (hz : rx_h_alen z = some zs)
    (hscr : rx_zst z = rx_zst z → ∀ t, (∃ n, rx_zst z = .inr (2, (n, 0)) :: t) → va_X (xa 0) L xs s H0 ∧ xa 0 < H0.size ∧ ¬ A (xa 0) ∧ r 1 = (L : Int))
    (K : ∀ z' ∈ zs, rx_G p l e R s m args below meth c Q D cl A xa nL H0 z.1.length z.2.2.1.length r ad z') : W p l e R s m args below meth c H locs z.2.2.2.1 z.2.2.2.2.1 Q (F0 m (rx_zpc z) ls ((rx_zst z).map (rx_iv r ad xa))) := by
  unfold rx_h_alen at hz
  split at hz
  · rename_i k t hst
    split at hz
    · rename_i tc n df ov hht
      cases hz
      obtain ⟨ws, tys, hK, hP, hD, hS, hl, hc⟩ := id hR.2.2.2.1
      obtain ⟨hcs, e0, hw, hcell⟩ := hc k _ hht
      obtain ⟨cA, t0, x, he0, htys, hsh, hel⟩ := hcell
      subst he0
      have hsts := rx_stsc hR
      rw [rx_pv_ok hst] at hsts ⊢
      refine va_alen (v := Int32.ofInt (n : Int)) hexec hb hK hP k t0 hw htys (by rw [Int32.ofInt_eq_ofNat]) hdg ?_
      refine rx_at (K _ List.mem_cons_self) rx_same.rf rx_sameA.rf (rx_R_nx hR fun y hy => ?_) rfl rfl rfl ?_
      · rcases List.mem_cons.mp hy with h | h
        · subst h; exact rx_sc0 hR 0 _
        · exact hsts y (List.mem_cons_of_mem _ h)
      · show rx_iv r ad xa (rx_n (n : Int)) :: _ = _
        rw [rx_n_iv hR.1]
    · cases hz
  · rename_i n t hst
    cases hz
    have hsts := rx_stsc hR
    have est := rx_pv_ok hst
    obtain ⟨hX, hbl, hbA, hrL⟩ := hscr rfl t ⟨n, est⟩
    obtain ⟨ws, tys, hK, hP, hD, hS, hl, hc⟩ := id hR.2.2.2.1
    rw [est] at hsts ⊢
    refine va_slen hexec hb hX hbl hbA hS hdg ?_
    refine rx_at (K _ List.mem_cons_self) rx_same.rf rx_sameA.rf (rx_R_nx hR fun y hy => ?_) rfl rfl rfl ?_
    · rcases List.mem_cons.mp hy with h | h
      · subst h; exact Nat.lt_of_lt_of_le (Nat.le_of_ble_eq_true rfl) hR.1.2.1
      · exact hsts y (List.mem_cons_of_mem _ h)
    · show Value.int (Int32.ofInt (r 1 + 0)) :: _ = _
      rw [hrL, Int.add_zero, Int32.ofInt_eq_ofNat]
  · cases hz
end RXM
end
section
/-! A REFLECTED MACHINE, part 9: new cells; switches; the script -/
def rx_dv (tc : Nat) : rx_V := match tc with
  | 0 => rx_n 0
  | 1 => rx_n 0
  | 2 => .inr (1, (0, 0))
  | _ => .inl none
theorem rx_dv_ok {I : rx_I} {r : Nat → Int} {ad xa : Nat → Nat} {ty : FieldType} (h : rx_sat I r) (h9 : rx_tyc ty ≠ 9) : rx_iv r ad xa (rx_dv (rx_tyc ty)) = defaultValue ty := by
  have e0 : rx_iv r ad xa (rx_n 0) = .int 0 := rx_n_iv h 0
  have e1 : rx_iv r ad xa (.inr (1, (0, 0))) = .long 0 := rx_nL_iv h 0
  match ty, h9 with
  | .int, _ => exact e0
  | .boolean, _ => exact e0
  | .long, _ => exact e1
  | .object _, _ => exact rfl
  | .array _, _ => exact rfl
  | .byte, h => exact absurd rfl h
  | .char, h => exact absurd rfl h
  | .short, h => exact absurd rfl h
  | .float, h => exact absurd rfl h
  | .double, h => exact absurd rfl h
theorem rx_dv_sc {N M tc : Nat} (h : 0 < N) : rx_sc N M (rx_dv tc) := by
  match tc with
  | 0 => exact h
  | 1 => exact h
  | 2 => exact h
  | _ + 3 => exact trivial
/-- a class that is made: its number, the kinds of its fields -/
def rx_Nok (s : State) (args : Array Value) (Ts : List Jvm.Cond) (own : String) (cl : List vw_C) (idx : Nat) (q : Nat × List Nat) : Prop :=
  ∃ (C : String) (T : u_T) (N : Nat) (ty : Nat → FieldType), cl[q.1]? = some (C, T, N) ∧ (∀ w ∈ u_ws C T N, w ∈ Ts) ∧ (∀ k, k < N → parseFieldDescriptor (T k).2.2.1 = some (ty k)) ∧ q.2.length = N ∧ (∀ k, k < N → q.2[k]? = some (rx_tyc (ty k)) ∧ rx_tyc (ty k) ≠ 9) ∧
    (Jvm.Cond.classLink own idx C).before args s = true ∧ (Jvm.Cond.instantiable C N).before args s = true ∧ (Jvm.Cond.initialized C).before args s = true
def rx_Ook (s : State) (args : Array Value) (own : String) (cl : List vw_C) (idx : Nat) (ci : Nat) : Prop :=
  ∃ (C : String) (T : u_T) (N : Nat), cl[ci]? = some (C, T, N) ∧ (Jvm.Cond.classLink own idx C).before args s = true ∧ va_AO C s
def rx_nxa (x : rx_C) (n : Nat) (z : rx_Z) (d : Nat) (t : List rx_V) : rx_Z := match z with
  | (I0, F1, ht0, c0, s0, pc0, lv0, _) => (I0, F1, ht0 ++ [x], c0 + 1, s0 + n, pc0 + d, lv0, .inl (some ht0.length) :: t)
def rx_h_new (cr : Nat → Option (Nat × List Nat)) (mc ms idx : Nat) (z : rx_Z) : Option (List rx_Z) := match cr idx with
  | some q => if z.2.2.2.1 + 1 ≤ mc ∧ z.2.2.2.2.1 + q.2.length ≤ ms then some [rx_nxa (.inl (q.1, q.2.map (fun tc => .inl (rx_dv tc)))) q.2.length z 3 (rx_zst z)] else none
  | none => none
def rx_len (I : rx_I) (e : rx_E) : Option Nat := match rx_bi I e with
  | some (lo, hi) => if lo = hi ∧ 0 ≤ lo ∧ lo ≤ 60000000 then some lo.toNat else none
  | none => none
def rx_atc (a : ArrayType) : Option Nat := match a with
  | .int => some 0
  | .boolean => some 1
  | .long => some 2
  | _ => none
def rx_h_newa (mc ms : Nat) (a : ArrayType) (z : rx_Z) : Option (List rx_Z) := match rx_pi (rx_zst z), rx_atc a with
  | some (e, t), some tc => match rx_len z.1 e with
    | some n => if z.2.2.2.1 + 1 ≤ mc ∧ z.2.2.2.2.1 + n ≤ ms then some [rx_nxa (.inr (tc, n, .inl (rx_dv tc), [])) n z 2 t] else none
    | none => none
  | _, _ => none
def rx_h_newq (ar : Nat → Option Nat) (mc ms idx : Nat) (z : rx_Z) : Option (List rx_Z) := match rx_pi (rx_zst z), ar idx with
  | some (e, t), some ci => match rx_len z.1 e with
    | some n => if z.2.2.2.1 + 1 ≤ mc ∧ z.2.2.2.2.1 + n ≤ ms then some [rx_nxa (.inr (ci + 5, n, .inl (.inl none), [])) n z 3 t] else none
    | none => none
  | _, _ => none
/-- the script's own entries: symbol 2 + its place; the length is symbol 1 -/
def rx_h_sld (z : rx_Z) : Option (List rx_Z) := match rx_pi (rx_zst z) with
  | some (ix, .inr (2, (_, 0)) :: t) => match rx_bi z.1 ix, rx_bi z.1 (1, 0) with
    | some (lo, hi), some (llo, _) => if lo = hi ∧ 0 ≤ lo ∧ lo < llo ∧ lo < 6 then some [rx_nx z 1 (.inr (0, (2 + lo.toNat, 0)) :: t)] else none
    | _, _ => none
  | _ => none
def rx_tcase (z : rx_Z) (a : rx_E) (t : List rx_V) (lo al ah : Int) (offs : Array Int) (j : Nat) : List rx_Z :=
  if al ≤ lo + (j : Int) ∧ lo + (j : Int) ≤ ah then rx_way z (2, a, (0, lo + (j : Int))) ((rx_zpc z : Int) + offs.getD j 0).toNat t else []
def rx_h_table (dflt lo hi : Int) (offs : Array Int) (z : rx_Z) : Option (List rx_Z) := match rx_pi (rx_zst z), rx_off (rx_zpc z) dflt with
  | some (a, t), some dt => match rx_bi z.1 a with
    | some (al, ah) => if (offs.size : Int) = hi - lo + 1 ∧ offs.toList.all (fun o => decide (0 ≤ (rx_zpc z : Int) + o)) = true ∧ lo ≤ hi + 1 then
        some ((List.range offs.size).flatMap (rx_tcase z (rx_nm z.1 a) t lo al ah offs) ++ ((if al < lo then rx_way z (0, rx_nm z.1 a, (0, lo)) dt t else []) ++ (if hi < ah then rx_way z (0, (0, hi), rx_nm z.1 a) dt t else [])))
      else none
    | none => none
  | _, _ => none
section RXN
variable {p : Program} {l : Launch} {e : Env} {R : Room} {s : State} {m : MethodId} {args : Array Value} {below : List Frame} {meth : Method} {c : Code} {Q : State → Prop}
variable {D : va_G} {cl : List vw_C} {A : Nat → Prop} {xa : Nat → Nat} {nL : Nat} {H0 H : Heap} {locs : List Loc} {ls : Array Slot} {r : Nat → Int} {ad : Nat → Nat}
variable {cc : ByteArray} {z : rx_Z} {zs : List rx_Z}
def rx_ad (ad : Nat → Nat) (n q : Nat) : Nat → Nat := fun j => if j = n then q else ad j
theorem rx_ad_same {n q : Nat} : rx_sameA n ad (rx_ad ad n q) := fun j hj => by
  unfold rx_ad
  rw [if_neg (Nat.ne_of_lt hj)]
theorem rx_ad_self {n q : Nat} : rx_ad ad n q n = q := by simp [rx_ad]
/-- a new cell: the state behind it -/
theorem rx_made {x : rx_C} {n d q : Nat} {t : List rx_V} {ws : va_W} {tys tys' : List (ClassId × FieldType)} {e' : va_E} {H1 : Heap} {k n' : Nat} (hR : rx_R D cl A s xa nL H0 z r ad H locs ls) (ht : ∀ v ∈ t, rx_sc z.1.length z.2.2.1.length v)
    (hl : ws.length = z.2.2.1.length) (hc : ∀ (k : Nat) (x : rx_C), z.2.2.1[k]? = some x → rx_csc z.1.length z.2.2.1.length x ∧ ∃ e : va_E, ws[k]? = some (ad k, e) ∧ rx_cell cl tys r ad xa x e)
    (htys : ∀ (x : rx_C) (e : va_E), rx_cell cl tys r ad xa x e → rx_cell cl tys' r ad xa x e) (hK1 : va_K D cl tys' s) (hP1 : va_P D cl (ws ++ [(q, e')]) H1) (hD1 : va_D A (ws ++ [(q, e')])) (hS1 : va_S A H0 H1 locs) (hx : rx_csc z.1.length z.2.2.1.length x) (he : rx_cell cl tys' r ad xa x e')
    (hk : z.2.2.2.1 + 1 = k) (hn : z.2.2.2.2.1 + n = n')
    (K : rx_G p l e R s m args below meth c Q D cl A xa nL H0 z.1.length z.2.2.1.length r ad (rx_nxa x n z d t)) : W p l e R s m args below meth c H1 locs k n' Q (F0 m (rx_zpc z + d) ls (.ref q :: t.map (rx_iv r ad xa))) := by
  have ha : rx_sameA z.2.2.1.length ad (rx_ad ad z.2.2.1.length q) := rx_ad_same
  have hlen : (z.2.2.1 ++ [x]).length = z.2.2.1.length + 1 := by simp
  have hW : rx_W D cl A s xa z.1.length (z.2.2.1 ++ [x]) r (rx_ad ad z.2.2.1.length q) H0 H1 locs := by
    refine ⟨ws ++ [(q, e')], tys', hK1, hP1, hD1, hS1, by simp [hl], fun j y hj => ?_⟩
    rw [hlen]
    by_cases hlt : j < z.2.2.1.length
    · rw [List.getElem?_append_left hlt] at hj
      obtain ⟨h1, e2, h2, h3⟩ := hc j y hj
      refine ⟨rx_csc.mono h1 (Nat.le_refl _) (Nat.le_succ _), e2, ?_, rx_cell_ext (htys _ _ h3) h1 rx_same.rf ha⟩
      rw [List.getElem?_append_left (by rw [hl]; exact hlt), ha j hlt]
      exact h2
    · rw [List.getElem?_append_right (Nat.not_lt.mp hlt)] at hj
      have hz : j - z.2.2.1.length < 1 := (List.getElem?_eq_some_iff.mp hj).1
      have e : j = z.2.2.1.length := by omega
      subst e
      rw [Nat.sub_self] at hj
      cases hj
      refine ⟨rx_csc.mono hx (Nat.le_refl _) (Nat.le_succ _), e', ?_, rx_cell_ext he hx rx_same.rf ha⟩
      rw [← hl, List.getElem?_append_right (Nat.le_refl _), Nat.sub_self, hl, rx_ad_self]
      rfl
  have hR' : rx_R D cl A s xa nL H0 (rx_nxa x n z d t) r (rx_ad ad z.2.2.1.length q) H1 locs ls := by
    refine ⟨hR.1, hR.2.1, hR.2.2.1, hW, ?_, ?_, ?_⟩
    · have h := rx_lvh hR
      show lv_has ls nL (rx_lvs r (rx_ad ad z.2.2.1.length q) xa (rx_zlv z))
      rw [rx_lvs_ext (rx_lvsc hR) rx_same.rf ha]
      exact h
    · intro y hy
      show rx_sc z.1.length (z.2.2.1 ++ [x]).length y.2
      rw [hlen]
      exact rx_sc.mono (rx_lvsc hR y hy) (Nat.le_refl _) (Nat.le_succ _)
    · intro y hy
      show rx_sc z.1.length (z.2.2.1 ++ [x]).length y
      rw [hlen]
      rcases List.mem_cons.mp hy with h | h
      · subst h; exact Nat.lt_succ_self _
      · exact rx_sc.mono (ht y h) (Nat.le_refl _) (Nat.le_succ _)
  refine rx_at K rx_same.rf ha hR' rfl hk hn ?_
  show Value.ref (rx_ad ad z.2.2.1.length q z.2.2.1.length) :: t.map (rx_iv r (rx_ad ad z.2.2.1.length q) xa) = _
  rw [rx_ad_self, rx_st_ext ht rx_same.rf ha]
theorem rx_h_new_ok {cr : Nat → Option (Nat × List Nat)} {mc ms idx : Nat} {Ts : List Jvm.Cond} {own : String} (hexec : p.tables.exec = Jvm.exec) (hb : c.code = cc) (hts : ∀ w ∈ Ts, w.before args s = true) (hown : s.vm.findClass own = some m.cls) (hA : ∀ q, H0.size ≤ q → A q) (hmc : mc ≤ R.cells) (hms : ms ≤ R.slots) (hC : ∀ q, cr idx = some q → rx_Nok s args Ts own cl idx q) (hdg : decode cc (rx_zpc z) = .ok (.new idx, 3))
    (hR : rx_R D cl A s xa nL H0 z r ad H locs ls) (hz : rx_h_new cr mc ms idx z = some zs)
    (K : ∀ z' ∈ zs, rx_G p l e R s m args below meth c Q D cl A xa nL H0 z.1.length z.2.2.1.length r ad z') : W p l e R s m args below meth c H locs z.2.2.2.1 z.2.2.2.2.1 Q (F0 m (rx_zpc z) ls ((rx_zst z).map (rx_iv r ad xa))) := by
  unfold rx_h_new at hz
  split at hz
  · rename_i q hq
    split at hz
    · rename_i hroom
      cases hz
      obtain ⟨ws, tys, hK, hP, hD, hS, hl, hc⟩ := id hR.2.2.2.1
      obtain ⟨C, T, N, ty, f1, f2, f3, f4, f5, f6, f7, f8⟩ := hC q hq
      rw [f4] at hroom
      have hlen : (q.2.map (fun tc => rx_iv r ad xa (rx_dv tc))).length = N := by rw [List.length_map, f4]
      refine va_new (ci := q.1) (fs := q.2.map (fun tc => rx_iv r ad xa (rx_dv tc))) hexec hb hts f2 ty f3 hown f6 f7 f8 hK hP hD hS hA f1 (fun j hj => ?_) (Nat.le_trans hroom.1 hmc) (Nat.le_trans hroom.2 hms) hdg (fun a H1 hP1 hD1 hS1 => ?_)
      · obtain ⟨g1, g2⟩ := f5 j hj
        unfold vp_V
        rw [List.getD_eq_getElem?_getD, List.getElem?_map, g1]
        exact (rx_dv_ok hR.1 g2).symm
      · refine rx_made hR (rx_stsc hR) hl hc (fun _ _ h => h) hK hP1 hD1 hS1 ?_ ?_ rfl (by rw [f4]) (K _ List.mem_cons_self)
        · intro j f hj
          rw [List.getElem?_map] at hj
          obtain ⟨tc, h1, h2⟩ := Option.map_eq_some_iff.mp hj
          subst h2
          exact rx_dv_sc (rx_pos hR.1)
        · refine ⟨_, rfl, by rw [List.length_map, List.length_map], fun j f hj => ?_⟩
          rw [List.getElem?_map] at hj
          obtain ⟨tc, h1, h2⟩ := Option.map_eq_some_iff.mp hj
          subst h2
          exact ⟨_, by rw [List.getElem?_map, h1]; rfl, rfl⟩
    · cases hz
  · cases hz
theorem rx_len_ok {I : rx_I} {ee : rx_E} {n : Nat} (h : rx_sat I r) (hn : rx_len I ee = some n) : ¬ Int32.ofInt (rx_ev r ee) < 0 ∧ (Int32.ofInt (rx_ev r ee)).toNatClampNeg = n ∧ n ≤ 60000000 := by
  unfold rx_len at hn
  split at hn
  · rename_i lo hi he
    split at hn
    · rename_i hc
      cases hn
      obtain ⟨h1, h2, h3, -⟩ := rx_bi_ok h he
      refine ⟨?_, ?_, by omega⟩
      · rw [Int32.lt_iff_toInt_lt, h3, Int32.toInt_zero]; omega
      · show (Int32.ofInt (rx_ev r ee)).toInt.toNat = _
        rw [h3]; omega
    · cases hn
  · cases hn
theorem rx_h_newa_ok {mc ms : Nat} {a : ArrayType} (hexec : p.tables.exec = Jvm.exec) (hb : c.code = cc) (harr : (Jvm.Cond.arrayClass (newarray.typeOf a)).before args s = true) (hA : ∀ q, H0.size ≤ q → A q) (hmc : mc ≤ R.cells) (hms : ms ≤ R.slots) (hdg : decode cc (rx_zpc z) = .ok (.newarray a, 2))
    (hR : rx_R D cl A s xa nL H0 z r ad H locs ls) (hz : rx_h_newa mc ms a z = some zs)
    (K : ∀ z' ∈ zs, rx_G p l e R s m args below meth c Q D cl A xa nL H0 z.1.length z.2.2.1.length r ad z') : W p l e R s m args below meth c H locs z.2.2.2.1 z.2.2.2.2.1 Q (F0 m (rx_zpc z) ls ((rx_zst z).map (rx_iv r ad xa))) := by
  unfold rx_h_newa at hz
  split at hz
  · rename_i ee t tc he htc
    split at hz
    · rename_i n hn
      split at hz
      · rename_i hroom
        cases hz
        obtain ⟨ws, tys, hK, hP, hD, hS, hl, hc⟩ := id hR.2.2.2.1
        obtain ⟨n1, n2, n3⟩ := rx_len_ok hR.1 hn
        have hsts := rx_stsc hR
        rw [rx_pi_ok he] at hsts ⊢
        have ht : ∀ v ∈ t, rx_sc z.1.length z.2.2.1.length v := fun v hv => hsts v (List.mem_cons_of_mem _ hv)
        have e0 : rx_iv r ad xa (rx_dv 0) = .int 0 := rx_n_iv hR.1 0
        have e2 : rx_iv r ad xa (rx_dv 2) = .long 0 := rx_nL_iv hR.1 0
        have hx : rx_csc z.1.length z.2.2.1.length (.inr (tc, n, .inl (rx_dv tc), [])) := fun j hj => rx_dv_sc (rx_pos hR.1)
        match a, htc, harr, hdg with
        | .int, htc, harr, hdg =>
          cases htc
          exact va_newa (atype := .int) (ty := .int) (a0 := (n, .inl (fun _ => 0))) hexec hb harr rfl hK hP hD hS hA (fun _ => rfl) n1 n2 (by show n * 4 ≤ _; omega) (Nat.le_trans hroom.1 hmc) (Nat.le_trans hroom.2 hms) hdg (fun q cA H1 hK1 hP1 hD1 hS1 => rx_made (n := n) hR ht hl hc (fun _ _ h => rx_cell_tys h) hK1 hP1 hD1 hS1 hx ⟨cA, tys.length, _, rfl, by simp; rfl, ⟨_, rfl⟩, fun j hj => e0.symm⟩ rfl rfl (K _ List.mem_cons_self))
        | .boolean, htc, harr, hdg =>
          cases htc
          exact va_newa (atype := .boolean) (ty := .boolean) (a0 := (n, .inl (fun _ => 0))) hexec hb harr rfl hK hP hD hS hA (fun _ => rfl) n1 n2 (by show n * 1 ≤ _; omega) (Nat.le_trans hroom.1 hmc) (Nat.le_trans hroom.2 hms) hdg (fun q cA H1 hK1 hP1 hD1 hS1 => rx_made (n := n) hR ht hl hc (fun _ _ h => rx_cell_tys h) hK1 hP1 hD1 hS1 hx ⟨cA, tys.length, _, rfl, by simp; rfl, ⟨_, rfl⟩, fun j hj => e0.symm⟩ rfl rfl (K _ List.mem_cons_self))
        | .long, htc, harr, hdg =>
          cases htc
          exact va_newa (atype := .long) (ty := .long) (a0 := (n, .inr (.inl (fun _ => 0)))) hexec hb harr rfl hK hP hD hS hA (fun _ => rfl) n1 n2 (by show n * 8 ≤ _; omega) (Nat.le_trans hroom.1 hmc) (Nat.le_trans hroom.2 hms) hdg (fun q cA H1 hK1 hP1 hD1 hS1 => rx_made (n := n) hR ht hl hc (fun _ _ h => rx_cell_tys h) hK1 hP1 hD1 hS1 hx ⟨cA, tys.length, _, rfl, by simp; rfl, ⟨_, rfl⟩, fun j hj => e2.symm⟩ rfl rfl (K _ List.mem_cons_self))
        | .char, htc, _, _ => cases htc
        | .float, htc, _, _ => cases htc
        | .double, htc, _, _ => cases htc
        | .byte, htc, _, _ => cases htc
        | .short, htc, _, _ => cases htc
      · cases hz
    · cases hz
  · cases hz
theorem rx_h_newq_ok {ar : Nat → Option Nat} {mc ms idx : Nat} {own : String} (hexec : p.tables.exec = Jvm.exec) (hb : c.code = cc) (hown : s.vm.findClass own = some m.cls) (hA : ∀ q, H0.size ≤ q → A q) (hmc : mc ≤ R.cells) (hms : ms ≤ R.slots) (hC : ∀ ci, ar idx = some ci → rx_Ook s args own cl idx ci) (hdg : decode cc (rx_zpc z) = .ok (.anewarray idx, 3))
    (hR : rx_R D cl A s xa nL H0 z r ad H locs ls) (hz : rx_h_newq ar mc ms idx z = some zs)
    (K : ∀ z' ∈ zs, rx_G p l e R s m args below meth c Q D cl A xa nL H0 z.1.length z.2.2.1.length r ad z') : W p l e R s m args below meth c H locs z.2.2.2.1 z.2.2.2.2.1 Q (F0 m (rx_zpc z) ls ((rx_zst z).map (rx_iv r ad xa))) := by
  unfold rx_h_newq at hz
  split at hz
  · rename_i ee t ci he hci
    split at hz
    · rename_i n hn
      split at hz
      · rename_i hroom
        cases hz
        obtain ⟨ws, tys, hK, hP, hD, hS, hl, hc⟩ := id hR.2.2.2.1
        obtain ⟨n1, n2, n3⟩ := rx_len_ok hR.1 hn
        obtain ⟨C, T, N, f1, f2, f3⟩ := hC ci hci
        have hsts := rx_stsc hR
        rw [rx_pi_ok he] at hsts ⊢
        have ht : ∀ v ∈ t, rx_sc z.1.length z.2.2.1.length v := fun v hv => hsts v (List.mem_cons_of_mem _ hv)
        have hty : rx_ty cl (ci + 5) = .object C := by
          show FieldType.object ((cl[ci]?).elim "" (fun q => q.1)) = _
          rw [f1]
          rfl
        exact va_newq hexec hb hown f2 f3 hK hP hD hS hA n1 n2 (by omega) (Nat.le_trans hroom.1 hmc) (Nat.le_trans hroom.2 hms) hdg (fun q cA H1 hK1 hP1 hD1 hS1 => rx_made (x := .inr (ci + 5, n, .inl (.inl none), [])) hR ht hl hc (fun _ _ h => rx_cell_tys h) hK1 hP1 hD1 hS1 (fun j hj => trivial) ⟨cA, tys.length, _, rfl, by rw [hty]; simp, ⟨_, rfl⟩, fun j hj => rfl⟩ rfl rfl (K _ List.mem_cons_self))
      · cases hz
    · cases hz
  · cases hz
theorem rx_h_sld_ok {L : Nat} {xs : Nat → Int32} (hexec : p.tables.exec = Jvm.exec) (hb : c.code = cc) (hX : va_X (xa 0) L xs s H0) (hbl : xa 0 < H0.size) (hbA : ¬ A (xa 0)) (hrL : r 1 = (L : Int)) (hrx : ∀ j : Nat, j < 6 → r (2 + j) = (xs j).toInt) (hdg : decode cc (rx_zpc z) = .ok (.iaload, 1))
    (hR : rx_R D cl A s xa nL H0 z r ad H locs ls) (hz : rx_h_sld z = some zs)
    (K : ∀ z' ∈ zs, rx_G p l e R s m args below meth c Q D cl A xa nL H0 z.1.length z.2.2.1.length r ad z') : W p l e R s m args below meth c H locs z.2.2.2.1 z.2.2.2.2.1 Q (F0 m (rx_zpc z) ls ((rx_zst z).map (rx_iv r ad xa))) := by
  unfold rx_h_sld at hz
  split at hz
  · rename_i ix n t hst
    split at hz
    · rename_i lo hi llo lhi h1 h2
      split at hz
      · rename_i hcond
        obtain ⟨c1, c2, c3, c4⟩ := hcond
        cases hz
        obtain ⟨ws, tys, hK, hP, hD, hS, hl, hc⟩ := id hR.2.2.2.1
        obtain ⟨g1, g2, g3, g4⟩ := rx_bi_ok hR.1 h1
        obtain ⟨k1, k2, -, -⟩ := rx_bi_ok hR.1 h2
        have eL : rx_ev r (1, 0) = (L : Int) := by
          unfold rx_ev
          rw [hrL]
          exact Int.add_zero _
        rw [eL] at k1
        have hsts := rx_stsc hR
        rw [rx_pi_ok hst] at hsts ⊢
        have hin : vp_in (Int32.ofInt (rx_ev r ix)) L := vp_in_iff.mpr (by rw [g3]; omega)
        refine va_sld hexec hb hX hbl hbA hS hin hdg ?_
        have ei : (Int32.ofInt (rx_ev r ix)).toNatClampNeg = lo.toNat := by
          show (Int32.ofInt (rx_ev r ix)).toInt.toNat = _
          rw [g3]
          omega
        rw [ei]
        refine rx_at (K _ List.mem_cons_self) rx_same.rf rx_sameA.rf (rx_R_nx hR fun y hy => ?_) rfl rfl rfl ?_
        · rcases List.mem_cons.mp hy with h | h
          · subst h
            have := hR.1.2.1
            show 2 + lo.toNat < z.1.length
            omega
          · exact hsts y (List.mem_cons_of_mem _ (List.mem_cons_of_mem _ h))
        · show Value.int (Int32.ofInt (r (2 + lo.toNat) + 0)) :: _ = _
          rw [hrx _ (by omega), Int.add_zero, Int32.ofInt_toInt]
      · cases hz
    · cases hz
  · cases hz
theorem rx_h_table_ok {dflt lo hi : Int} {offs : Array Int} {len : Nat} (hexec : p.tables.exec = Jvm.exec) (hb : c.code = cc) (hdg : decode cc (rx_zpc z) = .ok (.tableswitch dflt lo hi offs, len))
    (hR : rx_R D cl A s xa nL H0 z r ad H locs ls) (hz : rx_h_table dflt lo hi offs z = some zs)
    (K : ∀ z' ∈ zs, rx_G p l e R s m args below meth c Q D cl A xa nL H0 z.1.length z.2.2.1.length r ad z') : W p l e R s m args below meth c H locs z.2.2.2.1 z.2.2.2.2.1 Q (F0 m (rx_zpc z) ls ((rx_zst z).map (rx_iv r ad xa))) := by
  unfold rx_h_table at hz
  split at hz
  · rename_i a t dt ha hdt
    split at hz
    · rename_i al ah hbi
      split at hz
      · rename_i hcond
        obtain ⟨c1, c2, c3⟩ := hcond
        cases hz
        obtain ⟨g1, g2, g3, g4⟩ := rx_bi_ok hR.1 hbi
        obtain ⟨m1, m2⟩ := rx_nm_ok (e := a) hR.1
        have hsts := rx_stsc hR
        rw [rx_pi_ok ha] at hsts ⊢
        have ht : ∀ v ∈ t, rx_sc z.1.length z.2.2.1.length v := fun v hv => hsts v (List.mem_cons_of_mem _ hv)
        by_cases hlo : rx_ev r a < lo
        · refine lv_tableOut hexec hb hdg (Or.inl (by rw [g3]; exact hlo)) (rx_off_ok hdt) ?_
          refine rx_way_ok (f := (0, rx_nm z.1 a, (0, lo))) hR ?_ (Nat.le_of_ble_eq_true rfl) (m2 g4) (rx_pos hR.1) ht fun z' hz' => K z' (List.mem_append_right _ (List.mem_append_left _ ?_))
          · show rx_ev r (rx_nm z.1 a) < rx_ev r (0, lo)
            rw [m1, rx_ev0 hR.1]
            exact hlo
          · rw [if_pos (by omega)]
            exact hz'
        · by_cases hhi : hi < rx_ev r a
          · refine lv_tableOut hexec hb hdg (Or.inr (by rw [g3]; exact hhi)) (rx_off_ok hdt) ?_
            refine rx_way_ok (f := (0, (0, hi), rx_nm z.1 a)) hR ?_ (Nat.le_of_ble_eq_true rfl) (rx_pos hR.1) (m2 g4) ht fun z' hz' => K z' (List.mem_append_right _ (List.mem_append_right _ ?_))
            · show rx_ev r (0, hi) < rx_ev r (rx_nm z.1 a)
              rw [m1, rx_ev0 hR.1]
              exact hhi
            · rw [if_pos (by omega)]
              exact hz'
          · have hj : (rx_ev r a - lo).toNat < offs.size := by omega
            have hget : offs[(rx_ev r a - lo).toNat]? = some (offs[(rx_ev r a - lo).toNat]) := Array.getElem?_eq_getElem hj
            have hgd : offs.getD (rx_ev r a - lo).toNat 0 = offs[(rx_ev r a - lo).toNat] := by
              rw [Array.getD_eq_getD_getElem?, hget]
              rfl
            have hpos : 0 ≤ (rx_zpc z : Int) + offs[(rx_ev r a - lo).toNat] := by
              have := List.all_eq_true.mp c2 offs[(rx_ev r a - lo).toNat] (by simp)
              exact of_decide_eq_true this
            refine lv_tableIn hexec hb hdg (by rw [g3]; exact hlo) (by rw [g3]; exact hhi) (off := offs[(rx_ev r a - lo).toNat]) (tgt := ((rx_zpc z : Int) + offs[(rx_ev r a - lo).toNat]).toNat) (by rw [g3]; exact hget) (by omega) ?_
            rw [← hgd]
            have hcast : lo + (((rx_ev r a - lo).toNat : Nat) : Int) = rx_ev r a := by omega
            refine rx_way_ok (f := (2, rx_nm z.1 a, (0, lo + (((rx_ev r a - lo).toNat : Nat) : Int)))) hR ?_ (Nat.le_of_ble_eq_true rfl) (m2 g4) (rx_pos hR.1) ht fun z' hz' => K z' (List.mem_append_left _ (List.mem_flatMap.mpr ⟨(rx_ev r a - lo).toNat, List.mem_range.mpr hj, ?_⟩))
            · show rx_ev r (rx_nm z.1 a) = rx_ev r (0, _)
              rw [m1, rx_ev0 hR.1]
              exact hcast.symm
            · unfold rx_tcase
              rw [if_pos (by rw [hcast]; exact ⟨g1, g2⟩)]
              exact hz'
      · cases hz
    · cases hz
  · cases hz
end RXN
end
section
/-! A REFLECTED MACHINE, part 10: one instruction -/
/-- a method: number of its class, bytes, locals, what it answers, name, is it a constructor, cells and slots that it may make -/
abbrev rx_Mt : Type := Nat × ByteArray × Nat × Option FieldType × MethodName × Bool × Nat × Nat
/-- a call: how (0 virtual, 1 static, 2 constructor, 3 4 5 the same of a nest mate), parameters, number of the class, of the method -/
abbrev rx_J : Type := Nat × Nat × Nat × Nat
/-- tables: fields, classes made, classes of rows, constants, calls, methods -/
abbrev rx_Tb : Type := (Nat → Nat → Option rx_Q) × (Nat → Nat → Option (Nat × List Nat)) × (Nat → Nat → Option Nat) × (Nat → Nat → Option rx_V) × (Nat → Nat → Option rx_J) × (Nat → Option rx_Mt)
def rx_if {α : Type} (b : Bool) (x : Option α) : Option α := match b with
  | true => x
  | false => none
theorem rx_if_ok {α : Type} {b : Bool} {x : Option α} {y : α} (h : rx_if b x = some y) : b = true ∧ x = some y := by
  cases b with
  | true => exact ⟨rfl, h⟩
  | false => exact absurd (show (none : Option α) = some y from h) (fun q => by cases q)
theorem rx_ifn {α : Type} {a b : Nat} {x : Option α} {y : α} (h : rx_if (a == b) x = some y) : a = b ∧ x = some y := ⟨beq_iff_eq.mp (rx_if_ok h).1, (rx_if_ok h).2⟩
def rx_or {α : Type} (x y : Option α) : Option α := match x with
  | some a => some a
  | none => y
theorem rx_or_ok {α : Type} {x y : Option α} {a : α} (h : rx_or x y = some a) : x = some a ∨ y = some a := by
  cases x with
  | some b => exact Or.inl h
  | none => exact Or.inr h
def rx_h_const (kc : Nat → Nat → Option rx_V) (o idx kd d : Nat) (z : rx_Z) : Option (List rx_Z) := match kc o idx with
  | some (.inr (k, (0, n))) => rx_if (k == kd) (rx_h_push (.inr (k, (0, n))) d z)
  | _ => none
/-- the top is a cell: no row of the script -/
def rx_topc (z : rx_Z) : Bool := match rx_pv (rx_zst z) with
  | some (.inl _, _) => true
  | _ => false
def rx_step (T : rx_Tb) (lw : Bool) (M : rx_Mt) (i : Instr) (len : Nat) (nx : Except DecodeError (Instr × Nat)) (z : rx_Z) : Option (List rx_Z) := match i with
  | .iconst n => rx_if (len == 1) (rx_h_push (rx_n n) 1 z)
  | .bipush n => rx_if (len == 2) (rx_h_push (rx_n (Int8.ofInt n).toInt32.toInt) 2 z)
  | .sipush n => rx_if (len == 3) (rx_h_push (rx_n (Int16.ofInt n).toInt32.toInt) 3 z)
  | .lconst n => rx_if (len == 1) (rx_h_push (.inr (1, (0, ((n : Nat) : Int)))) 1 z)
  | .aconst_null => rx_if (len == 1) (rx_h_push (.inl none) 1 z)
  | .ldc idx => rx_if (len == 2) (rx_h_const T.2.2.2.1 M.1 idx 0 2 z)
  | .ldc_w idx => rx_if (len == 3) (rx_h_const T.2.2.2.1 M.1 idx 0 3 z)
  | .ldc2_w idx => rx_if (len == 3) (rx_h_const T.2.2.2.1 M.1 idx 1 3 z)
  | .iload_n k => rx_if (len == 1) (rx_h_load 0 k 1 z)
  | .iload k => rx_if (len == 2) (rx_h_load 0 k 2 z)
  | .lload_n k => rx_if (len == 1) (rx_h_load 1 k 1 z)
  | .lload k => rx_if (len == 2) (rx_h_load 1 k 2 z)
  | .aload_n k => rx_if (len == 1) (rx_h_loadA k 1 z)
  | .aload k => rx_if (len == 2) (rx_h_loadA k 2 z)
  | .istore_n k => rx_if (len == 1) (rx_h_istore M.2.2.1 k 1 z)
  | .istore k => rx_if (len == 2) (rx_h_istore M.2.2.1 k 2 z)
  | .lstore_n k => rx_if (len == 1) (rx_h_lstore M.2.2.1 k 1 z)
  | .lstore k => rx_if (len == 2) (rx_h_lstore M.2.2.1 k 2 z)
  | .astore_n k => rx_if (len == 1) (rx_h_astore M.2.2.1 k 1 z)
  | .astore k => rx_if (len == 2) (rx_h_astore M.2.2.1 k 2 z)
  | .iinc k n => rx_if (len == 3) (rx_h_iinc M.2.2.1 k n z)
  | .iadd => rx_if (len == 1) (rx_h_bin 0 z)
  | .isub => rx_if (len == 1) (rx_h_bin 1 z)
  | .imul => rx_if (len == 1) (rx_h_bin 2 z)
  | .idiv => rx_if (len == 1) (rx_h_div 3 z)
  | .irem => rx_if (len == 1) (rx_h_div 4 z)
  | .iand => rx_if (len == 1) (rx_h_bin 5 z)
  | .ior => rx_if (len == 1) (rx_h_bin 6 z)
  | .ixor => rx_if (len == 1) (rx_h_bin 7 z)
  | .ishl => rx_if (len == 1) (rx_h_bin 8 z)
  | .ishr => rx_if (len == 1) (rx_h_bin 9 z)
  | .iushr => rx_if (len == 1) (rx_h_bin 10 z)
  | .ineg => rx_if (len == 1) (rx_h_ineg z)
  | .ladd => rx_if (len == 1) (rx_h_binL 0 z)
  | .lsub => rx_if (len == 1) (rx_h_binL 1 z)
  | .lmul => rx_if (len == 1) (rx_h_binL 2 z)
  | .ldiv => rx_if (len == 1) (rx_h_divL 3 z)
  | .lrem => rx_if (len == 1) (rx_h_divL 4 z)
  | .i2l => rx_if (len == 1) (rx_h_i2l z)
  | .lcmp => rx_if (len == 1) (rx_h_lcmp nx z)
  | .ifCond cnd off => rx_if (len == 3) (rx_h_if cnd off z)
  | .if_icmp cnd off => rx_if (len == 3) (rx_h_icmp cnd off z)
  | .goto off => rx_if (len == 3) (rx_h_goto off z)
  | .tableswitch dflt lo hi offs => rx_h_table dflt lo hi offs z
  | .dup => rx_if (len == 1) (rx_h_dup z)
  | .dup2 => rx_if (len == 1) (rx_h_dup2 z)
  | .pop => rx_if (len == 1) (rx_h_pop z)
  | .getfield idx => rx_if (len == 3) (rx_h_get (T.1 M.1) idx z)
  | .putfield idx => rx_if (len == 3) (rx_h_put (T.1 M.1) M.2.2.2.2.2.1 idx z)
  | .arraylength => rx_if (len == 1 && (lw || rx_topc z)) (rx_h_alen z)
  | .iaload => rx_if (len == 1) (rx_or (rx_h_ald (rx_isTc 0) z) (rx_if lw (rx_h_sld z)))
  | .baload => rx_if (len == 1) (rx_h_ald (rx_isTc 1) z)
  | .laload => rx_if (len == 1) (rx_h_ald (rx_isTc 2) z)
  | .aaload => rx_if (len == 1) (rx_h_ald rx_isRef z)
  | .iastore => rx_if (len == 1) (rx_h_ast (rx_isTc 0) (fun I _ _ v => rx_fit I 0 v) z)
  | .bastore => rx_if (len == 1) (rx_h_ast (rx_isTc 1) (fun I _ _ v => rx_fit I 1 v) z)
  | .lastore => rx_if (len == 1) (rx_h_ast (rx_isTc 2) (fun I _ _ v => rx_fit I 2 v) z)
  | .aastore => rx_if (len == 1) (rx_h_ast rx_isRef rx_fitA z)
  | .new idx => rx_if (len == 3) (rx_h_new (T.2.1 M.1) M.2.2.2.2.2.2.1 M.2.2.2.2.2.2.2 idx z)
  | .newarray a => rx_if (len == 2) (rx_h_newa M.2.2.2.2.2.2.1 M.2.2.2.2.2.2.2 a z)
  | .anewarray idx => rx_if (len == 3) (rx_h_newq (T.2.2.1 M.1) M.2.2.2.2.2.2.1 M.2.2.2.2.2.2.2 idx z)
  | _ => none
/-- a frame of a method -/
def rx_Fr (G NW : List Jvm.Cond) (AO : List String) (PX : State → Prop) (p : Program) (s : State) (m : MethodId) (args : Array Value) (meth : Method) (c : Code) (M : rx_Mt) : Prop :=
  p.tables.exec = Jvm.exec ∧ c.code = M.2.1 ∧ meth.sig.returnType = M.2.2.2.1 ∧ c.maxLocals = M.2.2.1 ∧ s.vm.findClass M.2.2.2.2.1.cls = some m.cls ∧ meth.locks = false ∧ (∀ w ∈ G, w.before args s = true) ∧ (∀ w ∈ NW, va_Nw w s) ∧ (∀ C ∈ AO, va_AO C s) ∧ PX s ∧ (M.2.2.2.2.2.1 = true → meth.name = "<init>")
def rx_frOK (G NW : List Jvm.Cond) (cl : List vw_C) (nm : Nat → String) (T : rx_Tb) : Prop := ∀ (o idx : Nat) (q : rx_Q), T.1 o idx = some q →
  ∃ (C : String) (F : u_T) (N : Nat) (ty : Nat → FieldType), cl[q.1]? = some (C, F, N) ∧ q.2.1 < N ∧ (∀ w ∈ u_ws C F N, w ∈ G) ∧ (∀ k, k < N → parseFieldDescriptor (F k).2.2.1 = some (ty k)) ∧ (∀ a, a < N → ∀ b, b < N → a ≠ b → (F a).2.1 ≠ (F b).2.1) ∧
    rx_tyc (ty q.2.1) = q.2.2.1 ∧ (F q.2.1).2.2.2 = q.2.2.2.1 ∧ (q.2.2.2.1 = true → q.2.2.2.2 = false → (F q.2.1).1 = nm o) ∧
    ((q.2.2.2.2 = false ∧ Jvm.Cond.fieldLink (nm o) idx (F q.2.1).1 (F q.2.1).2.1 (F q.2.1).2.2.1 ∈ G) ∨ (q.2.2.2.2 = true ∧ ∃ host : String, Jvm.Cond.fieldLinkNest (nm o) idx (F q.2.1).1 (F q.2.1).2.1 (F q.2.1).2.2.1 host ∈ NW))
def rx_crOK (G : List Jvm.Cond) (cl : List vw_C) (nm : Nat → String) (T : rx_Tb) : Prop := ∀ (o idx : Nat) (q : Nat × List Nat), T.2.1 o idx = some q →
  ∃ (C : String) (F : u_T) (N : Nat) (ty : Nat → FieldType), cl[q.1]? = some (C, F, N) ∧ (∀ w ∈ u_ws C F N, w ∈ G) ∧ (∀ k, k < N → parseFieldDescriptor (F k).2.2.1 = some (ty k)) ∧ q.2.length = N ∧ (∀ k, k < N → q.2[k]? = some (rx_tyc (ty k)) ∧ rx_tyc (ty k) ≠ 9) ∧
    Jvm.Cond.classLink (nm o) idx C ∈ G ∧ Jvm.Cond.instantiable C N ∈ G ∧ Jvm.Cond.initialized C ∈ G
def rx_arOK (G : List Jvm.Cond) (AO : List String) (cl : List vw_C) (nm : Nat → String) (T : rx_Tb) : Prop := ∀ (o idx ci : Nat), T.2.2.1 o idx = some ci →
  ∃ (C : String) (F : u_T) (N : Nat), cl[ci]? = some (C, F, N) ∧ Jvm.Cond.classLink (nm o) idx C ∈ G ∧ C ∈ AO
def rx_kcOK (G : List Jvm.Cond) (nm : Nat → String) (T : rx_Tb) : Prop := ∀ (o idx k : Nat) (n : Int), T.2.2.2.1 o idx = some (.inr (k, (0, n))) →
  (k = 0 → Jvm.Cond.constant (nm o) idx (Int32.ofInt n) ∈ G) ∧ (k = 1 → Jvm.Cond.constantLong (nm o) idx (Int64.ofInt n) ∈ G)
def rx_acOK (G : List Jvm.Cond) : Prop := Jvm.Cond.arrayClass .int ∈ G ∧ Jvm.Cond.arrayClass .boolean ∈ G ∧ Jvm.Cond.arrayClass .long ∈ G
/-- what the script is, for a frame that may read it -/
def rx_Scr (lw : Bool) (A : Nat → Prop) (s : State) (xa : Nat → Nat) (H0 : Heap) (r : Nat → Int) : Prop := lw = true → ∃ (L : Nat) (xs : Nat → Int32), va_X (xa 0) L xs s H0 ∧ xa 0 < H0.size ∧ ¬ A (xa 0) ∧ r 1 = (L : Int) ∧ ∀ j : Nat, j < 6 → r (2 + j) = (xs j).toInt
section RXT
variable {p : Program} {l : Launch} {e : Env} {R : Room} {s : State} {m : MethodId} {args : Array Value} {below : List Frame} {meth : Method} {c : Code} {Q : State → Prop}
variable {D : va_G} {cl : List vw_C} {A : Nat → Prop} {xa : Nat → Nat} {H0 H : Heap} {locs : List Loc} {ls : Array Slot} {r : Nat → Int} {ad : Nat → Nat}
variable {z : rx_Z} {zs : List rx_Z} {G NW : List Jvm.Cond} {AO : List String} {PX : State → Prop} {T : rx_Tb} {M : rx_Mt} {nm : Nat → String}
theorem rx_Fok_of (hF : rx_Fr G NW AO PX p s m args meth c M) (hn : nm M.1 = M.2.2.2.2.1.cls) (hT : rx_frOK G NW cl nm T) {idx : Nat} {q : rx_Q} (hq : T.1 M.1 idx = some q) : rx_Fok s args G M.2.2.2.2.1.cls cl idx q := by
  obtain ⟨C, F, N, ty, h1, h2, h3, h4, h5, h6, h7, h8, h9⟩ := hT M.1 idx q hq
  rw [hn] at h8 h9
  refine ⟨C, F, N, ty, h1, h2, h3, h4, h5, h6, h7, h8, ?_⟩
  rcases h9 with ⟨k1, k2⟩ | ⟨k1, host, k2⟩
  · exact Or.inl ⟨k1, hF.2.2.2.2.2.2.1 _ k2⟩
  · exact Or.inr ⟨k1, host, va_Nw.use rfl (hF.2.2.2.2.2.2.2.1 _ k2)⟩
theorem rx_Nok_of (hF : rx_Fr G NW AO PX p s m args meth c M) (hn : nm M.1 = M.2.2.2.2.1.cls) (hT : rx_crOK G cl nm T) {idx : Nat} {q : Nat × List Nat} (hq : T.2.1 M.1 idx = some q) : rx_Nok s args G M.2.2.2.2.1.cls cl idx q := by
  obtain ⟨C, F, N, ty, h1, h2, h3, h4, h5, h6, h7, h8⟩ := hT M.1 idx q hq
  rw [hn] at h6
  exact ⟨C, F, N, ty, h1, h2, h3, h4, h5, hF.2.2.2.2.2.2.1 _ h6, hF.2.2.2.2.2.2.1 _ h7, hF.2.2.2.2.2.2.1 _ h8⟩
theorem rx_Ook_of (hF : rx_Fr G NW AO PX p s m args meth c M) (hn : nm M.1 = M.2.2.2.2.1.cls) (hT : rx_arOK G AO cl nm T) {idx ci : Nat} (hq : T.2.2.1 M.1 idx = some ci) : rx_Ook s args M.2.2.2.2.1.cls cl idx ci := by
  obtain ⟨C, F, N, h1, h2, h3⟩ := hT M.1 idx ci hq
  rw [hn] at h2
  exact ⟨C, F, N, h1, hF.2.2.2.2.2.2.1 _ h2, hF.2.2.2.2.2.2.2.2.1 _ h3⟩
set_option maxHeartbeats 4000000 in
theorem rx_step_ok {lw : Bool} {i : Instr} {len : Nat} (hF : rx_Fr G NW AO PX p s m args meth c M) (hn : nm M.1 = M.2.2.2.2.1.cls) (t1 : rx_frOK G NW cl nm T) (t2 : rx_crOK G cl nm T) (t3 : rx_arOK G AO cl nm T) (t4 : rx_kcOK G nm T) (t5 : rx_acOK G)
    (hA : ∀ q, H0.size ≤ q → A q) (hmc : M.2.2.2.2.2.2.1 ≤ R.cells) (hms : M.2.2.2.2.2.2.2 ≤ R.slots) (hscr : rx_Scr lw A s xa H0 r) (hdg : decode M.2.1 (rx_zpc z) = .ok (i, len))
    (hR : rx_R D cl A s xa M.2.2.1 H0 z r ad H locs ls) (hz : rx_step T lw M i len (decode M.2.1 (rx_zpc z + 1)) z = some zs)
    (K : ∀ z' ∈ zs, rx_G p l e R s m args below meth c Q D cl A xa M.2.2.1 H0 z.1.length z.2.2.1.length r ad z') : W p l e R s m args below meth c H locs z.2.2.2.1 z.2.2.2.2.1 Q (F0 m (rx_zpc z) ls ((rx_zst z).map (rx_iv r ad xa))) := by
  obtain ⟨hx, hb, hr, hml, hown, hlk, hts, hnw, hao, hpx, hini⟩ := id hF
  cases i with
  | iconst n =>
    obtain ⟨hl, hz⟩ := rx_ifn hz
    subst hl
    exact rx_h_push_ok hR hz (rx_n_iv hR.1 n) (rx_sc0 hR 0 n) (fun k => lv_iconst hx hb hdg rfl k) K
  | bipush n =>
    obtain ⟨hl, hz⟩ := rx_ifn hz
    subst hl
    exact rx_h_push_ok hR hz (by rw [rx_n_iv hR.1, Int32.ofInt_toInt]) (rx_sc0 hR 0 _) (fun k => lv_bipush hx hb hdg rfl k) K
  | sipush n =>
    obtain ⟨hl, hz⟩ := rx_ifn hz
    subst hl
    exact rx_h_push_ok hR hz (by rw [rx_n_iv hR.1, Int32.ofInt_toInt]) (rx_sc0 hR 0 _) (fun k => lv_sipush hx hb hdg rfl k) K
  | lconst n =>
    obtain ⟨hl, hz⟩ := rx_ifn hz
    subst hl
    exact rx_h_push_ok hR hz (rx_nL_iv hR.1 _) (rx_sc0 hR 1 _) (fun k => lv_lconst hx hb hdg (by rw [← Int64.ofInt_eq_ofNat]) k) K
  | aconst_null =>
    obtain ⟨hl, hz⟩ := rx_ifn hz
    subst hl
    exact rx_h_push_ok hR hz rfl trivial (fun k => lv_null hx hb hdg k) K
  | ldc idx =>
    obtain ⟨hl, hz⟩ := rx_ifn hz
    subst hl
    have hz : rx_h_const T.2.2.2.1 M.1 idx 0 2 z = some zs := hz
    unfold rx_h_const at hz
    split at hz
    · rename_i k n hk
      obtain ⟨hk0, hz⟩ := rx_ifn hz
      subst hk0
      have hw := (t4 M.1 idx _ n hk).1 rfl
      rw [hn] at hw
      exact rx_h_push_ok hR hz (rx_n_iv hR.1 n) (rx_sc0 hR 0 n) (fun k => lv_ldc hx hb hown (hts _ hw) hdg k) K
    · cases hz
  | ldc_w idx =>
    obtain ⟨hl, hz⟩ := rx_ifn hz
    subst hl
    have hz : rx_h_const T.2.2.2.1 M.1 idx 0 3 z = some zs := hz
    unfold rx_h_const at hz
    split at hz
    · rename_i k n hk
      obtain ⟨hk0, hz⟩ := rx_ifn hz
      subst hk0
      have hw := (t4 M.1 idx _ n hk).1 rfl
      rw [hn] at hw
      exact rx_h_push_ok hR hz (rx_n_iv hR.1 n) (rx_sc0 hR 0 n) (fun k => lv_ldcw hx hb hown (hts _ hw) hdg k) K
    · cases hz
  | ldc2_w idx =>
    obtain ⟨hl, hz⟩ := rx_ifn hz
    subst hl
    have hz : rx_h_const T.2.2.2.1 M.1 idx 1 3 z = some zs := hz
    unfold rx_h_const at hz
    split at hz
    · rename_i k n hk
      obtain ⟨hk0, hz⟩ := rx_ifn hz
      subst hk0
      have hw := (t4 M.1 idx _ n hk).2 rfl
      rw [hn] at hw
      exact rx_h_push_ok hR hz (rx_nL_iv hR.1 n) (rx_sc0 hR 1 n) (fun k => lv_ldc2 hx hb hown (hts _ hw) hdg k) K
    · cases hz
  | iload_n k =>
    obtain ⟨hl, hz⟩ := rx_ifn hz
    subst hl
    exact rx_h_load_ok hR hz (fun e0 h k => lv_iload_n hx hb hdg rfl h k) K
  | iload k =>
    obtain ⟨hl, hz⟩ := rx_ifn hz
    subst hl
    exact rx_h_load_ok hR hz (fun e0 h k => lv_iload hx hb hdg h k) K
  | lload_n k =>
    obtain ⟨hl, hz⟩ := rx_ifn hz
    subst hl
    exact rx_h_load_ok hR hz (fun e0 h k => lv_lload_n hx hb hdg rfl h k) K
  | lload k =>
    obtain ⟨hl, hz⟩ := rx_ifn hz
    subst hl
    exact rx_h_load_ok hR hz (fun e0 h k => lv_lload hx hb hdg h k) K
  | aload_n k =>
    obtain ⟨hl, hz⟩ := rx_ifn hz
    subst hl
    exact rx_h_loadA_ok hR hz (fun h k => lv_aload_nN hx hb hdg rfl h k) (fun a h k => lv_aload_n hx hb hdg rfl h k) K
  | aload k =>
    obtain ⟨hl, hz⟩ := rx_ifn hz
    subst hl
    exact rx_h_loadA_ok hR hz (fun h k => lv_aloadN hx hb hdg h k) (fun a h k => lv_aload hx hb hdg h k) K
  | istore_n k =>
    obtain ⟨hl, hz⟩ := rx_ifn hz
    subst hl
    exact rx_h_istore_ok hR hz (fun x rest h k => lv_istore_n hx hb hdg rfl (rx_lvh hR) h rfl k) K
  | istore k =>
    obtain ⟨hl, hz⟩ := rx_ifn hz
    subst hl
    exact rx_h_istore_ok hR hz (fun x rest h k => lv_istore hx hb hdg (rx_lvh hR) h rfl k) K
  | lstore_n k =>
    obtain ⟨hl, hz⟩ := rx_ifn hz
    subst hl
    exact rx_h_lstore_ok hR hz (fun x rest h k => lv_lstore_n hx hb hdg rfl (rx_lvh hR) h rfl k) K
  | lstore k =>
    obtain ⟨hl, hz⟩ := rx_ifn hz
    subst hl
    exact rx_h_lstore_ok hR hz (fun x rest h k => lv_lstore hx hb hdg (rx_lvh hR) h rfl k) K
  | astore_n k =>
    obtain ⟨hl, hz⟩ := rx_ifn hz
    subst hl
    refine rx_h_astore_ok hR hz (fun o rest h k => ?_) K
    cases o with
    | none => exact lv_astore_nN hx hb hdg rfl (rx_lvh hR) h rfl k
    | some a => exact lv_astore_n hx hb hdg rfl (rx_lvh hR) h rfl k
  | astore k =>
    obtain ⟨hl, hz⟩ := rx_ifn hz
    subst hl
    refine rx_h_astore_ok hR hz (fun o rest h k => ?_) K
    cases o with
    | none => exact lv_astoreN hx hb hdg (rx_lvh hR) h rfl k
    | some a => exact lv_astore hx hb hdg (rx_lvh hR) h rfl k
  | iinc k n =>
    obtain ⟨hl, hz⟩ := rx_ifn hz
    subst hl
    exact rx_h_iinc_ok hR hz (fun x v j h1 h2 h3 k => lv_iinc hx hb hdg (rx_lvh hR) h2 h3 h1 rfl k) K
  | iadd =>
    obtain ⟨hl, hz⟩ := rx_ifn hz
    subst hl
    exact rx_h_bin_ok hR hz (fun a b t _ k => lv_iadd hx hb hdg k) K
  | isub =>
    obtain ⟨hl, hz⟩ := rx_ifn hz
    subst hl
    exact rx_h_bin_ok hR hz (fun a b t _ k => lv_isub hx hb hdg k) K
  | imul =>
    obtain ⟨hl, hz⟩ := rx_ifn hz
    subst hl
    exact rx_h_bin_ok hR hz (fun a b t _ k => lv_imul hx hb hdg k) K
  | idiv =>
    obtain ⟨hl, hz⟩ := rx_ifn hz
    subst hl
    exact rx_h_div_ok hR hz (fun x y t h k => lv_idiv hx hb hdg h k) K
  | irem =>
    obtain ⟨hl, hz⟩ := rx_ifn hz
    subst hl
    exact rx_h_div_ok hR hz (fun x y t h k => lv_irem hx hb hdg h k) K
  | iand =>
    obtain ⟨hl, hz⟩ := rx_ifn hz
    subst hl
    exact rx_h_bin_ok hR hz (fun a b t _ k => lv_iand hx hb hdg k) K
  | ior =>
    obtain ⟨hl, hz⟩ := rx_ifn hz
    subst hl
    exact rx_h_bin_ok hR hz (fun a b t _ k => lv_ior hx hb hdg k) K
  | ixor =>
    obtain ⟨hl, hz⟩ := rx_ifn hz
    subst hl
    exact rx_h_bin_ok hR hz (fun a b t _ k => lv_ixor hx hb hdg k) K
  | ishl =>
    obtain ⟨hl, hz⟩ := rx_ifn hz
    subst hl
    exact rx_h_bin_ok hR hz (fun a b t _ k => lv_ishl hx hb hdg k) K
  | ishr =>
    obtain ⟨hl, hz⟩ := rx_ifn hz
    subst hl
    exact rx_h_bin_ok hR hz (fun a b t _ k => lv_ishr hx hb hdg k) K
  | iushr =>
    obtain ⟨hl, hz⟩ := rx_ifn hz
    subst hl
    exact rx_h_bin_ok hR hz (fun a b t _ k => lv_iushr hx hb hdg rfl k) K
  | ineg =>
    obtain ⟨hl, hz⟩ := rx_ifn hz
    subst hl
    exact rx_h_ineg_ok hR hz (fun x t k => lv_ineg hx hb hdg k) K
  | ladd =>
    obtain ⟨hl, hz⟩ := rx_ifn hz
    subst hl
    exact rx_h_binL_ok hR hz (fun a b t _ k => lv_ladd hx hb hdg k) K
  | lsub =>
    obtain ⟨hl, hz⟩ := rx_ifn hz
    subst hl
    exact rx_h_binL_ok hR hz (fun a b t _ k => lv_lsub hx hb hdg k) K
  | lmul =>
    obtain ⟨hl, hz⟩ := rx_ifn hz
    subst hl
    exact rx_h_binL_ok hR hz (fun a b t _ k => lv_lmul hx hb hdg k) K
  | ldiv =>
    obtain ⟨hl, hz⟩ := rx_ifn hz
    subst hl
    exact rx_h_divL_ok hR hz (fun x y t h k => lv_ldiv hx hb hdg h k) K
  | lrem =>
    obtain ⟨hl, hz⟩ := rx_ifn hz
    subst hl
    exact rx_h_divL_ok hR hz (fun x y t h k => lv_lrem hx hb hdg h k) K
  | i2l =>
    obtain ⟨hl, hz⟩ := rx_ifn hz
    subst hl
    exact rx_h_i2l_ok hR hz (fun x t k => lv_i2l hx hb hdg rfl k) K
  | lcmp =>
    obtain ⟨hl, hz⟩ := rx_ifn hz
    subst hl
    exact rx_h_lcmp_ok hx hb hdg hR hz K
  | ifCond cnd off =>
    obtain ⟨hl, hz⟩ := rx_ifn hz
    subst hl
    exact rx_h_if_ok hx hb hdg hR hz K
  | if_icmp cnd off =>
    obtain ⟨hl, hz⟩ := rx_ifn hz
    subst hl
    exact rx_h_icmp_ok hx hb hdg hR hz K
  | goto off =>
    obtain ⟨hl, hz⟩ := rx_ifn hz
    subst hl
    exact rx_h_goto_ok hx hb hdg hR hz K
  | tableswitch dflt lo hi offs =>
    have hz : rx_h_table dflt lo hi offs z = some zs := hz
    exact rx_h_table_ok hx hb hdg hR hz K
  | dup =>
    obtain ⟨hl, hz⟩ := rx_ifn hz
    subst hl
    exact rx_h_dup_ok hR hz (fun v t h k => lv_dup hx hb hdg h k) K
  | dup2 =>
    obtain ⟨hl, hz⟩ := rx_ifn hz
    subst hl
    exact rx_h_dup2_ok hR hz (fun v t h k => lv_dup2_2 hx hb hdg h k) (fun v w t h1 h2 k => lv_dup2_11 hx hb hdg h1 h2 k) K
  | pop =>
    obtain ⟨hl, hz⟩ := rx_ifn hz
    subst hl
    exact rx_h_pop_ok hR hz (fun v t h k => lv_pop hx hb hdg h k) K
  | getfield idx =>
    obtain ⟨hl, hz⟩ := rx_ifn hz
    subst hl
    exact rx_h_get_ok hx hb hts hown (fun q hq => rx_Fok_of hF hn t1 hq) hdg hR hz K
  | putfield idx =>
    obtain ⟨hl, hz⟩ := rx_ifn hz
    subst hl
    exact rx_h_put_ok hx hb hts hown hini (fun q hq => rx_Fok_of hF hn t1 hq) hdg hR hz K
  | arraylength =>
    obtain ⟨hl, hz1⟩ := rx_if_ok hz
    rw [Bool.and_eq_true, Bool.or_eq_true] at hl
    obtain ⟨hl, hlw⟩ := hl
    have hl := beq_iff_eq.mp hl
    subst hl
    by_cases hlw2 : lw = true
    · obtain ⟨L, xs, hX, hbl, hbA, hrL, -⟩ := hscr hlw2
      exact rx_alen_ok (b := r) (bs := 0) (L := L) (xs := xs) hx hb hdg hR hz1 (fun _ _ _ => ⟨hX, hbl, hbA, hrL⟩) K
    · refine rx_alen_ok (b := r) (bs := 0) (L := 0) (xs := fun _ => 0) hx hb hdg hR hz1 (fun _ t ht => ?_) K
      obtain ⟨n, hn2⟩ := ht
      rcases hlw with h | h
      · exact absurd h hlw2
      · unfold rx_topc at h
        rw [hn2] at h
        exact absurd (show false = true from h) Bool.false_ne_true
  | iaload =>
    obtain ⟨hl, hz⟩ := rx_ifn hz
    subst hl
    rcases rx_or_ok hz with hz | hz
    · exact rx_iald hx hb hdg hR hz K
    · obtain ⟨hlw, hz⟩ := rx_if_ok hz
      obtain ⟨L, xs, hX, hbl, hbA, hrL, hrx⟩ := hscr hlw
      exact rx_h_sld_ok hx hb hX hbl hbA hrL hrx hdg hR hz K
  | baload =>
    obtain ⟨hl, hz⟩ := rx_ifn hz
    subst hl
    exact rx_zald hx hb hdg hR hz K
  | laload =>
    obtain ⟨hl, hz⟩ := rx_ifn hz
    subst hl
    exact rx_lald hx hb hdg hR hz K
  | aaload =>
    obtain ⟨hl, hz⟩ := rx_ifn hz
    subst hl
    exact rx_aald hx hb hdg hR hz K
  | iastore =>
    obtain ⟨hl, hz⟩ := rx_ifn hz
    subst hl
    exact rx_iast hx hb hdg hR hz K
  | bastore =>
    obtain ⟨hl, hz⟩ := rx_ifn hz
    subst hl
    exact rx_zast hx hb hdg hR hz K
  | lastore =>
    obtain ⟨hl, hz⟩ := rx_ifn hz
    subst hl
    exact rx_last hx hb hdg hR hz K
  | aastore =>
    obtain ⟨hl, hz⟩ := rx_ifn hz
    subst hl
    exact rx_aast hx hb hdg hR hz K
  | new idx =>
    obtain ⟨hl, hz⟩ := rx_ifn hz
    subst hl
    exact rx_h_new_ok hx hb hts hown hA hmc hms (fun q hq => rx_Nok_of hF hn t2 hq) hdg hR hz K
  | newarray a =>
    obtain ⟨hl, hz⟩ := rx_ifn hz
    subst hl
    have harr : (Jvm.Cond.arrayClass (newarray.typeOf a)).before args s = true := by
      have hz : rx_h_newa M.2.2.2.2.2.2.1 M.2.2.2.2.2.2.2 a z = some zs := hz
      unfold rx_h_newa at hz
      split at hz
      · rename_i ee t tc he htc
        cases a with
        | int => exact hts _ t5.1
        | boolean => exact hts _ t5.2.1
        | long => exact hts _ t5.2.2
        | char => cases htc
        | float => cases htc
        | double => cases htc
        | byte => cases htc
        | short => cases htc
      · cases hz
    exact rx_h_newa_ok hx hb harr hA hmc hms hdg hR hz K
  | anewarray idx =>
    obtain ⟨hl, hz⟩ := rx_ifn hz
    subst hl
    exact rx_h_newq_ok hx hb hown hA hmc hms (fun ci hq => rx_Ook_of hF hn t3 hq) hdg hR hz K
  | _ => exact absurd (show (none : Option (List rx_Z)) = some zs from hz) (fun q => by cases q)
end RXT
end
section
/-! A REFLECTED MACHINE, part 11: calls, and whole runs -/
abbrev rx_End : Type := rx_I × rx_F × List rx_C × Option rx_V
def rx_bind {α β : Type} (g : α → Option (List β)) : List α → Option (List β)
  | [] => some []
  | a :: l => match g a with
    | none => none
    | some x => match rx_bind g l with
      | none => none
      | some y => some (x ++ y)
theorem rx_bind_ok {α β : Type} {g : α → Option (List β)} : ∀ {l : List α} {ys : List β}, rx_bind g l = some ys → ∀ a ∈ l, ∃ xs, g a = some xs ∧ ∀ x ∈ xs, x ∈ ys
  | [], _, _, a, ha => absurd ha List.not_mem_nil
  | b :: l, ys, h, a, ha => by
    rw [rx_bind] at h
    split at h
    · cases h
    · rename_i x hx
      split at h
      · cases h
      · rename_i y hy
        cases h
        rcases List.mem_cons.mp ha with e | e
        · subst e
          exact ⟨x, hx, fun w hw => List.mem_append_left _ hw⟩
        · obtain ⟨xs, h1, h2⟩ := rx_bind_ok hy a e
          exact ⟨xs, h1, fun w hw => List.mem_append_right _ (h2 w hw)⟩
def rx_cats : List rx_V → Nat
  | [] => 0
  | v :: l => (if rx_k2 v then 2 else 1) + rx_cats l
def rx_largs : Nat → List rx_V → List (Nat × rx_V)
  | _, [] => []
  | i, v :: l => (i, v) :: rx_largs (if rx_k2 v then i + 2 else i + 1) l
theorem rx_cats_sum {r : Nat → Int} {ad xa : Nat → Nat} : ∀ (t : List rx_V), ((t.map (rx_iv r ad xa)).map fun v => v.category).sum = rx_cats t
  | [] => rfl
  | v :: t => by
    rw [List.map_cons, List.map_cons, List.sum_cons, rx_cats_sum t, rx_cats]
    cases h : rx_k2 v with
    | true => rw [rx_cat2 h, if_pos rfl]
    | false => rw [rx_cat h, if_neg Bool.false_ne_true]
theorem rx_cats_sl {r : Nat → Int} {ad xa : Nat → Nat} : ∀ (t : List rx_V), (lg_sl (t.map (rx_iv r ad xa))).length = rx_cats t
  | [] => rfl
  | v :: t => by
    have ih := rx_cats_sl (r := r) (ad := ad) (xa := xa) t
    rw [List.map_cons, rx_cats]
    unfold lg_sl at ih ⊢
    rw [List.flatMap_cons, List.length_append, ih]
    cases h : rx_k2 v with
    | true => rw [if_pos (rx_cat2 h), if_pos rfl]; rfl
    | false => rw [if_neg (by rw [rx_cat h]; exact Nat.succ_ne_self 1 ∘ Eq.symm), if_neg Bool.false_ne_true]; rfl
theorem rx_largs_lv {r : Nat → Int} {ad xa : Nat → Nat} : ∀ (t : List rx_V) (i : Nat), rx_lvs r ad xa (rx_largs i t) = lv_args i (t.map (rx_iv r ad xa))
  | [], _ => rfl
  | v :: t, i => by
    rw [List.map_cons, rx_largs, lv_args]
    show (i, rx_iv r ad xa v) :: rx_lvs r ad xa (rx_largs _ t) = _
    rw [rx_largs_lv t]
    cases h : rx_k2 v with
    | true => rw [if_pos (rx_cat2 h), if_pos rfl]
    | false => rw [if_neg Bool.false_ne_true, if_neg (by rw [rx_cat h]; exact Nat.succ_ne_self 1 ∘ Eq.symm)]
theorem rx_largs_mem : ∀ {t : List rx_V} {i : Nat} {q : Nat × rx_V}, q ∈ rx_largs i t → q.2 ∈ t
  | [], _, _, h => absurd h List.not_mem_nil
  | v :: t, i, q, h => by
    rw [rx_largs] at h
    rcases List.mem_cons.mp h with e | e
    · subst e; exact List.mem_cons_self
    · exact List.mem_cons_of_mem _ (rx_largs_mem e)
/-- the uppermost n, the last one first pushed; and the rest -/
def rx_take : Nat → List rx_V → List rx_V → Option (List rx_V × List rx_V)
  | 0, acc, t => some (acc, t)
  | n + 1, acc, t => match t with
    | [] => none
    | v :: t2 => rx_take n (v :: acc) t2
theorem rx_take_ok : ∀ {n : Nat} {acc t as rest : List rx_V}, rx_take n acc t = some (as, rest) → as.length = n + acc.length ∧ acc.reverse ++ t = as.reverse ++ rest
  | 0, acc, t, as, rest, h => by
    rw [rx_take] at h
    cases h
    exact ⟨(Nat.zero_add _).symm, rfl⟩
  | n + 1, acc, [], as, rest, h => absurd (show (none : Option (List rx_V × List rx_V)) = some (as, rest) from h) (fun q => by cases q)
  | n + 1, acc, v :: t2, as, rest, h => by
    have h : rx_take n (v :: acc) t2 = some (as, rest) := h
    obtain ⟨h1, h2⟩ := rx_take_ok h
    refine ⟨by rw [h1, List.length_cons]; omega, ?_⟩
    rw [← h2, List.reverse_cons, List.append_assoc]
    rfl
def rx_cidx (i : Instr) : Option (Nat × Nat) := match i with
  | .invokevirtual idx => some (0, idx)
  | .invokestatic idx => some (1, idx)
  | .invokespecial idx => some (2, idx)
  | _ => none
/-- a receiver of a class -/
def rx_rcv (ht : List rx_C) (ci : Nat) (t : List rx_V) : Option (Nat × List rx_V) := match rx_pr t with
  | some (some k, t2) => match ht[k]? with
    | some (.inl (ci', _)) => rx_if (ci' == ci) (some (k, t2))
    | _ => none
  | _ => none
def rx_z0 (z : rx_Z) (as : List rx_V) : rx_Z := match z with
  | (I0, F1, ht0, _, _, _, _, _) => (I0, F1, ht0, 0, 0, 0, rx_largs 0 as, [])
/-- may a call be: room, frame -/
def rx_may (M M' : rx_Mt) (z : rx_Z) (as t : List rx_V) : Bool :=
  decide (rx_cats t ≤ 8) && (decide (rx_cats as ≤ M'.2.2.1) && (decide (M'.2.2.1 ≤ 21) && (decide (z.2.2.2.1 + M'.2.2.2.2.2.2.1 ≤ M.2.2.2.2.2.2.1) && decide (z.2.2.2.2.1 + M'.2.2.2.2.2.2.2 ≤ M.2.2.2.2.2.2.2))))
/-- the callee, what it is given, what stays; for an object's method the receiver is the first -/
def rx_prep (T : rx_Tb) (M : rx_Mt) (i : Instr) (len : Nat) (z : rx_Z) : Option (rx_J × rx_Mt × List rx_V × List rx_V) := match rx_cidx i with
  | none => none
  | some (op, idx) => match T.2.2.2.2.1 M.1 idx with
    | none => none
    | some q => match T.2.2.2.2.2 q.2.2.2, rx_take q.2.1 [] (rx_zst z) with
      | some M', some (as, t) => rx_if (len == 3 && (q.1 % 3 == op && decide (q.1 < 6))) (
        if op = 1 then rx_if (rx_may M M' z as t) (some (q, M', as, t))
        else match rx_rcv z.2.2.1 q.2.2.1 t with
          | some (k, t2) => rx_if (rx_may M M' z (.inl (some k) :: as) t2) (some (q, M', .inl (some k) :: as, t2))
          | none => none)
      | _, _ => none
def rx_back (M' : rx_Mt) (z : rx_Z) (t : List rx_V) (E : rx_End) : rx_Z := match z, E with
  | (_, _, _, c0, s0, pc0, lv0, _), (I0, F1, ht0, v0) => (I0, F1, ht0, c0 + M'.2.2.2.2.2.2.1, s0 + M'.2.2.2.2.2.2.2, pc0 + 3, lv0, v0.toList ++ t)
def rx_retk (M : rx_Mt) (i : Instr) (len : Nat) (z : rx_Z) : Option rx_End :=
  rx_if (len == 1 && (decide (z.2.2.2.1 ≤ M.2.2.2.2.2.2.1) && decide (z.2.2.2.2.1 ≤ M.2.2.2.2.2.2.2))) (match i with
    | .ireturn => (match rx_zst z with
      | [.inr (0, e)] => (match M.2.2.2.1 with
        | some .int => some (z.1, z.2.1, z.2.2.1, some (.inr (0, e)))
        | some .boolean => rx_if (rx_in01 z.1 e) (some (z.1, z.2.1, z.2.2.1, some (.inr (0, e))))
        | _ => none)
      | _ => none)
    | .lreturn => (match rx_zst z with
      | [.inr (1, e)] => (match M.2.2.2.1 with
        | some .long => some (z.1, z.2.1, z.2.2.1, some (.inr (1, e)))
        | _ => none)
      | _ => none)
    | .areturn => (match rx_zst z with
      | [.inl o] => (match M.2.2.2.1 with
        | some (.object _) => some (z.1, z.2.1, z.2.2.1, some (.inl o))
        | some (.array _) => some (z.1, z.2.1, z.2.2.1, some (.inl o))
        | _ => none)
      | _ => none)
    | .return_ => (match rx_zst z with
      | [] => (match M.2.2.2.1 with
        | none => some (z.1, z.2.1, z.2.2.1, none)
        | _ => none)
      | _ => none)
    | _ => none)
abbrev rx_Xh : Type := Nat → rx_Mt → Instr → Nat → rx_Z → Option (List rx_Z)
def rx_exec (xh : rx_Xh) (T : rx_Tb) : Nat → Nat → Bool → rx_Mt → rx_Z → Option (List rx_End)
  | 0, _, _, _, _ => none
  | f + 1, d, lw, M, z => match decode M.2.1 (rx_zpc z) with
    | .error _ => none
    | .ok (i, len) => match rx_retk M i len z with
      | some E => some [E]
      | none => match rx_or (xh d M i len z) (rx_step T lw M i len (decode M.2.1 (rx_zpc z + 1)) z) with
        | some zs => rx_bind (rx_exec xh T f d lw M) zs
        | none => match d with
          | 0 => none
          | d' + 1 => match rx_prep T M i len z with
            | none => none
            | some (_, M', as, t) => match rx_exec xh T f d' false M' (rx_z0 z as) with
              | none => none
              | some Es => rx_bind (fun E => rx_exec xh T f (d' + 1) lw M (rx_back M' z t E)) Es
/-- methods of the tables -/
def rx_mlOK (G : List Jvm.Cond) (nm : Nat → String) (T : rx_Tb) : Prop := ∀ (j : Nat) (M : rx_Mt), T.2.2.2.2.2 j = some M →
  nm M.1 = M.2.2.2.2.1.cls ∧ Jvm.Cond.code M.2.2.2.2.1 M.2.1 M.2.2.1 M.2.2.2.1 ∈ G ∧ plainName M.2.2.2.2.1.cls = true ∧ Jvm.Cond.initialized M.2.2.2.2.1.cls ∈ G ∧ (M.2.2.2.2.1.cls ≠ "java/lang/invoke/MethodHandle" ∧ M.2.2.2.2.1.cls ≠ "java/lang/invoke/VarHandle") ∧ (M.2.2.2.2.2.1 = true → M.2.2.2.2.1.name = "<init>")
def rx_cjOK (G NW : List Jvm.Cond) (cl : List vw_C) (nm : Nat → String) (T : rx_Tb) : Prop := ∀ (o idx : Nat) (q : rx_J) (M : rx_Mt), T.2.2.2.2.1 o idx = some q → T.2.2.2.2.2 q.2.2.2 = some M →
  (parseMethodDescriptor M.2.2.2.2.1.desc).map (fun d => d.parameters.length) = some q.2.1 ∧
  (q.1 < 3 → Jvm.Cond.methodLink (nm o) idx M.2.2.2.2.1 ∈ G) ∧ (3 ≤ q.1 → ∃ host : String, Jvm.Cond.methodLinkNest (nm o) idx M.2.2.2.2.1 host ∈ NW) ∧
  (q.1 % 3 = 1 → Jvm.Cond.static M.2.2.2.2.1 ∈ G) ∧ (q.1 % 3 ≠ 1 → Jvm.Cond.instanceMethod M.2.2.2.2.1 ∈ G ∧ ∃ (F : u_T) (N : Nat), cl[q.2.2.1]? = some (M.2.2.2.2.1.cls, F, N)) ∧ (q.1 % 3 = 0 → Jvm.Cond.selects M.2.2.2.2.1.cls M.2.2.2.2.1 M.2.2.2.2.1 ∈ G) ∧ (q.1 % 3 = 2 → M.2.2.2.2.1.name = "<init>" ∧ M.2.2.2.1 = none)
/-- the world without its history -/
def rx_W0 (D : va_G) (cl : List vw_C) (A : Nat → Prop) (s : State) (xa : Nat → Nat) (N : Nat) (ht : List rx_C) (r : Nat → Int) (ad : Nat → Nat) (H : Heap) : Prop :=
  ∃ (ws : va_W) (tys : List (ClassId × FieldType)), va_K D cl tys s ∧ va_P D cl ws H ∧ va_D A ws ∧ ws.length = ht.length ∧
    ∀ (k : Nat) (x : rx_C), ht[k]? = some x → rx_csc N ht.length x ∧ ∃ e : va_E, ws[k]? = some (ad k, e) ∧ rx_cell cl tys r ad xa x e
theorem rx_W.to0 {D : va_G} {cl : List vw_C} {A : Nat → Prop} {s : State} {xa : Nat → Nat} {N : Nat} {ht : List rx_C} {r : Nat → Int} {ad : Nat → Nat} {H0 H : Heap} {locs : List Loc} (h : rx_W D cl A s xa N ht r ad H0 H locs) : rx_W0 D cl A s xa N ht r ad H ∧ va_S A H0 H locs := by
  obtain ⟨ws, tys, hK, hP, hD, hS, hl, hc⟩ := h
  exact ⟨⟨ws, tys, hK, hP, hD, hl, hc⟩, hS⟩
theorem rx_W0.to {D : va_G} {cl : List vw_C} {A : Nat → Prop} {s : State} {xa : Nat → Nat} {N : Nat} {ht : List rx_C} {r : Nat → Int} {ad : Nat → Nat} {H0 H : Heap} {locs : List Loc} (h : rx_W0 D cl A s xa N ht r ad H) (hS : va_S A H0 H locs) : rx_W D cl A s xa N ht r ad H0 H locs := by
  obtain ⟨ws, tys, hK, hP, hD, hl, hc⟩ := h
  exact ⟨ws, tys, hK, hP, hD, hS, hl, hc⟩
theorem rx_W0.moved {D : va_G} {cl : List vw_C} {A : Nat → Prop} {s U : State} {xa : Nat → Nat} {N : Nat} {ht : List rx_C} {r : Nat → Int} {ad : Nat → Nat} {H : Heap} (h : rx_W0 D cl A s xa N ht r ad H) (hvm : s.vm.Alike U.vm) : rx_W0 D cl A U xa N ht r ad H := by
  obtain ⟨ws, tys, hK, hP, hD, hl, hc⟩ := h
  exact ⟨ws, tys, va_K.moved hvm hK, hP, hD, hl, hc⟩
/-- what holds at an end -/
def rx_RE (D : va_G) (cl : List vw_C) (A : Nat → Prop) (s : State) (xa : Nat → Nat) (E : rx_End) (r : Nat → Int) (ad : Nat → Nat) (H : Heap) : Prop :=
  rx_sat E.1 r ∧ rx_facts E.2.1 r ∧ rx_fsc E.1.length E.2.1 ∧ rx_W0 D cl A s xa E.1.length E.2.2.1 r ad H ∧ ∀ v, E.2.2.2 = some v → rx_sc E.1.length E.2.2.1.length v
/-- a return instruction that fits an end -/
def rx_rti (M : rx_Mt) (pc : Nat) (r : Nat → Int) (ad xa : Nat → Nat) (v : Option rx_V) : Prop := match v with
  | none => decode M.2.1 pc = .ok (.return_, 1) ∧ M.2.2.2.1 = none
  | some (.inr (0, e)) => decode M.2.1 pc = .ok (.ireturn, 1) ∧ ∃ ty, M.2.2.2.1 = some ty ∧ narrow ty (rx_iv r ad xa (.inr (0, e))) = rx_iv r ad xa (.inr (0, e))
  | some (.inr (1, _)) => decode M.2.1 pc = .ok (.lreturn, 1) ∧ M.2.2.2.1 = some .long
  | some (.inr (_ + 2, _)) => False
  | some (.inl _) => decode M.2.1 pc = .ok (.areturn, 1) ∧ ∃ ty, M.2.2.2.1 = some ty ∧ ((∃ n, ty = .object n) ∨ ∃ t, ty = .array t)
theorem rx_retk_ok {M : rx_Mt} {i : Instr} {len : Nat} {z : rx_Z} {E : rx_End} {r : Nat → Int} {ad xa : Nat → Nat} (hs : rx_sat z.1 r) (h : rx_retk M i len z = some E) (hdg : decode M.2.1 (rx_zpc z) = .ok (i, len)) : E.1 = z.1 ∧ E.2.1 = z.2.1 ∧ E.2.2.1 = z.2.2.1 ∧ rx_zst z = E.2.2.2.toList ∧ z.2.2.2.1 ≤ M.2.2.2.2.2.2.1 ∧ z.2.2.2.2.1 ≤ M.2.2.2.2.2.2.2 ∧ rx_rti M (rx_zpc z) r ad xa E.2.2.2 := by
  unfold rx_retk at h
  obtain ⟨h1, h2⟩ := rx_if_ok h
  rw [Bool.and_eq_true, Bool.and_eq_true, beq_iff_eq, decide_eq_true_eq, decide_eq_true_eq] at h1
  obtain ⟨hl, hc, hsl⟩ := h1
  subst hl
  split at h2
  · split at h2
    · rename_i e hst
      split at h2
      · rename_i hret
        cases h2
        exact ⟨rfl, rfl, rfl, hst, hc, hsl, hdg, .int, hret, rfl⟩
      · rename_i hret
        obtain ⟨h01, h2⟩ := rx_if_ok h2
        cases h2
        refine ⟨rfl, rfl, rfl, hst, hc, hsl, hdg, .boolean, hret, ?_⟩
        exact (rx_fit_ok (tc := 1) (ty := .boolean) (v := .inr (0, e)) hs h01 rfl).1
      · cases h2
    · cases h2
  · split at h2
    · rename_i e hst
      split at h2
      · rename_i hret
        cases h2
        exact ⟨rfl, rfl, rfl, hst, hc, hsl, hdg, hret⟩
      · cases h2
    · cases h2
  · split at h2
    · rename_i o hst
      split at h2
      · rename_i n hret
        cases h2
        exact ⟨rfl, rfl, rfl, hst, hc, hsl, hdg, _, hret, Or.inl ⟨n, rfl⟩⟩
      · rename_i n hret
        cases h2
        exact ⟨rfl, rfl, rfl, hst, hc, hsl, hdg, _, hret, Or.inr ⟨n, rfl⟩⟩
      · cases h2
    · cases h2
  · split at h2
    · rename_i hst
      split at h2
      · rename_i hret
        cases h2
        exact ⟨rfl, rfl, rfl, hst, hc, hsl, hdg, hret⟩
      · cases h2
    · cases h2
  · cases h2
section RXC
variable {p : Program} {l : Launch} {e : Env} {R : Room} {s : State} {m : MethodId} {args : Array Value} {below : List Frame} {meth : Method} {c : Code} {H : Heap} {locs : List Loc} {cells slots : Nat} {Q : State → Prop}
variable {pc : Nat} {ls : Array Slot} {rest st0 : List Value} {A : Nat → Prop} {H0 : Heap} {mc ms : Nat}
theorem rx_call {Qa : State → Outcome → State → Prop} (hr : va_Run p l e R s m args below meth c H locs cells slots mc ms (F0 m pc ls st0) rest Qa A) (hS : va_S A H0 H locs) (hQ : ∀ st oc t, Qa st oc t → va_F A st t)
    (kk : ∀ (v : Option Value) (st t : State) (H1 : Heap) (locs1 : List Loc), t.heap = H1 → st.heap = H → s.vm.Alike t.vm → Qa st (.returned v) t → va_S A H0 H1 locs1 → W p l e R s m args below meth c H1 locs1 (cells + mc) (slots + ms) Q (F0 m (pc + 3) ls (v.toList ++ rest))) : W p l e R s m args below meth c H locs cells slots Q (F0 m pc ls st0) := by
  intro T hT X
  obtain ⟨v, st₀, t, T', L, h0, X', hL, e1, e2, hq, st⟩ := hr T hT X
  obtain ⟨hz, hk⟩ := hQ _ _ _ hq
  rw [h0] at hz hk
  obtain ⟨t2, a1, b1⟩ := kk v st₀ t T'.heap (locs ++ L) e1.symm h0 (by rw [← e2]; exact X'.warmed.alike) hq
    ⟨Nat.le_trans hS.1 (by rw [e1]; exact hz), fun q h1 h2 => by rw [e1, hk q (Nat.lt_of_lt_of_le h1 hS.1) h2]; exact hS.2.1 q h1 h2, fun q hq => by
      rcases List.mem_append.mp hq with h | h
      · exact hS.2.2 q h
      · exact hL q h⟩ T' rfl X'
  exact ⟨t2, st t2 a1, b1⟩
end RXC

section RXV
variable {G NW : List Jvm.Cond} {AO : List String} {cl : List vw_C} {T : rx_Tb} {nm : Nat → String} {xh : rx_Xh}
/-- what a method is given -/
def rx_Pre (NW : List Jvm.Cond) (AO : List String) (PX : State → Prop) (D : va_G) (cl : List vw_C) (A : Nat → Prop) (xa : Nat → Nat) (z : rx_Z) (r : Nat → Int) (ad : Nat → Nat) (U : State) : Prop :=
  (∀ w ∈ NW, va_Nw w U) ∧ (∀ C ∈ AO, va_AO C U) ∧ PX U ∧ rx_W0 D cl A U xa z.1.length z.2.2.1 r ad U.heap ∧ ∀ q, U.heap.size ≤ q → A q
/-- what a method answers -/
def rx_Post (D : va_G) (cl : List vw_C) (A : Nat → Prop) (xa : Nat → Nat) (N M : Nat) (r : Nat → Int) (ad : Nat → Nat) (Es : List rx_End) : Array Value → State → Outcome → State → Prop := fun _ st oc t =>
  (∃ E ∈ Es, ∃ (r' : Nat → Int) (ad' : Nat → Nat), N ≤ E.1.length ∧ M ≤ E.2.2.1.length ∧ rx_same N r r' ∧ rx_sameA M ad ad' ∧ rx_RE D cl A t xa E r' ad' t.heap ∧ oc = .returned (E.2.2.2.map (rx_iv r' ad' xa))) ∧ va_F A st t
/-- a run's ends lead to what is wanted -/
def rx_Goal (f d : Nat) (lw : Bool) (xh : rx_Xh) (T : rx_Tb) (G NW : List Jvm.Cond) (AO : List String) (cl : List vw_C) (nm : Nat → String) (A : Nat → Prop) (xa : Nat → Nat) (PX : State → Prop) (l : Launch) (D : va_G) : Prop :=
  ∀ (M : rx_Mt) (z : rx_Z) (Es : List rx_End), rx_exec xh T f d lw M z = some Es → nm M.1 = M.2.2.2.2.1.cls →
  ∀ {p : Program} {e : Env} {R : Room} {s : State} {m : MethodId} {args : Array Value} {below : List Frame} {meth : Method} {c : Code} {Q : State → Prop} {H0 H : Heap} {locs : List Loc} {ls : Array Slot} {r : Nat → Int} {ad : Nat → Nat},
    rx_Fr G NW AO PX p s m args meth c M → (∀ q, H0.size ≤ q → A q) → H0 = s.heap → M.2.2.2.2.2.2.1 ≤ R.cells → M.2.2.2.2.2.2.2 ≤ R.slots → d ≤ R.frames → d * 40 ≤ R.locals → rx_Scr lw A s xa H0 r → rx_R D cl A s xa M.2.2.1 H0 z r ad H locs ls →
    (∀ E ∈ Es, ∀ (r' : Nat → Int) (ad' : Nat → Nat) (H' : Heap) (locs' : List Loc) (ls' : Array Slot) (pc' k' n' : Nat), z.1.length ≤ E.1.length → z.2.2.1.length ≤ E.2.2.1.length → rx_same z.1.length r r' → rx_sameA z.2.2.1.length ad ad' → rx_RE D cl A s xa E r' ad' H' → va_S A H0 H' locs' → k' ≤ M.2.2.2.2.2.2.1 → n' ≤ M.2.2.2.2.2.2.2 → rx_rti M pc' r' ad' xa E.2.2.2 →
      W p l e R s m args below meth c H' locs' k' n' Q (F0 m pc' ls' (E.2.2.2.toList.map (rx_iv r' ad' xa)))) →
    W p l e R s m args below meth c H locs z.2.2.2.1 z.2.2.2.2.1 Q (F0 m (rx_zpc z) ls ((rx_zst z).map (rx_iv r ad xa)))
theorem rx_toList_map {r : Nat → Int} {ad xa : Nat → Nat} (v : Option rx_V) : (v.map (rx_iv r ad xa)).toList = v.toList.map (rx_iv r ad xa) := by
  cases v <;> rfl
set_option maxHeartbeats 1000000 in
/-- a method meets what its run says -/
theorem rx_met {A : Nat → Prop} {xa : Nat → Nat} {PX : State → Prop} {l : Launch} {D : va_G} {f d j : Nat} (hGG : ∀ w ∈ G, goodWord w = true) (tm : rx_mlOK G nm T) (ih : rx_Goal f d false xh T G NW AO cl nm A xa PX l D) {M' : rx_Mt} (hj : T.2.2.2.2.2 j = some M') {z : rx_Z} {as : List rx_V} {Es : List rx_End} {r : Nat → Int} {ad : Nat → Nat}
    (hex : rx_exec xh T f d false M' (rx_z0 z as) = some Es) (hsat : rx_sat z.1 r) (hfa : rx_facts z.2.1 r) (hfs : rx_fsc z.1.length z.2.1) (has : ∀ v ∈ as, rx_sc z.1.length z.2.2.1.length v) (hcats : rx_cats as ≤ M'.2.2.1) :
    Met l M'.2.2.2.2.1 (Jvm.Cond.code M'.2.2.2.2.1 M'.2.1 M'.2.2.1 M'.2.2.2.1 :: G) { frames := d, cells := M'.2.2.2.2.2.2.1, slots := M'.2.2.2.2.2.2.2, locals := d * 40 } (va_Pc (as.map (rx_iv r ad xa)) (rx_Pre NW AO PX D cl A xa z r ad)) (rx_Post D cl A xa z.1.length z.2.2.1.length r ad Es) M'.2.2.2.2.2.2.1 M'.2.2.2.2.2.2.2 A := by
  obtain ⟨m1, m2, m3, m4, m5, m6⟩ := tm j M' hj
  refine Met.ofW (cc := M'.2.1) (maxL := M'.2.2.1) (ret := M'.2.2.2.1) m3 rfl ?_
  intro p e s m args below meth c s₁ B hml hv
  obtain ⟨hargs, hnw, hao, hpx, hW0, hA⟩ := hv
  subst hargs
  have hx := B.exec
  have hb := B.bytes
  have hr := B.returns
  have hts0 := atoms_spec (ws := Jvm.Cond.code M'.2.2.2.2.1 M'.2.1 M'.2.2.1 M'.2.2.2.1 :: G) B.pre
  have hts : ∀ w ∈ G, w.before (as.map (rx_iv r ad xa)).toArray s = true := fun w hw => hts0 w (List.mem_cons_of_mem _ hw)
  have hown : s.vm.findClass M'.2.2.2.2.1.cls = some m.cls := findClass_of_methodNamed B.named
  have hlocks := B.notSynchronized
  have hname : meth.name = M'.2.2.2.2.1.name := (name_of_methodNamed B.named B.method).1
  have hF : rx_Fr G NW AO PX p s m (as.map (rx_iv r ad xa)).toArray meth c M' := ⟨hx, hb, hr, hml, hown, hlocks, hts, hnw, hao, hpx, fun hi => hname.trans (m6 hi)⟩
  have hl := lv_entry (as.map (rx_iv r ad xa)) (n := M'.2.2.1) (by rw [rx_cats_sl]; exact hcats)
  rw [lg_entry_eq]
  generalize (lg_sl (as.map (rx_iv r ad xa)) ++ List.replicate (M'.2.2.1 - (lg_sl (as.map (rx_iv r ad xa))).length) Slot.unset).toArray = ls at hl ⊢
  rw [← rx_largs_lv] at hl
  have hR0 : rx_R D cl A s xa M'.2.2.1 s.heap (rx_z0 z as) r ad s.heap [] ls :=
    ⟨hsat, hfa, hfs, hW0.to va_S.rf, hl, fun q hq => has _ (rx_largs_mem hq), fun v hv => absurd hv List.not_mem_nil⟩
  refine ih M' (rx_z0 z as) Es hex m1 hF hA rfl (Nat.le_refl _) (Nat.le_refl _) (Nat.le_refl _) (Nat.le_refl _) (fun h => absurd h Bool.false_ne_true) hR0 ?_
  intro E hE r' ad' H' locs' ls' pc' k' n' hN hM hsr hsa hRE hS hk hn hrt
  have hpost : ∀ t : State, t.heap = H' → s.WarmedH t.vm → rx_Post D cl A xa z.1.length z.2.2.1.length r ad Es (as.map (rx_iv r ad xa)).toArray s (.returned (E.2.2.2.map (rx_iv r' ad' xa))) t := by
    intro t ht hW
    refine ⟨⟨E, hE, r', ad', hN, hM, hsr, hsa, ⟨hRE.1, hRE.2.1, hRE.2.2.1, ?_, hRE.2.2.2.2⟩, rfl⟩, hS.F ht⟩
    rw [ht]
    exact hRE.2.2.2.1.moved hW.alike
  refine W.widen hk hn ?_
  obtain ⟨eI, eF, eh, v⟩ := E
  match v, hrt, hpost with
  | none, hrt, hpost => exact W.vret hx hb (hr.trans hrt.2) hpost hS.2.2 hrt.1
  | some (.inl none), hrt, hpost =>
    obtain ⟨h1, ty, h2, h3⟩ := hrt
    exact W.aret hx hb (hr.trans h2) h3 (Or.inl rfl) hpost hS.2.2 h1
  | some (.inl (some k)), hrt, hpost =>
    obtain ⟨h1, ty, h2, h3⟩ := hrt
    exact W.aret hx hb (hr.trans h2) h3 (Or.inr ⟨_, rfl⟩) hpost hS.2.2 h1
  | some (.inr (0, q)), hrt, hpost =>
    obtain ⟨h1, ty, h2, h3⟩ := hrt
    exact W.zret hx hb (hr.trans h2) h3 hpost hS.2.2 h1
  | some (.inr (1, q)), hrt, hpost => exact W.lret hx hb (hr.trans hrt.2) hpost hS.2.2 hrt.1
  | some (.inr (_ + 2, q)), hrt, hpost => exact hrt.elim
end RXV
end
section
/-! A REFLECTED MACHINE, part 12: the soundness of runs -/
/-- what goes with a start into every call -/
def rx_PXOK (NW : List Jvm.Cond) (A : Nat → Prop) (PX : State → Prop) : Prop :=
  (∀ w ∈ NW, w.onTables = true ∧ ∀ (s U : State), s.WarmedH U.vm → va_Nw w s → va_Nw w U) ∧ (∀ (U : State) (g : JFrame) (mk : MethodId) (a : Array Value), PX U → PX (U.calling g mk a)) ∧
  ∀ u U : State, PX u → u.WarmedH U.vm → (∀ a : Nat, a < u.heap.size → ¬ A a → U.heap[a]? = u.heap[a]?) → PX U
def rx_xhOK (xh : rx_Xh) (G NW : List Jvm.Cond) (AO : List String) (cl : List vw_C) (nm : Nat → String) (A : Nat → Prop) (xa : Nat → Nat) (PX : State → Prop) (l : Launch) (D : va_G) : Prop :=
  ∀ (d : Nat) (M : rx_Mt) (i : Instr) (len : Nat) (z : rx_Z) (zs : List rx_Z), xh d M i len z = some zs → nm M.1 = M.2.2.2.2.1.cls →
  ∀ {p : Program} {e : Env} {R : Room} {s : State} {m : MethodId} {args : Array Value} {below : List Frame} {meth : Method} {c : Code} {Q : State → Prop} {H0 H : Heap} {locs : List Loc} {ls : Array Slot} {r : Nat → Int} {ad : Nat → Nat},
    rx_Fr G NW AO PX p s m args meth c M → (∀ q, H0.size ≤ q → A q) → H0 = s.heap → M.2.2.2.2.2.2.1 ≤ R.cells → M.2.2.2.2.2.2.2 ≤ R.slots → d ≤ R.frames → d * 40 ≤ R.locals → decode M.2.1 (rx_zpc z) = .ok (i, len) → rx_R D cl A s xa M.2.2.1 H0 z r ad H locs ls →
    (∀ z' ∈ zs, rx_G p l e R s m args below meth c Q D cl A xa M.2.2.1 H0 z.1.length z.2.2.1.length r ad z') →
    W p l e R s m args below meth c H locs z.2.2.2.1 z.2.2.2.2.1 Q (F0 m (rx_zpc z) ls ((rx_zst z).map (rx_iv r ad xa)))
theorem rx_rcv_ok {ht : List rx_C} {ci k : Nat} {t t2 : List rx_V} (h : rx_rcv ht ci t = some (k, t2)) : t = .inl (some k) :: t2 ∧ ∃ fs, ht[k]? = some (.inl (ci, fs)) := by
  unfold rx_rcv at h
  split at h
  · rename_i k0 t0 hpr
    split at h
    · rename_i ci' fs hht
      obtain ⟨h1, h2⟩ := rx_ifn h
      cases h2
      subst h1
      exact ⟨rx_pr_ok hpr, fs, hht⟩
    · cases h
  · cases h
theorem rx_prep_ok {T : rx_Tb} {M M' : rx_Mt} {i : Instr} {len : Nat} {z : rx_Z} {q : rx_J} {as t : List rx_V} (h : rx_prep T M i len z = some (q, M', as, t)) :
    ∃ op idx, rx_cidx i = some (op, idx) ∧ len = 3 ∧ T.2.2.2.2.1 M.1 idx = some q ∧ T.2.2.2.2.2 q.2.2.2 = some M' ∧ q.1 % 3 = op ∧ q.1 < 6 ∧ rx_may M M' z as t = true ∧
      ((op = 1 ∧ as.length = q.2.1 ∧ rx_zst z = as.reverse ++ t) ∨ (op ≠ 1 ∧ ∃ (k : Nat) (as2 : List rx_V) (fs : List rx_X), as = .inl (some k) :: as2 ∧ as2.length = q.2.1 ∧ rx_zst z = as2.reverse ++ .inl (some k) :: t ∧ z.2.2.1[k]? = some (.inl (q.2.2.1, fs)))) := by
  unfold rx_prep at h
  split at h
  · cases h
  · rename_i op idx hc
    split at h
    · cases h
    · rename_i q0 hq
      split at h
      · rename_i M0 as0 t0 hM hta
        obtain ⟨h1, h2⟩ := rx_if_ok h
        rw [Bool.and_eq_true, Bool.and_eq_true, beq_iff_eq, beq_iff_eq, decide_eq_true_eq] at h1
        obtain ⟨hl, ho, h6⟩ := h1
        obtain ⟨g1, g2⟩ := rx_take_ok hta
        rw [List.length_nil, Nat.add_zero] at g1
        rw [List.reverse_nil, List.nil_append] at g2
        split at h2
        · rename_i hop
          obtain ⟨h3, h4⟩ := rx_if_ok h2
          cases h4
          exact ⟨op, idx, hc, hl, hq, hM, ho, h6, h3, Or.inl ⟨hop, g1, g2⟩⟩
        · rename_i hop
          split at h2
          · rename_i k t2 hrc
            obtain ⟨h3, h4⟩ := rx_if_ok h2
            cases h4
            obtain ⟨k1, fs, k2⟩ := rx_rcv_ok hrc
            exact ⟨op, idx, hc, hl, hq, hM, ho, h6, h3, Or.inr ⟨hop, k, as0, fs, rfl, g1, by rw [g2, k1], k2⟩⟩
          · cases h2
      · cases h
theorem rx_cidx_ok {i : Instr} {op idx : Nat} (h : rx_cidx i = some (op, idx)) : (op = 0 ∧ i = .invokevirtual idx) ∨ (op = 1 ∧ i = .invokestatic idx) ∨ (op = 2 ∧ i = .invokespecial idx) := by
  unfold rx_cidx at h
  split at h
  · cases h; exact Or.inl ⟨rfl, rfl⟩
  · cases h; exact Or.inr (Or.inl ⟨rfl, rfl⟩)
  · cases h; exact Or.inr (Or.inr ⟨rfl, rfl⟩)
  · cases h
theorem rx_Scr.to {lw : Bool} {A : Nat → Prop} {s : State} {xa : Nat → Nat} {H0 : Heap} {r r' : Nat → Int} {N : Nat} (h : rx_Scr lw A s xa H0 r) (hN : 8 ≤ N) (hr : rx_same N r r') : rx_Scr lw A s xa H0 r' := fun hl => by
  obtain ⟨L, xs, h1, h2, h3, h4, h5⟩ := h hl
  exact ⟨L, xs, h1, h2, h3, by rw [hr 1 (by omega)]; exact h4, fun j hj => by rw [hr (2 + j) (by omega)]; exact h5 j hj⟩
section RXG
variable {G NW : List Jvm.Cond} {AO : List String} {cl : List vw_C} {T : rx_Tb} {nm : Nat → String} {xh : rx_Xh}
variable {p : Program} {l : Launch} {e : Env} {R : Room} {s : State} {m : MethodId} {args : Array Value} {below : List Frame} {meth : Method} {c : Code} {Q : State → Prop}
variable {D : va_G} {A : Nat → Prop} {xa : Nat → Nat} {H0 H : Heap} {locs : List Loc} {ls : Array Slot} {r : Nat → Int} {ad : Nat → Nat} {PX : State → Prop}
theorem rx_blind {z : rx_Z} {as : List Value} (hPX : rx_PXOK NW A PX) : FrameBlind (va_Pc as (rx_Pre NW AO PX D cl A xa z r ad)) := fun a U g mk h => by
  obtain ⟨h0, h1, h2, h3, h4, h5⟩ := h
  exact ⟨h0, fun w hw => va_Nw.same (u := U) (U := U.calling g mk a) (hPX.1 w hw).1 rfl (h1 w hw), fun C hC => va_AO.moved (Vm.Alike.refl U.vm) (h2 C hC), hPX.2.1 U g mk a h3, h4.moved (U := U.calling g mk a) (Vm.Alike.refl U.vm), h5⟩
theorem rx_pre_at {z : rx_Z} {M : rx_Mt} (hPX : rx_PXOK NW A PX) (hF : rx_Fr G NW AO PX p s m args meth c M) (hA : ∀ q, H0.size ≤ q → A q) (hH0 : H0 = s.heap) (hR : rx_R D cl A s xa M.2.2.1 H0 z r ad H locs ls) (U : State) (hU : U.heap = H) (hW : s.WarmedH U.vm) : rx_Pre NW AO PX D cl A xa z r ad U := by
  obtain ⟨hW0, hS⟩ := hR.2.2.2.1.to0
  refine ⟨fun w hw => (hPX.1 w hw).2 s U hW (hF.2.2.2.2.2.2.2.1 w hw), fun C hC => va_AO.moved hW.alike (hF.2.2.2.2.2.2.2.2.1 C hC), hPX.2.2 s U hF.2.2.2.2.2.2.2.2.2.1 hW (fun a h1 h2 => ?_), ?_, fun q hq => hA q ?_⟩
  · rw [hU, ← hH0]
    exact hS.2.1 a (by rw [hH0]; exact h1) h2
  · rw [hU]
    exact hW0.moved hW.alike
  · rw [hU] at hq
    exact Nat.le_trans hS.1 hq
set_option maxHeartbeats 2000000 in
/-- a call of a method of the tables -/
theorem rx_run {f d : Nat} {M M' : rx_Mt} {i : Instr} {len : Nat} {z : rx_Z} {q : rx_J} {as t : List rx_V} {Es : List rx_End} (hGG : ∀ w ∈ G, goodWord w = true) (hPX : rx_PXOK NW A PX) (tm : rx_mlOK G nm T) (tc : rx_cjOK G NW cl nm T) (ih : rx_Goal f d false xh T G NW AO cl nm A xa PX l D) (hn : nm M.1 = M.2.2.2.2.1.cls)
    (hF : rx_Fr G NW AO PX p s m args meth c M) (hA : ∀ q, H0.size ≤ q → A q) (hH0 : H0 = s.heap) (hmc : M.2.2.2.2.2.2.1 ≤ R.cells) (hms : M.2.2.2.2.2.2.2 ≤ R.slots) (hd : d + 1 ≤ R.frames) (hdl : (d + 1) * 40 ≤ R.locals) (hR : rx_R D cl A s xa M.2.2.1 H0 z r ad H locs ls) (hdg : decode M.2.1 (rx_zpc z) = .ok (i, len))
    (hprep : rx_prep T M i len z = some (q, M', as, t)) (hex : rx_exec xh T f d false M' (rx_z0 z as) = some Es) :
    ∃ as2 : List rx_V, va_Run p l e R s m args below meth c H locs z.2.2.2.1 z.2.2.2.2.1 M'.2.2.2.2.2.2.1 M'.2.2.2.2.2.2.2 (F0 m (rx_zpc z) ls ((rx_zst z).map (rx_iv r ad xa))) (t.map (rx_iv r ad xa)) (rx_Post D cl A xa z.1.length z.2.2.1.length r ad Es (as2.map (rx_iv r ad xa)).toArray) A := by
  obtain ⟨op, idx, hci, hlen, hq, hM', hop, h6, hmay, hshape⟩ := rx_prep_ok hprep
  subst hlen
  unfold rx_may at hmay
  simp only [Bool.and_eq_true, decide_eq_true_eq] at hmay
  obtain ⟨y1, y2, y3, y4, y5⟩ := hmay
  obtain ⟨m1, m2, m3, m4, m5, m6⟩ := tm _ _ hM'
  obtain ⟨c1, c2, c3, c4, c5, c6, c7⟩ := tc _ _ _ _ hq hM'
  rw [hn] at c2 c3
  obtain ⟨hx, hb, hr, hml, hown, hlk, hts, hnw, hao, hpx, hini⟩ := id hF
  have hst := rx_stsc hR
  have has : ∀ v ∈ as, rx_sc z.1.length z.2.2.1.length v := by
    intro v hv
    rcases hshape with ⟨-, -, e1⟩ | ⟨-, k, as2, fs, e0, -, e1, -⟩
    · exact hst v (by rw [e1]; exact List.mem_append_left _ (List.mem_reverse.mpr hv))
    · rw [e0] at hv
      rcases List.mem_cons.mp hv with h | h
      · exact hst v (by rw [e1, h]; exact List.mem_append_right _ List.mem_cons_self)
      · exact hst v (by rw [e1]; exact List.mem_append_left _ (List.mem_reverse.mpr h))
  have hMet := rx_met (l := l) (D := D) (ad := ad) hGG tm ih hM' hex hR.1 hR.2.1 hR.2.2.1 has y2
  have hGI : GoodIn G (Jvm.Cond.code M'.2.2.2.2.1 M'.2.1 M'.2.2.1 M'.2.2.2.1 :: G) := fun w hw => by
    rcases List.mem_cons.mp hw with h | h
    · subst h; exact ⟨m2, good_of_word (hGG _ m2)⟩
    · exact ⟨h, good_of_word (hGG _ h)⟩
  have S : CallFix p m c M.2.1 M.2.2.1 s args G M.2.2.2.2.1.cls := ⟨hx, hb, hml, hown, hts⟩
  have hroomF : d + 1 ≤ R.frames ∧ 8 + (M'.2.2.1 + 11) + d * 40 ≤ R.locals := ⟨hd, by omega⟩
  have hdesc : ∀ sig, parseMethodDescriptor M'.2.2.2.2.1.desc = some sig → q.2.1 = sig.parameters.length := fun sig h => by
    rw [h] at c1
    exact (Option.some.inj c1).symm
  have hws : ∀ w ∈ (Jvm.Cond.code M'.2.2.2.2.1 M'.2.1 M'.2.2.1 M'.2.2.2.1 :: G), ∀ (a' : Array Value) (U : State), s.WarmedH U.vm → w.before a' U = true := pay_in hts hGI
  have hrest : 2 * (F0 m (rx_zpc z) ls ((rx_zst z).map (rx_iv r ad xa))).monitorRoom + ((t.map (rx_iv r ad xa)).map fun v => v.category).sum ≤ 8 := lv_room (by rw [rx_cats_sum]; exact y1)
  have hf : z.2.2.2.1 + M'.2.2.2.2.2.2.1 ≤ R.cells ∧ z.2.2.2.2.1 + M'.2.2.2.2.2.2.2 ≤ R.slots := ⟨Nat.le_trans y4 hmc, Nat.le_trans y5 hms⟩
  have hlsz : ls.size = M.2.2.1 := (rx_lvh hR).1
  have hpre := rx_pre_at hPX hF hA hH0 hR
  rcases hshape with ⟨ho, hlen, hstk⟩ | ⟨ho, k, as2, fs, hase, hlen, hstk, hkc⟩
  · -- static
    have hi : i = .invokestatic idx := by
      rcases rx_cidx_ok hci with ⟨h, -⟩ | ⟨-, h⟩ | ⟨h, -⟩
      · omega
      · exact h
      · omega
    subst hi
    have hstk2 : (F0 m (rx_zpc z) ls ((rx_zst z).map (rx_iv r ad xa))).stack = (as.map (rx_iv r ad xa)).reverse ++ t.map (rx_iv r ad xa) := by
      show (rx_zst z).map (rx_iv r ad xa) = _
      rw [hstk, List.map_append, List.map_reverse]
    have hlen2 : (as.map (rx_iv r ad xa)).length = q.2.1 := by rw [List.length_map]; exact hlen
    have hstat := hts _ (c4 (hop.trans ho))
    have hp : PreS s H (va_Pc (as.map (rx_iv r ad xa)) (rx_Pre NW AO PX D cl A xa z r ad)) (as.map (rx_iv r ad xa)) := ⟨rx_blind hPX, fun U hU hW => ⟨rfl, hpre U hU hW⟩⟩
    refine ⟨as, ?_⟩
    by_cases h3 : q.1 < 3
    · exact va_runS S hMet ⟨⟨rfl, rfl, hroomF.1, hroomF.2, hws, List.mem_cons_self, hts _ m2, hts _ m4, m5, hdesc, hts _ (c2 h3)⟩, hstat⟩ hp rfl hlen2 hlsz hstk2 hrest hdg hf
    · obtain ⟨host, hh⟩ := c3 (Nat.le_of_not_lt h3)
      exact va_runSN (host := host) S hMet ⟨⟨⟨rfl, rfl, hroomF.1, hroomF.2, hws, List.mem_cons_self⟩, hts _ m2, hts _ m4, m5, hdesc, va_Nw.use rfl (hnw _ hh)⟩, hstat, trivial⟩ hp rfl hlen2 hlsz hstk2 hrest hdg hf
  · -- with a receiver
    subst hase
    obtain ⟨hinm, F, N, hcl⟩ := c5 (by rw [hop]; exact ho)
    have hinst := hts _ hinm
    have hstk2 : (F0 m (rx_zpc z) ls ((rx_zst z).map (rx_iv r ad xa))).stack = (as2.map (rx_iv r ad xa)).reverse ++ .ref (ad k) :: t.map (rx_iv r ad xa) := by
      show (rx_zst z).map (rx_iv r ad xa) = _
      rw [hstk, List.map_append, List.map_reverse]
      rfl
    have hlen2 : (as2.map (rx_iv r ad xa)).length = q.2.1 := by rw [List.length_map]; exact hlen
    have hpc : ∀ U : State, U.heap = H → s.WarmedH U.vm → va_Pc ((Sum.inl (some k) :: as2).map (rx_iv r ad xa)) (rx_Pre NW AO PX D cl A xa z r ad) (Value.ref (ad k) :: as2.map (rx_iv r ad xa)).toArray U := fun U hU hW => ⟨rfl, hpre U hU hW⟩
    obtain ⟨ws, tys, hK, hP, hD, hS, hl, hc⟩ := id hR.2.2.2.1
    obtain ⟨-, e0, hw, vs, he0, -, -⟩ := hc k _ hkc
    subst he0
    have hrecv := va_recv hK hP hcl hw
    have hpV : PreV s H M'.2.2.2.2.1.cls (ad k) (va_Pc ((Sum.inl (some k) :: as2).map (rx_iv r ad xa)) (rx_Pre NW AO PX D cl A xa z r ad)) (as2.map (rx_iv r ad xa)) := ⟨rx_blind hPX, hrecv, hpc⟩
    refine ⟨Sum.inl (some k) :: as2, ?_⟩
    rcases rx_cidx_ok hci with ⟨h0, hi⟩ | ⟨h0, -⟩ | ⟨h0, hi⟩
    · subst hi
      have hsel := hts _ (c6 (hop.trans h0))
      by_cases h3 : q.1 < 3
      · exact va_runV S hMet ⟨⟨rfl, rfl, hroomF.1, hroomF.2, hws, List.mem_cons_self, hts _ m2, hts _ m4, m5, hdesc, hts _ (c2 h3)⟩, hinst, hsel⟩ hpV rfl hlen2 hlsz hstk2 hrest hdg hf
      · obtain ⟨host, hh⟩ := c3 (Nat.le_of_not_lt h3)
        exact va_runVN (host := host) S hMet ⟨⟨⟨rfl, rfl, hroomF.1, hroomF.2, hws, List.mem_cons_self⟩, hts _ m2, hts _ m4, m5, hdesc, va_Nw.use rfl (hnw _ hh)⟩, hinst, hsel⟩ hpV rfl hlen2 hlsz hstk2 hrest hdg hf
    · exact absurd h0 ho
    · subst hi
      obtain ⟨hy1, hret⟩ := c7 (hop.trans h0)
      have hpS : PreS s H (va_Pc ((Sum.inl (some k) :: as2).map (rx_iv r ad xa)) (rx_Pre NW AO PX D cl A xa z r ad)) (.ref (ad k) :: as2.map (rx_iv r ad xa)) := ⟨rx_blind hPX, hpc⟩
      have hcode2 := hts _ m2
      rw [hret] at hcode2 hMet hws
      by_cases h3 : q.1 < 3
      · exact va_runI S hMet ⟨⟨rfl, rfl, hroomF.1, hroomF.2, hws, List.mem_cons_self, hcode2, hts _ m4, m5, hdesc, hts _ (c2 h3)⟩, hy1, hinst⟩ hpS rfl hlen2 hlsz hstk2 hrest hdg hf
      · obtain ⟨host, hh⟩ := c3 (Nat.le_of_not_lt h3)
        exact va_runIN (host := host) S hMet ⟨⟨⟨rfl, rfl, hroomF.1, hroomF.2, hws, List.mem_cons_self⟩, hcode2, hts _ m4, m5, hdesc, va_Nw.use rfl (hnw _ hh)⟩, hy1, hinst⟩ hpS rfl hlen2 hlsz hstk2 hrest hdg hf
set_option maxHeartbeats 2000000 in
theorem rx_goal (hGG : ∀ w ∈ G, goodWord w = true) (hPX : rx_PXOK NW A PX) (t1 : rx_frOK G NW cl nm T) (t2 : rx_crOK G cl nm T) (t3 : rx_arOK G AO cl nm T) (t4 : rx_kcOK G nm T) (t5 : rx_acOK G) (tm : rx_mlOK G nm T) (tc : rx_cjOK G NW cl nm T) (hxh : rx_xhOK xh G NW AO cl nm A xa PX l D) : ∀ (f d : Nat) (lw : Bool), rx_Goal f d lw xh T G NW AO cl nm A xa PX l D := by
  intro f
  induction f with
  | zero =>
    intro d lw M z Es hex
    exact absurd (show (none : Option (List rx_End)) = some Es from hex) (fun q => by cases q)
  | succ f ih =>
    intro d lw M z Es hex hn p e R s m args below meth c Q H0 H locs ls r ad hF hA hH0 hmc hms hd hdl hscr hR hret
    rw [rx_exec] at hex
    split at hex
    · cases hex
    · rename_i i len hdg
      split at hex
      · rename_i E hE
        cases hex
        obtain ⟨a1, a2, a3, a4, a5, a6, a7⟩ := rx_retk_ok (r := r) (ad := ad) (xa := xa) hR.1 hE hdg
        obtain ⟨hW0, hS⟩ := hR.2.2.2.1.to0
        obtain ⟨eI, eF, eh, ev⟩ := E
        dsimp only at a1 a2 a3 a4 a7
        subst a1; subst a2; subst a3
        rw [a4]
        refine hret _ List.mem_cons_self r ad H locs ls (rx_zpc z) z.2.2.2.1 z.2.2.2.2.1 (Nat.le_refl _) (Nat.le_refl _) rx_same.rf rx_sameA.rf ⟨hR.1, hR.2.1, hR.2.2.1, hW0, fun v hv => rx_stsc hR v ?_⟩ hS a5 a6 a7
        rw [a4]
        have hv2 : ev = some v := hv
        rw [hv2]
        exact List.mem_cons_self
      · split at hex
        · rename_i zs hzs
          have K : ∀ z' ∈ zs, rx_G p l e R s m args below meth c Q D cl A xa M.2.2.1 H0 z.1.length z.2.2.1.length r ad z' := by
            intro z' hz' r' ad' H' locs' ls' hN hM hr ha hR'
            obtain ⟨xs, hx1, hx2⟩ := rx_bind_ok hex z' hz'
            exact ih d lw M z' xs hx1 hn hF hA hH0 hmc hms hd hdl (hscr.to hR.1.2.1 hr) hR' fun E hE r2 ad2 H2 locs2 ls2 pc2 k2 n2 hN2 hM2 hr2 ha2 => hret E (hx2 E hE) r2 ad2 H2 locs2 ls2 pc2 k2 n2 (Nat.le_trans hN hN2) (Nat.le_trans hM hM2) (hr.tr hr2 hN) (ha.tr ha2 hM)
          rcases rx_or_ok hzs with h | h
          · exact hxh d M i len z zs h hn hF hA hH0 hmc hms hd hdl hdg hR K
          · exact rx_step_ok hF hn t1 t2 t3 t4 t5 hA hmc hms hscr hdg hR h K
        · split at hex
          · cases hex
          · rename_i d' hno
            split at hex
            · cases hex
            · rename_i q M' as t hprep
              split at hex
              · cases hex
              · rename_i Es' hex'
                obtain ⟨as2, hrun⟩ := rx_run (l := l) (D := D) hGG hPX tm tc (ih d' false) hn hF hA hH0 hmc hms hd hdl hR hdg hprep hex'
                obtain ⟨hW0, hS⟩ := hR.2.2.2.1.to0
                refine rx_call hrun hS (fun _ _ _ h => h.2) fun v st tt H1 locs1 ht hst hvm hpost hS1 => ?_
                obtain ⟨⟨E, hE, r', ad', hN, hM, hsr, hsa, hRE, hov⟩, -⟩ := hpost
                cases hov
                obtain ⟨xs, hx1, hx2⟩ := rx_bind_ok hex E hE
                obtain ⟨b1, b2, b3, b4, b5⟩ := hRE
                rw [ht] at b4
                have b4 := b4.moved hvm.symm
                have hstz := rx_stsc hR
                have htsc : ∀ y ∈ t, rx_sc z.1.length z.2.2.1.length y := by
                  obtain ⟨op, idx, -, -, -, -, -, -, -, hsh⟩ := rx_prep_ok hprep
                  intro y hy
                  rcases hsh with ⟨-, -, e1⟩ | ⟨-, k, as3, fs, -, -, e1, -⟩
                  · exact hstz y (by rw [e1]; exact List.mem_append_right _ hy)
                  · exact hstz y (by rw [e1]; exact List.mem_append_right _ (List.mem_cons_of_mem _ hy))
                have hR' : rx_R D cl A s xa M.2.2.1 H0 (rx_back M' z t E) r' ad' H1 locs1 ls := by
                  refine ⟨b1, b2, b3, b4.to hS1, ?_, fun y hy => rx_sc.mono (rx_lvsc hR y hy) hN hM, fun y hy => ?_⟩
                  · have h := rx_lvh hR
                    show lv_has ls M.2.2.1 (rx_lvs r' ad' xa (rx_zlv z))
                    rw [rx_lvs_ext (rx_lvsc hR) hsr hsa]
                    exact h
                  · rcases List.mem_append.mp hy with h | h
                    · refine b5 y ?_
                      cases hv : E.2.2.2 with
                      | none => rw [hv] at h; exact absurd h List.not_mem_nil
                      | some w =>
                        rw [hv] at h
                        rcases List.mem_cons.mp h with h | h
                        · rw [h]
                        · exact absurd h List.not_mem_nil
                    · exact rx_sc.mono (htsc y h) hN hM
                have hgo := ih (d' + 1) lw M (rx_back M' z t E) xs hx1 hn hF hA hH0 hmc hms hd hdl (hscr.to hR.1.2.1 hsr) hR' fun E2 hE2 r2 ad2 H2 locs2 ls2 pc2 k2 n2 hN2 hM2 hr2 ha2 => hret E2 (hx2 E2 hE2) r2 ad2 H2 locs2 ls2 pc2 k2 n2 (Nat.le_trans hN hN2) (Nat.le_trans hM hM2) (hsr.tr hr2 hN) (hsa.tr ha2 hM)
                have hstk : (rx_zst (rx_back M' z t E)).map (rx_iv r' ad' xa) = (E.2.2.2.map (rx_iv r' ad' xa)).toList ++ t.map (rx_iv r ad xa) := by
                  show (E.2.2.2.toList ++ t).map (rx_iv r' ad' xa) = _
                  rw [List.map_append, rx_toList_map, rx_st_ext htsc hsr hsa]
                rw [hstk] at hgo
                exact hgo
end RXG
end
section
/-! WHAT IS NOT WALKED: Object's constructor, System.arraycopy and Arrays.fill over whole rows of ints, Math.min of known numbers, a text's constant and its length -/
def rx_x_init (d : Nat) (z : rx_Z) : Option (List rx_Z) := match rx_pr (rx_zst z) with
  | some (some _, t) => rx_if (decide (1 ≤ d) && decide (rx_cats t ≤ 8)) (some [rx_nx z 3 t])
  | _ => none
def rx_x_fill (d : Nat) (z : rx_Z) : Option (List rx_Z) := match rx_pi (rx_zst z) with
  | some (v, t) => match rx_pr t with
    | some (some k, t2) => match (z.2.2.1)[k]? with
      | some (.inr (tc, n, _, _)) => rx_if (tc == 0 && (decide (1 ≤ d) && (decide (rx_cats t2 ≤ 8) && decide (n < 2000000000)))) (some [rx_nxh ((z.2.2.1).set k (.inr (0, n, .inl (.inr (0, v)), []))) z 3 t2])
      | _ => none
    | _ => none
  | none => none
def rx_pt (z : rx_Z) (e : rx_E) : Option Int := match rx_bi z.1 e with
  | some (lo, hi) => if lo = hi then some lo else none
  | none => none
def rx_x_copy (d : Nat) (z : rx_Z) : Option (List rx_Z) := match rx_pi (rx_zst z) with
  | some (n, t) => match rx_pi t with
    | some (dp, t) => match rx_pr t with
      | some (some k1, t) => match rx_pi t with
        | some (sp, t) => match rx_pr t with
          | some (some k0, t) => match (z.2.2.1)[k0]?, (z.2.2.1)[k1]? with
            | some (.inr (tc0, n0, df, ov)), some (.inr (tc1, n1, _, _)) => rx_if (tc0 == 0 && (tc1 == 0 && (n0 == n1 && (rx_pt z n == some (n0 : Int) && (rx_pt z dp == some 0 && (rx_pt z sp == some 0 && (decide (1 ≤ d) && (decide (rx_cats t ≤ 8) && decide (n0 < 2000000000))))))))) (some [rx_nxh ((z.2.2.1).set k1 (.inr (0, n0, df, ov))) z 3 t])
            | _, _ => none
          | _ => none
        | none => none
      | _ => none
    | none => none
  | none => none
def rx_x_min (d : Nat) (z : rx_Z) : Option (List rx_Z) := match rx_pi (rx_zst z) with
  | some (b, t) => match rx_pi t with
    | some (a, t) => match rx_pt z a, rx_pt z b with
      | some x, some y => rx_if (decide (1 ≤ d) && decide (rx_cats t ≤ 8)) (some [rx_nx z 3 (rx_n (if x < y then x else y) :: t)])
      | _, _ => none
    | none => none
  | none => none
def rx_x_str (sl : Nat → Nat → Option Nat) (o idx : Nat) (z : rx_Z) : Option (List rx_Z) := match sl o idx with
  | some i => some [rx_nx z 2 (.inr (2, (0, (i : Int))) :: rx_zst z)]
  | none => none
def rx_x_slen (len : List Nat) (d : Nat) (z : rx_Z) : Option (List rx_Z) := match rx_zst z with
  | .inr (2, (_, i)) :: t => match len[i.toNat]? with
    | some n => rx_if (decide (1 ≤ i) && (decide (2 ≤ d) && decide (rx_cats t ≤ 8))) (some [rx_nx z 3 (rx_n (n : Int) :: t)])
    | none => none
  | _ => none
/-- the loop of image: the row goes into the images, at its place -/
def rx_isO (v : rx_X) : Option Nat := match v with
  | .inl (.inl (some b)) => some b
  | _ => none
def rx_is0 (v : rx_X) : Bool := match v with
  | .inl (.inr (0, (0, 0))) => true
  | _ => false
def rx_objOf (ht : List rx_C) (k ci : Nat) : Option (List rx_X) := match ht[k]? with
  | some (.inl (c, fs)) => if c = ci then some fs else none
  | _ => none
def rx_rowOf (ht : List rx_C) (k tc n : Nat) : Option (rx_X × List (Nat × rx_V)) := match ht[k]? with
  | some (.inr (t, m, df, ov)) => if t = tc ∧ m = n then some (df, ov) else none
  | _ => none
def rx_x_image (z : rx_Z) : Option (List rx_Z) := match z with
  | (I, F, ht, c, s, _, lv, _) => match rx_lk lv 0, rx_lk lv 1, rx_lk lv 2 with
    | some (.inl (some k)), some (.inr (0, e)), some (.inr (0, (0, 0))) => match rx_objOf ht k 12, rx_bi I e with
      | some fs, some (lo, hi) => match (fs[3]?).bind rx_isO, (fs[4]?).bind rx_isO with
        | some b, some a => match rx_rowOf ht b 0 6180, rx_rowOf ht a 0 12360 with
          | some (db, ob), some (da, oa) =>
            rx_if (rx_is0 db && (rx_is0 da && (oa.isEmpty && (decide (lo = hi) && (decide (0 ≤ lo) && (decide (lo ≤ 1) && ob.all (fun q => Nat.blt q.1 6180)))))))
              (some [(I, F, ht.set a (.inr (0, 12360, .inl (rx_n 0), ob.map (fun q => (6180 * lo.toNat + q.1, q.2)))), c, s, 54, (2, rx_n 6180) :: rx_del lv 2, [])])
          | _, _ => none
        | _, _ => none
      | _, _ => none
    | _, _, _ => none
abbrev rx_Im : Type := rx_Mt → Int → Nat → Bool
def rx_xm (M : rx_Mt) (z : rx_Z) : Bool := decide (z.2.2.2.1 ≤ M.2.2.2.2.2.2.1) && decide (z.2.2.2.2.1 ≤ M.2.2.2.2.2.2.2)
def rx_xh (xt sl : Nat → Nat → Option Nat) (len : List Nat) (im : rx_Im) : rx_Xh := fun d M i ln z => match i with
  | .ldc idx => rx_if (ln == 2) (rx_x_str sl M.1 idx z)
  | .sipush n => rx_if (ln == 3 && im M n (rx_zpc z)) (rx_x_image z)
  | .invokespecial idx => rx_if (ln == 3 && xt M.1 idx == some 10) (rx_x_init d z)
  | .invokestatic idx => rx_if (ln == 3) (match xt M.1 idx with
    | some 11 => rx_x_copy d z
    | some 12 => rx_if (rx_xm M z) (rx_x_fill d z)
    | some 13 => rx_if (rx_xm M z) (rx_x_min d z)
    | _ => none)
  | .invokevirtual idx => rx_if (ln == 3 && xt M.1 idx == some 14) (rx_if (rx_xm M z) (rx_x_slen len d z))
  | _ => none
end
section
/-! A REFLECTED MACHINE: the same runs, over a table of what each place of the code does -/
abbrev rx_Act : Type := Nat → rx_Z → Option (List rx_Z)
abbrev rx_Ent : Type := rx_Act ⊕ ((rx_Z → Option rx_End) ⊕ (Nat × rx_Mt × (rx_Z → Option (List rx_V × List rx_V))))
def rx_ex2 (ct : Nat → Nat → Option rx_Ent) : Nat → Nat → Nat → rx_Z → Option (List rx_End)
  | 0, _, _, _ => none
  | f + 1, d, j, (I, F, ht, c, s, pc, lv, st) => match ct j pc with
    | none => none
    | some (.inl g) => match g d (I, F, ht, c, s, pc, lv, st) with
      | none => none
      | some zs => rx_bind (rx_ex2 ct f d j) zs
    | some (.inr (.inl g)) => match g (I, F, ht, c, s, pc, lv, st) with
      | none => none
      | some E => some [E]
    | some (.inr (.inr (j', M', g))) => match d with
      | 0 => none
      | d' + 1 => match g (I, F, ht, c, s, pc, lv, st) with
        | none => none
        | some (as, t) => match rx_ex2 ct f d' j' (I, F, ht, 0, 0, 0, rx_largs 0 as, []) with
          | none => none
          | some Es => rx_bind (fun E => rx_ex2 ct f (d' + 1) j (rx_back M' (I, F, ht, c, s, pc, lv, st) t E)) Es
def rx_entOK (xh : rx_Xh) (T : rx_Tb) (lw : Bool) (M : rx_Mt) (pc : Nat) (e : rx_Ent) : Prop :=
  ∃ (i : Instr) (len : Nat), decode M.2.1 pc = .ok (i, len) ∧ match e with
    | .inl g => ∀ (d : Nat) (I : rx_I) (F : rx_F) (ht : List rx_C) (c s : Nat) (lv : List (Nat × rx_V)) (st : List rx_V), rx_retk M i len (I, F, ht, c, s, pc, lv, st) = none ∧
        ∀ zs, g d (I, F, ht, c, s, pc, lv, st) = some zs → rx_or (xh d M i len (I, F, ht, c, s, pc, lv, st)) (rx_step T lw M i len (decode M.2.1 (pc + 1)) (I, F, ht, c, s, pc, lv, st)) = some zs
    | .inr (.inl g) => ∀ (I : rx_I) (F : rx_F) (ht : List rx_C) (c s : Nat) (lv : List (Nat × rx_V)) (st : List rx_V) (E : rx_End), g (I, F, ht, c, s, pc, lv, st) = some E → rx_retk M i len (I, F, ht, c, s, pc, lv, st) = some E
    | .inr (.inr (j', M', g)) => T.2.2.2.2.2 j' = some M' ∧ ∀ (d : Nat) (I : rx_I) (F : rx_F) (ht : List rx_C) (c s : Nat) (lv : List (Nat × rx_V)) (st : List rx_V), rx_retk M i len (I, F, ht, c, s, pc, lv, st) = none ∧
        rx_or (xh d M i len (I, F, ht, c, s, pc, lv, st)) (rx_step T lw M i len (decode M.2.1 (pc + 1)) (I, F, ht, c, s, pc, lv, st)) = none ∧
        ∀ as t, g (I, F, ht, c, s, pc, lv, st) = some (as, t) → ∃ q, rx_prep T M i len (I, F, ht, c, s, pc, lv, st) = some (q, M', as, t)
theorem rx_ex2_ok {xh : rx_Xh} {T : rx_Tb} {ct : Nat → Nat → Option rx_Ent} {mo : Nat → Option (rx_Mt × Bool)} (hct : ∀ j M lw pc e, mo j = some (M, lw) → ct j pc = some e → rx_entOK xh T lw M pc e) (hmo : ∀ j M, T.2.2.2.2.2 j = some M → mo j = some (M, false)) :
    ∀ (f d j : Nat) (M : rx_Mt) (lw : Bool) (z : rx_Z) (Es : List rx_End), mo j = some (M, lw) → rx_ex2 ct f d j z = some Es → rx_exec xh T f d lw M z = some Es := by
  intro f
  induction f with
  | zero =>
    intro d j M lw z Es _ h
    exact absurd (show (none : Option (List rx_End)) = some Es from h) (fun q => by cases q)
  | succ f ih =>
    intro d j M lw z Es hM h
    obtain ⟨I, F, ht, c, s, pc, lv, st⟩ := z
    rw [rx_ex2] at h
    rw [rx_exec]
    have hb : ∀ {α : Type} (zs : List α) (g1 g2 : α → Option (List rx_End)) (Es : List rx_End), (∀ a Es, g1 a = some Es → g2 a = some Es) → rx_bind g1 zs = some Es → rx_bind g2 zs = some Es := by
      intro α zs g1 g2 Es hg
      induction zs generalizing Es with
      | nil => exact fun h => h
      | cons a l ihl =>
        intro h
        rw [rx_bind] at h ⊢
        split at h
        · cases h
        · rename_i x hx
          split at h
          · cases h
          · rename_i y hy
            rw [hg a x hx, ihl y hy]
            exact h
    split at h
    · cases h
    · rename_i g hg
      obtain ⟨i, len, hd, hk⟩ := hct j M lw pc _ hM hg
      have hk := hk d I F ht c s lv st
      have hd2 : decode M.2.1 (rx_zpc (I, F, ht, c, s, pc, lv, st)) = .ok (i, len) := hd
      rw [hd2]
      dsimp only
      rw [hk.1]
      split at h
      · cases h
      · rename_i zs hzs
        have h3 := hk.2 zs hzs
        have h4 : rx_or (xh d M i len (I, F, ht, c, s, pc, lv, st)) (rx_step T lw M i len (decode M.2.1 (rx_zpc (I, F, ht, c, s, pc, lv, st) + 1)) (I, F, ht, c, s, pc, lv, st)) = some zs := h3
        dsimp only
        rw [h4]
        exact hb zs _ _ Es (fun a Es' h => ih d j M lw a Es' hM h) h
    · rename_i g hg
      obtain ⟨i, len, hd, hk⟩ := hct j M lw pc _ hM hg
      have hk := hk I F ht c s lv st
      have hd2 : decode M.2.1 (rx_zpc (I, F, ht, c, s, pc, lv, st)) = .ok (i, len) := hd
      rw [hd2]
      split at h
      · cases h
      · rename_i E hE
        dsimp only
        rw [hk E hE]
        exact h
    · rename_i j' M' g hg
      obtain ⟨i, len, hd, hj, hk⟩ := hct j M lw pc _ hM hg
      have hk := hk d I F ht c s lv st
      have hd2 : decode M.2.1 (rx_zpc (I, F, ht, c, s, pc, lv, st)) = .ok (i, len) := hd
      rw [hd2]
      dsimp only
      rw [hk.1]
      have h4 : rx_or (xh d M i len (I, F, ht, c, s, pc, lv, st)) (rx_step T lw M i len (decode M.2.1 (rx_zpc (I, F, ht, c, s, pc, lv, st) + 1)) (I, F, ht, c, s, pc, lv, st)) = none := hk.2.1
      dsimp only
      rw [h4]
      dsimp only
      cases d with
      | zero => cases h
      | succ d' =>
        dsimp only at h ⊢
        split at h
        · cases h
        · rename_i as t hast
          obtain ⟨q, hq⟩ := hk.2.2 as t hast
          rw [hq]
          dsimp only
          split at h
          · cases h
          · rename_i Es' hEs'
            have h5 := ih d' j' M' false _ Es' (hmo j' M' hj) hEs'
            have h6 : rx_exec xh T f d' false M' (rx_z0 (I, F, ht, c, s, pc, lv, st) as) = some Es' := h5
            rw [h6]
            dsimp only
            exact hb Es' _ _ Es (fun a Es'' h => ih (d' + 1) j M lw _ Es'' hM h) h
end
section
/-! A REFLECTED MACHINE: a run in pieces -/
theorem rx_bind_hom {α β : Type} {g1 g2 : α → Option (List β)} : ∀ {zs : List α} {Es : List β}, (∀ a Es, g1 a = some Es → g2 a = some Es) → rx_bind g1 zs = some Es → rx_bind g2 zs = some Es
  | [], _, _, h => h
  | a :: l, Es, hg, h => by
    rw [rx_bind] at h ⊢
    split at h
    · cases h
    · rename_i x hx
      split at h
      · cases h
      · rename_i y hy
        rw [hg a x hx, rx_bind_hom hg hy]
        exact h
theorem rx_ex2_succ {ct : Nat → Nat → Option rx_Ent} : ∀ (f d j : Nat) (z : rx_Z) (Es : List rx_End), rx_ex2 ct f d j z = some Es → rx_ex2 ct (f + 1) d j z = some Es := by
  intro f
  induction f with
  | zero =>
    intro d j z Es h
    exact absurd (show (none : Option (List rx_End)) = some Es from h) (fun q => by cases q)
  | succ f ih =>
    intro d j z Es h
    obtain ⟨I, F, ht, c, s, pc, lv, st⟩ := z
    rw [rx_ex2] at h ⊢
    split at h
    · cases h
    · split at h
      · cases h
      · exact rx_bind_hom (fun a Es' h => ih d j a Es' h) h
    · exact h
    · cases d with
      | zero => cases h
      | succ d' =>
        dsimp only at h ⊢
        split at h
        · cases h
        · split at h
          · cases h
          · rename_i Es' hEs'
            rw [ih d' _ _ Es' hEs']
            exact rx_bind_hom (fun a Es'' h => ih (d' + 1) j _ Es'' h) h
theorem rx_ex2_mono {ct : Nat → Nat → Option rx_Ent} {d j : Nat} {z : rx_Z} {Es : List rx_End} (f : Nat) : ∀ g, f ≤ g → rx_ex2 ct f d j z = some Es → rx_ex2 ct g d j z = some Es := by
  intro g hg h
  induction hg with
  | refl => exact h
  | step _ ih => exact rx_ex2_succ _ d j z Es ih
/-- every end of a run keeps P -/
def rx_ru (ct : Nat → Nat → Option rx_Ent) (d j : Nat) (P : rx_End → Prop) (z : rx_Z) : Prop := ∃ (f : Nat) (Es : List rx_End), rx_ex2 ct f d j z = some Es ∧ ∀ E ∈ Es, P E
theorem rx_ru_bind {ct : Nat → Nat → Option rx_Ent} {d j : Nat} {P : rx_End → Prop} : ∀ (zs : List rx_Z), (∀ z ∈ zs, rx_ru ct d j P z) → ∃ (f : Nat) (Es : List rx_End), rx_bind (rx_ex2 ct f d j) zs = some Es ∧ ∀ E ∈ Es, P E
  | [], _ => ⟨0, [], rfl, fun E h => absurd h List.not_mem_nil⟩
  | z :: zs, h => by
    obtain ⟨f1, Es1, h1, p1⟩ := h z List.mem_cons_self
    obtain ⟨f2, Es2, h2, p2⟩ := rx_ru_bind zs (fun w hw => h w (List.mem_cons_of_mem _ hw))
    refine ⟨max f1 f2, Es1 ++ Es2, ?_, fun E hE => ?_⟩
    · rw [rx_bind, rx_ex2_mono f1 _ (Nat.le_max_left _ _) h1, rx_bind_hom (fun a Es h => rx_ex2_mono f2 _ (Nat.le_max_right f1 f2) h) h2]
    · rcases List.mem_append.mp hE with h | h
      · exact p1 E h
      · exact p2 E h
/-- from a state to where the cut says; no end on the way -/
def rx_sg (ct : Nat → Nat → Option rx_Ent) (cut : Nat → Bool) : Nat → Nat → Nat → rx_Z → Option (List rx_Z)
  | 0, _, _, _ => none
  | f + 1, d, j, (I, F, ht, c, s, pc, lv, st) => match cut pc with
    | true => some [(I, F, ht, c, s, pc, lv, st)]
    | false => match ct j pc with
      | none => none
      | some (.inl g) => match g d (I, F, ht, c, s, pc, lv, st) with
        | none => none
        | some zs => rx_bind (rx_sg ct cut f d j) zs
      | some (.inr (.inl _)) => none
      | some (.inr (.inr (j', M', g))) => match d with
        | 0 => none
        | d' + 1 => match g (I, F, ht, c, s, pc, lv, st) with
          | none => none
          | some (as, t) => match rx_ex2 ct f d' j' (I, F, ht, 0, 0, 0, rx_largs 0 as, []) with
            | none => none
            | some Es => rx_bind (fun E => rx_sg ct cut f (d' + 1) j (rx_back M' (I, F, ht, c, s, pc, lv, st) t E)) Es
theorem rx_bind_mem {α β : Type} {g : α → Option (List β)} {l : List α} {ys : List β} (h : rx_bind g l = some ys) {a : α} (ha : a ∈ l) : ∃ xs, g a = some xs ∧ ∀ x ∈ xs, x ∈ ys := rx_bind_ok h a ha
theorem rx_ru_bindE {ct : Nat → Nat → Option rx_Ent} {d j : Nat} {P : rx_End → Prop} {k : rx_End → rx_Z} (Es : List rx_End) (h : ∀ E ∈ Es, rx_ru ct d j P (k E)) : ∃ (f : Nat) (Es2 : List rx_End), rx_bind (fun E => rx_ex2 ct f d j (k E)) Es = some Es2 ∧ ∀ E ∈ Es2, P E := by
  induction Es with
  | nil => exact ⟨0, [], rfl, fun E h => absurd h List.not_mem_nil⟩
  | cons z zs ih =>
    obtain ⟨f1, Es1, h1, p1⟩ := h z List.mem_cons_self
    obtain ⟨f2, Es2, h2, p2⟩ := ih (fun w hw => h w (List.mem_cons_of_mem _ hw))
    refine ⟨max f1 f2, Es1 ++ Es2, ?_, fun E hE => ?_⟩
    · rw [rx_bind, rx_ex2_mono f1 _ (Nat.le_max_left _ _) h1, rx_bind_hom (fun a Es h => rx_ex2_mono f2 _ (Nat.le_max_right f1 f2) h) h2]
    · rcases List.mem_append.mp hE with h | h
      · exact p1 E h
      · exact p2 E h
theorem rx_sg_ok {ct : Nat → Nat → Option rx_Ent} {cut : Nat → Bool} {P : rx_End → Prop} : ∀ (f d j : Nat) (z : rx_Z) (zs : List rx_Z), rx_sg ct cut f d j z = some zs → (∀ z' ∈ zs, rx_ru ct d j P z') → rx_ru ct d j P z := by
  intro f
  induction f with
  | zero =>
    intro d j z zs h
    exact absurd (show (none : Option (List rx_Z)) = some zs from h) (fun q => by cases q)
  | succ f ih =>
    intro d j z zs h hz
    obtain ⟨I, F, ht, c, s, pc, lv, st⟩ := z
    rw [rx_sg] at h
    split at h
    · cases h
      exact hz _ List.mem_cons_self
    · split at h
      · cases h
      · rename_i g hg
        split at h
        · cases h
        · rename_i zs1 hzs1
          have h1 : ∀ z' ∈ zs1, rx_ru ct d j P z' := fun z' hz' => by
            obtain ⟨xs, h2, h3⟩ := rx_bind_mem h hz'
            exact ih d j z' xs h2 fun w hw => hz w (h3 w hw)
          obtain ⟨f1, Es, h4, h5⟩ := rx_ru_bind zs1 h1
          refine ⟨f1 + 1, Es, ?_, h5⟩
          rw [rx_ex2, hg]
          dsimp only
          rw [hzs1]
          exact h4
      · cases h
      · rename_i j' M' g hg
        cases d with
        | zero => cases h
        | succ d' =>
          dsimp only at h
          split at h
          · cases h
          · rename_i as t hast
            split at h
            · cases h
            · rename_i Es' hEs'
              have h1 : ∀ E ∈ Es', rx_ru ct (d' + 1) j P (rx_back M' (I, F, ht, c, s, pc, lv, st) t E) := fun E hE => by
                obtain ⟨xs, h2, h3⟩ := rx_bind_mem h hE
                exact ih (d' + 1) j _ xs h2 fun w hw => hz w (h3 w hw)
              obtain ⟨f1, Es, h4, h5⟩ := rx_ru_bindE Es' h1
              refine ⟨max f f1 + 1, Es, ?_, h5⟩
              rw [rx_ex2, hg]
              dsimp only
              rw [hast]
              dsimp only
              rw [rx_ex2_mono f _ (Nat.le_max_left f f1) hEs']
              exact rx_bind_hom (fun a Es'' h => rx_ex2_mono f1 _ (Nat.le_max_right f f1) h) h4
end
section
/-! A REFLECTED MACHINE: what a place does, a kind each -/
/-- quicker ways to the same -/
noncomputable def rx_g {α : Type} (l : List α) : Nat → Option α := List.rec (motive := fun _ => Nat → Option α) (fun _ => none) (fun a _ ih n => Nat.rec (motive := fun _ => Option α) (some a) (fun m _ => ih m) n) l
theorem rx_g_eq {α : Type} : ∀ (l : List α) (k : Nat), rx_g l k = l[k]?
  | [], _ => rfl
  | _ :: _, 0 => rfl
  | _ :: l, k + 1 => rx_g_eq l k
noncomputable def rx_sk {α β : Type} (x : α) (l : List α) : Nat → (List α → β) → β := List.rec (motive := fun _ => Nat → (List α → β) → β) (fun _ K => K []) (fun a t ih n K => Nat.rec (motive := fun _ => β) (K (x :: t)) (fun m _ => ih m (fun t2 => K (a :: t2))) n) l
theorem rx_sk_eq {α β : Type} {x : α} : ∀ (l : List α) (k : Nat) (K : List α → β), rx_sk x l k K = K (l.set k x)
  | [], _, _ => rfl
  | _ :: _, 0, _ => rfl
  | a :: l, k + 1, K => rx_sk_eq l k (fun t => K (a :: t))
noncomputable def rx_pk {α β : Type} (x : α) (l : List α) : (List α → β) → β := List.rec (motive := fun _ => (List α → β) → β) (fun K => K [x]) (fun a _ ih K => ih (fun t => K (a :: t))) l
theorem rx_pk_eq {α β : Type} {x : α} : ∀ (l : List α) (K : List α → β), rx_pk x l K = K (l ++ [x])
  | [], _ => rfl
  | a :: l, K => rx_pk_eq l (fun t => K (a :: t))
noncomputable def rx_ln {α : Type} (l : List α) : Nat := List.rec (motive := fun _ => Nat) 0 (fun _ _ ih => Nat.succ ih) l
theorem rx_ln_eq {α : Type} : ∀ l : List α, rx_ln l = l.length
  | [] => rfl
  | _ :: l => congrArg Nat.succ (rx_ln_eq l)
noncomputable def rx_nk {β : Type} (n : Nat) (K : Nat → β) : β := Nat.rec (motive := fun _ => β) (K 0) (fun m _ => K (Nat.succ m)) n
theorem rx_nk_eq {β : Type} (n : Nat) (K : Nat → β) : rx_nk n K = K n := by
  cases n <;> rfl
noncomputable def rx_l {α : Type} (l : List (Nat × α)) (i : Nat) : Option α := List.rec (motive := fun _ => Option α) none (fun q _ ih => Bool.rec (motive := fun _ => Option α) ih (some q.2) (Nat.beq q.1 i)) l
theorem rx_l_eq {i : Nat} : ∀ l : List (Nat × rx_V), rx_l l i = rx_lk l i
  | [] => rfl
  | q :: l => by
    have ih := rx_l_eq (i := i) l
    show Bool.rec (motive := fun _ => Option rx_V) (rx_l l i) (some q.2) (Nat.beq q.1 i) = rx_lk (q :: l) i
    rw [rx_lk]
    by_cases h : q.1 = i
    · rw [if_pos h, Nat.beq_eq.mpr h]
    · rw [if_neg h, Bool.eq_false_iff.mpr fun h2 => h (Nat.beq_eq.mp h2)]
      exact ih
def rx_q_mc (mc ms : Nat) (z : rx_Z) : Bool := Nat.ble z.2.2.2.1 mc && Nat.ble z.2.2.2.2.1 ms
def rx_q_reti (mc ms : Nat) (z : rx_Z) : Option rx_End := rx_if (rx_q_mc mc ms z) (match rx_zst z with
  | [.inr (0, e)] => some (z.1, z.2.1, z.2.2.1, some (.inr (0, e)))
  | _ => none)
def rx_q_retz (mc ms : Nat) (z : rx_Z) : Option rx_End := rx_if (rx_q_mc mc ms z) (match rx_zst z with
  | [.inr (0, e)] => rx_if (rx_in01 z.1 e) (some (z.1, z.2.1, z.2.2.1, some (.inr (0, e))))
  | _ => none)
def rx_q_retl (mc ms : Nat) (z : rx_Z) : Option rx_End := rx_if (rx_q_mc mc ms z) (match rx_zst z with
  | [.inr (1, e)] => some (z.1, z.2.1, z.2.2.1, some (.inr (1, e)))
  | _ => none)
def rx_q_reta (mc ms : Nat) (z : rx_Z) : Option rx_End := rx_if (rx_q_mc mc ms z) (match rx_zst z with
  | [.inl o] => some (z.1, z.2.1, z.2.2.1, some (.inl o))
  | _ => none)
def rx_q_retv (mc ms : Nat) (z : rx_Z) : Option rx_End := rx_if (rx_q_mc mc ms z) (match rx_zst z with
  | [] => some (z.1, z.2.1, z.2.2.1, none)
  | _ => none)
def rx_q_scall (M M' : rx_Mt) (n : Nat) (z : rx_Z) : Option (List rx_V × List rx_V) := match rx_take n [] (rx_zst z) with
  | some (as, t) => rx_if (rx_may M M' z as t) (some (as, t))
  | none => none
def rx_q_if (cnd : Jvm.ClassFile.Cond) (tgt nx : Nat) (z : rx_Z) : Option (List rx_Z) := match rx_pi (rx_zst z) with
  | some (a, t) => if rx_okI z.1 a then some (rx_fork z cnd a (0, 0) tgt nx t) else none
  | none => none
def rx_q_icmp (cnd : Jvm.ClassFile.Cond) (tgt nx : Nat) (z : rx_Z) : Option (List rx_Z) := match rx_pi (rx_zst z) with
  | some (b, t) => match rx_pi t with
    | some (a, t) => if rx_okI z.1 a && rx_okI z.1 b then some (rx_fork z cnd a b tgt nx t) else none
    | none => none
  | none => none
def rx_q_lcmp (cnd : Jvm.ClassFile.Cond) (tgt nx : Nat) (z : rx_Z) : Option (List rx_Z) := match rx_pl (rx_zst z) with
  | some (b, t) => match rx_pl t with
    | some (a, t) => if rx_okL z.1 a && rx_okL z.1 b then some (rx_fork z cnd a b tgt nx t) else none
    | none => none
  | none => none
def rx_q_goto (tgt : Nat) (z : rx_Z) : Option (List rx_Z) := some [rx_jp z.1 z.2.1 z tgt (rx_zst z)]
noncomputable def rx_q_get (q : rx_Q) (z : rx_Z) : Option (List rx_Z) := match rx_pr (rx_zst z) with
  | some (some k, t) => match rx_g z.2.2.1 k with
    | some (.inl (ci, fs)) => match Nat.beq ci q.1 with
      | true => (match rx_g fs q.2.1 with
        | some (.inl v) => some [rx_nx z 3 (v :: t)]
        | _ => none)
      | false => none
    | _ => none
  | _ => none
theorem rx_beqd {α : Type} {a b : Nat} {x y : α} : (match Nat.beq a b with
    | true => x
    | false => y) = if a = b then x else y := by
  by_cases h : a = b
  · rw [if_pos h, Nat.beq_eq.mpr h]
  · rw [if_neg h, Bool.eq_false_iff.mpr fun h2 => h (Nat.beq_eq.mp h2)]
theorem rx_q_get_eq {fr : Nat → Option rx_Q} {idx : Nat} {q : rx_Q} (hq : fr idx = some q) (z : rx_Z) : rx_q_get q z = rx_h_get fr idx z := by
  unfold rx_q_get rx_h_get
  rw [hq]
  rcases rx_pr (rx_zst z) with _ | ⟨_ | k, t⟩
  · rfl
  · rfl
  · dsimp only
    rw [rx_g_eq]
    rcases (z.2.2.1)[k]? with _ | ⟨ci, fs⟩ | c
    · rfl
    · dsimp only
      rw [rx_beqd, rx_g_eq]
      rfl
    · rfl
noncomputable def rx_q_put (q : rx_Q) (ini : Bool) (z : rx_Z) : Option (List rx_Z) := match rx_pv (rx_zst z) with
  | some (v, t) => match rx_pr t with
    | some (some k, t2) => match rx_g z.2.2.1 k with
      | some (.inl (ci, fs)) => rx_if (Nat.beq ci q.1 && ((rx_g fs q.2.1).isSome && (rx_fit z.1 q.2.2.1 v && (!q.2.2.2.1 || (ini && !q.2.2.2.2))))) (rx_sk (.inl v) fs q.2.1 (fun fs2 => rx_sk (.inl (ci, fs2)) z.2.2.1 k (fun ht2 => some [rx_nxh ht2 z 3 t2])))
      | _ => none
    | _ => none
  | _ => none
theorem rx_q_put_eq {fr : Nat → Option rx_Q} {ini : Bool} {idx : Nat} {q : rx_Q} (hq : fr idx = some q) (z : rx_Z) : rx_q_put q ini z = rx_h_put fr ini idx z := by
  unfold rx_q_put rx_h_put
  rw [hq]
  rcases rx_pv (rx_zst z) with _ | ⟨v, t⟩
  · rfl
  · dsimp only
    rcases rx_pr t with _ | ⟨_ | k, t2⟩
    · rfl
    · rfl
    · dsimp only
      rw [rx_g_eq]
      rcases (z.2.2.1)[k]? with _ | ⟨ci, fs⟩ | c
      · rfl
      · dsimp only
        rw [rx_sk_eq, rx_sk_eq, rx_g_eq]
        have e : (Nat.beq ci q.1 && ((fs[q.2.1]?).isSome && (rx_fit z.1 q.2.2.1 v && (!q.2.2.2.1 || (ini && !q.2.2.2.2))))) = decide (ci = q.1 ∧ q.2.1 < fs.length ∧ rx_fit z.1 q.2.2.1 v = true ∧ (q.2.2.2.1 = false ∨ (ini = true ∧ q.2.2.2.2 = false))) := by
          rw [Bool.eq_iff_iff]
          simp
        rw [e]
        by_cases h : ci = q.1 ∧ q.2.1 < fs.length ∧ rx_fit z.1 q.2.2.1 v = true ∧ (q.2.2.2.1 = false ∨ (ini = true ∧ q.2.2.2.2 = false))
        · rw [if_pos h, decide_eq_true h]
          rfl
        · rw [if_neg h, decide_eq_false h]
          rfl
      · rfl
noncomputable def rx_q_ald (okc : Nat → Bool) (z : rx_Z) : Option (List rx_Z) := match rx_pi (rx_zst z) with
  | some (ix, t) => match rx_pr t with
    | some (some k, t2) => match rx_g z.2.2.1 k with
      | some (.inr (tc, n, df, ov)) => if okc tc then (match rx_bi z.1 ix with
        | some (lo, hi) => if 0 ≤ lo ∧ hi < (n : Int) then
            (if lo = hi then rx_pushX z (rx_gt ov df lo.toNat) t2
             else if ov.all (fun q => decide ((q.1 : Int) < lo) || decide (hi < (q.1 : Int))) then rx_pushX z df t2
             else rx_each z (rx_nm z.1 ix) df ov t2 (hi - lo + 1).toNat lo)
          else none
        | none => none) else none
      | _ => none
    | _ => none
  | none => none
theorem rx_q_ald_eq (okc : Nat → Bool) (z : rx_Z) : rx_q_ald okc z = rx_h_ald okc z := by
  unfold rx_q_ald rx_h_ald
  simp only [rx_g_eq]
  rfl
noncomputable def rx_q_ast (okc : Nat → Bool) (okv : rx_I → List rx_C → Nat → rx_V → Bool) (z : rx_Z) : Option (List rx_Z) := match rx_pv (rx_zst z) with
  | some (v, t0) => match rx_pi t0 with
    | some (ix, t) => match rx_pr t with
      | some (some k, t2) => match rx_g z.2.2.1 k with
        | some (.inr (tc, n, df, ov)) => if okc tc && okv z.1 z.2.2.1 tc v then (match rx_bi z.1 ix with
          | some (lo, hi) => if 0 ≤ lo ∧ hi < (n : Int) ∧ lo = hi then rx_sk (.inr (tc, n, df, rx_ovset ov df lo.toNat v)) z.2.2.1 k (fun ht2 => some [rx_nxh ht2 z 1 t2]) else none
          | none => none) else none
        | _ => none
      | _ => none
    | none => none
  | none => none
theorem rx_q_ast_eq (okc : Nat → Bool) (okv : rx_I → List rx_C → Nat → rx_V → Bool) (z : rx_Z) : rx_q_ast okc okv z = rx_h_ast okc okv z := by
  unfold rx_q_ast rx_h_ast
  simp only [rx_g_eq, rx_sk_eq]
  rfl
noncomputable def rx_q_nxa (x : rx_C) (n : Nat) (z : rx_Z) (d : Nat) (t : List rx_V) : Option (List rx_Z) := match z with
  | (I0, F1, ht0, c0, s0, pc0, lv0, _) => rx_pk x ht0 (fun ht1 => rx_nk (rx_ln ht0) (fun k => some [(I0, F1, ht1, c0 + 1, s0 + n, pc0 + d, lv0, .inl (some k) :: t)]))
theorem rx_q_nxa_eq (x : rx_C) (n : Nat) (z : rx_Z) (d : Nat) (t : List rx_V) : rx_q_nxa x n z d t = some [rx_nxa x n z d t] := by
  obtain ⟨I0, F1, ht0, c0, s0, pc0, lv0, st⟩ := z
  unfold rx_q_nxa
  dsimp only
  rw [rx_pk_eq, rx_nk_eq, rx_ln_eq]
  rfl
noncomputable def rx_q_new (q : Nat × List Nat) (mc ms : Nat) (z : rx_Z) : Option (List rx_Z) :=
  if z.2.2.2.1 + 1 ≤ mc ∧ z.2.2.2.2.1 + q.2.length ≤ ms then rx_q_nxa (.inl (q.1, q.2.map (fun tc => .inl (rx_dv tc)))) q.2.length z 3 (rx_zst z) else none
theorem rx_q_new_eq {cr : Nat → Option (Nat × List Nat)} {mc ms idx : Nat} {q : Nat × List Nat} (hq : cr idx = some q) (z : rx_Z) : rx_q_new q mc ms z = rx_h_new cr mc ms idx z := by
  unfold rx_q_new rx_h_new
  rw [hq, rx_q_nxa_eq]
noncomputable def rx_q_newa (mc ms tc : Nat) (z : rx_Z) : Option (List rx_Z) := match rx_pi (rx_zst z) with
  | some (e, t) => match rx_len z.1 e with
    | some n => if z.2.2.2.1 + 1 ≤ mc ∧ z.2.2.2.2.1 + n ≤ ms then rx_q_nxa (.inr (tc, n, .inl (rx_dv tc), [])) n z 2 t else none
    | none => none
  | none => none
theorem rx_q_newa_eq {mc ms tc : Nat} {a : ArrayType} (ha : rx_atc a = some tc) (z : rx_Z) : rx_q_newa mc ms tc z = rx_h_newa mc ms a z := by
  unfold rx_q_newa rx_h_newa
  rw [ha]
  simp only [rx_q_nxa_eq]
  rcases rx_pi (rx_zst z) with _ | ⟨e, t⟩ <;> rfl
noncomputable def rx_q_newq (ci mc ms : Nat) (z : rx_Z) : Option (List rx_Z) := match rx_pi (rx_zst z) with
  | some (e, t) => match rx_len z.1 e with
    | some n => if z.2.2.2.1 + 1 ≤ mc ∧ z.2.2.2.2.1 + n ≤ ms then rx_q_nxa (.inr (ci + 5, n, .inl (.inl none), [])) n z 3 t else none
    | none => none
  | none => none
theorem rx_q_newq_eq {ar : Nat → Option Nat} {mc ms idx ci : Nat} (ha : ar idx = some ci) (z : rx_Z) : rx_q_newq ci mc ms z = rx_h_newq ar mc ms idx z := by
  unfold rx_q_newq rx_h_newq
  rw [ha]
  simp only [rx_q_nxa_eq]
  rcases rx_pi (rx_zst z) with _ | ⟨e, t⟩ <;> rfl
noncomputable def rx_q_load (kd i d : Nat) (z : rx_Z) : Option (List rx_Z) := match rx_l (rx_zlv z) i with
  | some (.inr (j, e)) => match Nat.beq j kd with
    | true => some [rx_nx z d (.inr (j, e) :: rx_zst z)]
    | false => none
  | _ => none
theorem rx_q_load_eq (kd i d : Nat) (z : rx_Z) : rx_q_load kd i d z = rx_h_load kd i d z := by
  unfold rx_q_load rx_h_load
  simp only [rx_l_eq, rx_beqd]
  rfl
noncomputable def rx_q_loadA (i d : Nat) (z : rx_Z) : Option (List rx_Z) := match rx_l (rx_zlv z) i with
  | some (.inl o) => some [rx_nx z d (.inl o :: rx_zst z)]
  | some (.inr (j + 2, e)) => some [rx_nx z d (.inr (j + 2, e) :: rx_zst z)]
  | _ => none
theorem rx_q_loadA_eq (i d : Nat) (z : rx_Z) : rx_q_loadA i d z = rx_h_loadA i d z := by
  unfold rx_q_loadA rx_h_loadA
  simp only [rx_l_eq]
  rfl
noncomputable def rx_q_alen (z : rx_Z) : Option (List rx_Z) := match rx_pv (rx_zst z) with
  | some (.inl (some k), t) => match rx_g z.2.2.1 k with
    | some (.inr (_, n, _, _)) => some [rx_nx z 1 (rx_n (n : Int) :: t)]
    | _ => none
  | _ => none
theorem rx_q_alen_eq (z : rx_Z) : ∀ zs, rx_q_alen z = some zs → rx_if (rx_topc z) (rx_h_alen z) = some zs := by
  intro zs h
  unfold rx_q_alen at h
  unfold rx_topc rx_h_alen
  split at h
  · rename_i k t e
    rw [e]
    dsimp only
    rw [← rx_g_eq]
    exact h
  · cases h
noncomputable def rx_q_rcv (ht : List rx_C) (ci : Nat) (t : List rx_V) : Option (Nat × List rx_V) := match rx_pr t with
  | some (some k, t2) => match rx_g ht k with
    | some (.inl (ci', _)) => rx_if (ci' == ci) (some (k, t2))
    | _ => none
  | _ => none
theorem rx_q_rcv_eq (ht : List rx_C) (ci : Nat) (t : List rx_V) : rx_q_rcv ht ci t = rx_rcv ht ci t := by
  unfold rx_q_rcv rx_rcv
  simp only [rx_g_eq]
  rfl
noncomputable def rx_q_vcall (M M' : rx_Mt) (n ci : Nat) (z : rx_Z) : Option (List rx_V × List rx_V) := match rx_take n [] (rx_zst z) with
  | some (as, t) => match rx_q_rcv z.2.2.1 ci t with
    | some (k, t2) => rx_if (rx_may M M' z (.inl (some k) :: as) t2) (some (.inl (some k) :: as, t2))
    | none => none
  | none => none
noncomputable def rx_q_fill (d : Nat) (z : rx_Z) : Option (List rx_Z) := match rx_pi (rx_zst z) with
  | some (v, t) => match rx_pr t with
    | some (some k, t2) => match rx_g z.2.2.1 k with
      | some (.inr (tc, n, _, _)) => rx_if (tc == 0 && (decide (1 ≤ d) && (decide (rx_cats t2 ≤ 8) && decide (n < 2000000000)))) (rx_sk (.inr (0, n, .inl (.inr (0, v)), [])) z.2.2.1 k (fun h => some [rx_nxh h z 3 t2]))
      | _ => none
    | _ => none
  | none => none
theorem rx_q_fill_eq (d : Nat) (z : rx_Z) : rx_q_fill d z = rx_x_fill d z := by
  unfold rx_q_fill rx_x_fill
  simp only [rx_g_eq, rx_sk_eq]
  rfl
noncomputable def rx_q_copy (d : Nat) (z : rx_Z) : Option (List rx_Z) := match rx_pi (rx_zst z) with
  | some (n, t) => match rx_pi t with
    | some (dp, t) => match rx_pr t with
      | some (some k1, t) => match rx_pi t with
        | some (sp, t) => match rx_pr t with
          | some (some k0, t) => match rx_g z.2.2.1 k0, rx_g z.2.2.1 k1 with
            | some (.inr (tc0, n0, df, ov)), some (.inr (tc1, n1, _, _)) => rx_if (tc0 == 0 && (tc1 == 0 && (n0 == n1 && (rx_pt z n == some (n0 : Int) && (rx_pt z dp == some 0 && (rx_pt z sp == some 0 && (decide (1 ≤ d) && (decide (rx_cats t ≤ 8) && decide (n0 < 2000000000))))))))) (rx_sk (.inr (0, n0, df, ov)) z.2.2.1 k1 (fun h => some [rx_nxh h z 3 t]))
            | _, _ => none
          | _ => none
        | none => none
      | _ => none
    | none => none
  | none => none
theorem rx_q_copy_eq (d : Nat) (z : rx_Z) : rx_q_copy d z = rx_x_copy d z := by
  unfold rx_q_copy rx_x_copy
  simp only [rx_g_eq, rx_sk_eq]
  rfl
theorem rx_ifN {α : Type} (b : Bool) : rx_if b (none : Option α) = none := by
  cases b <;> rfl
theorem rx_q_may {M : rx_Mt} {mc ms : Nat} {z : rx_Z} {α : Type} {x : Option α} (h1 : M.2.2.2.2.2.2.1 = mc) (h2 : M.2.2.2.2.2.2.2 = ms) : rx_if (1 == 1 && (decide (z.2.2.2.1 ≤ M.2.2.2.2.2.2.1) && decide (z.2.2.2.2.1 ≤ M.2.2.2.2.2.2.2))) x = rx_if (rx_q_mc mc ms z) x := by
  subst h1; subst h2
  have e : ∀ a b : Nat, decide (a ≤ b) = Nat.ble a b := fun a b => by
    rw [Bool.eq_iff_iff, decide_eq_true_eq, Nat.ble_eq]
  unfold rx_q_mc
  rw [e, e]
  rfl
theorem rx_xm_eq {M : rx_Mt} {mc ms : Nat} {z : rx_Z} (h1 : M.2.2.2.2.2.2.1 = mc) (h2 : M.2.2.2.2.2.2.2 = ms) : rx_xm M z = rx_q_mc mc ms z := by
  subst h1; subst h2
  have e : ∀ a b : Nat, decide (a ≤ b) = Nat.ble a b := fun a b => by
    rw [Bool.eq_iff_iff, decide_eq_true_eq, Nat.ble_eq]
  unfold rx_q_mc rx_xm
  rw [e, e]
section RXK
variable {T : rx_Tb} {lw : Bool} {M : rx_Mt} {pc : Nat} {xt sl : Nat → Nat → Option Nat} {ln : List Nat} {im : rx_Im}
theorem rx_k_iconst {n m : Int} (hn : n = m) (hd : decode M.2.1 pc = .ok (.iconst n, 1)) : rx_entOK (rx_xh xt sl ln im) T lw M pc (.inl (fun _ => rx_h_push (rx_n m) 1)) := by
  subst hn
  exact ⟨_, _, hd, fun _ _ _ _ _ _ _ _ => ⟨rx_ifN _, fun _ h => h⟩⟩
theorem rx_k_bipush {n m : Int} (hn : (Int8.ofInt n).toInt32.toInt = m) (hd : decode M.2.1 pc = .ok (.bipush n, 2)) : rx_entOK (rx_xh xt sl ln im) T lw M pc (.inl (fun _ => rx_h_push (rx_n m) 2)) := by
  subst hn
  exact ⟨_, _, hd, fun _ _ _ _ _ _ _ _ => ⟨rx_ifN _, fun _ h => h⟩⟩
theorem rx_k_lconst {n : Fin 2} {m : Int} (hn : ((n : Nat) : Int) = m) (hd : decode M.2.1 pc = .ok (.lconst n, 1)) : rx_entOK (rx_xh xt sl ln im) T lw M pc (.inl (fun _ => rx_h_push (.inr (1, (0, m))) 1)) := by
  subst hn
  exact ⟨_, _, hd, fun _ _ _ _ _ _ _ _ => ⟨rx_ifN _, fun _ h => h⟩⟩
theorem rx_k_null (hd : decode M.2.1 pc = .ok (.aconst_null, 1)) : rx_entOK (rx_xh xt sl ln im) T lw M pc (.inl (fun _ => rx_h_push (.inl none) 1)) := ⟨_, _, hd, fun _ _ _ _ _ _ _ _ => ⟨rx_ifN _, fun _ h => h⟩⟩
theorem rx_k_iload_n {k : Fin 4} {i : Nat} (hk : (k : Nat) = i) (hd : decode M.2.1 pc = .ok (.iload_n k, 1)) : rx_entOK (rx_xh xt sl ln im) T lw M pc (.inl (fun _ => rx_q_load 0 i 1)) := by
  subst hk
  refine ⟨_, _, hd, fun d I F ht c s lv st => ⟨rx_ifN _, fun zs h => ?_⟩⟩
  try dsimp only at h
  rw [rx_q_load_eq] at h
  exact h
theorem rx_k_iload {i : Nat} (hd : decode M.2.1 pc = .ok (.iload i, 2)) : rx_entOK (rx_xh xt sl ln im) T lw M pc (.inl (fun _ => rx_q_load 0 i 2)) := by
  refine ⟨_, _, hd, fun d I F ht c s lv st => ⟨rx_ifN _, fun zs h => ?_⟩⟩
  try dsimp only at h
  rw [rx_q_load_eq] at h
  exact h
theorem rx_k_lload_n {k : Fin 4} {i : Nat} (hk : (k : Nat) = i) (hd : decode M.2.1 pc = .ok (.lload_n k, 1)) : rx_entOK (rx_xh xt sl ln im) T lw M pc (.inl (fun _ => rx_q_load 1 i 1)) := by
  subst hk
  refine ⟨_, _, hd, fun d I F ht c s lv st => ⟨rx_ifN _, fun zs h => ?_⟩⟩
  try dsimp only at h
  rw [rx_q_load_eq] at h
  exact h
theorem rx_k_lload {i : Nat} (hd : decode M.2.1 pc = .ok (.lload i, 2)) : rx_entOK (rx_xh xt sl ln im) T lw M pc (.inl (fun _ => rx_q_load 1 i 2)) := by
  refine ⟨_, _, hd, fun d I F ht c s lv st => ⟨rx_ifN _, fun zs h => ?_⟩⟩
  try dsimp only at h
  rw [rx_q_load_eq] at h
  exact h
theorem rx_k_aload_n {k : Fin 4} {i : Nat} (hk : (k : Nat) = i) (hd : decode M.2.1 pc = .ok (.aload_n k, 1)) : rx_entOK (rx_xh xt sl ln im) T lw M pc (.inl (fun _ => rx_q_loadA i 1)) := by
  subst hk
  refine ⟨_, _, hd, fun d I F ht c s lv st => ⟨rx_ifN _, fun zs h => ?_⟩⟩
  try dsimp only at h
  rw [rx_q_loadA_eq] at h
  exact h
theorem rx_k_aload {i : Nat} (hd : decode M.2.1 pc = .ok (.aload i, 2)) : rx_entOK (rx_xh xt sl ln im) T lw M pc (.inl (fun _ => rx_q_loadA i 2)) := by
  refine ⟨_, _, hd, fun d I F ht c s lv st => ⟨rx_ifN _, fun zs h => ?_⟩⟩
  try dsimp only at h
  rw [rx_q_loadA_eq] at h
  exact h
theorem rx_k_istore_n {k : Fin 4} {i nL : Nat} (hk : (k : Nat) = i) (hL : M.2.2.1 = nL) (hd : decode M.2.1 pc = .ok (.istore_n k, 1)) : rx_entOK (rx_xh xt sl ln im) T lw M pc (.inl (fun _ => rx_h_istore nL i 1)) := by
  subst hk; subst hL
  exact ⟨_, _, hd, fun _ _ _ _ _ _ _ _ => ⟨rx_ifN _, fun _ h => h⟩⟩
theorem rx_k_istore {i nL : Nat} (hL : M.2.2.1 = nL) (hd : decode M.2.1 pc = .ok (.istore i, 2)) : rx_entOK (rx_xh xt sl ln im) T lw M pc (.inl (fun _ => rx_h_istore nL i 2)) := by
  subst hL
  exact ⟨_, _, hd, fun _ _ _ _ _ _ _ _ => ⟨rx_ifN _, fun _ h => h⟩⟩
theorem rx_k_lstore_n {k : Fin 4} {i nL : Nat} (hk : (k : Nat) = i) (hL : M.2.2.1 = nL) (hd : decode M.2.1 pc = .ok (.lstore_n k, 1)) : rx_entOK (rx_xh xt sl ln im) T lw M pc (.inl (fun _ => rx_h_lstore nL i 1)) := by
  subst hk; subst hL
  exact ⟨_, _, hd, fun _ _ _ _ _ _ _ _ => ⟨rx_ifN _, fun _ h => h⟩⟩
theorem rx_k_lstore {i nL : Nat} (hL : M.2.2.1 = nL) (hd : decode M.2.1 pc = .ok (.lstore i, 2)) : rx_entOK (rx_xh xt sl ln im) T lw M pc (.inl (fun _ => rx_h_lstore nL i 2)) := by
  subst hL
  exact ⟨_, _, hd, fun _ _ _ _ _ _ _ _ => ⟨rx_ifN _, fun _ h => h⟩⟩
theorem rx_k_astore_n {k : Fin 4} {i nL : Nat} (hk : (k : Nat) = i) (hL : M.2.2.1 = nL) (hd : decode M.2.1 pc = .ok (.astore_n k, 1)) : rx_entOK (rx_xh xt sl ln im) T lw M pc (.inl (fun _ => rx_h_astore nL i 1)) := by
  subst hk; subst hL
  exact ⟨_, _, hd, fun _ _ _ _ _ _ _ _ => ⟨rx_ifN _, fun _ h => h⟩⟩
theorem rx_k_astore {i nL : Nat} (hL : M.2.2.1 = nL) (hd : decode M.2.1 pc = .ok (.astore i, 2)) : rx_entOK (rx_xh xt sl ln im) T lw M pc (.inl (fun _ => rx_h_astore nL i 2)) := by
  subst hL
  exact ⟨_, _, hd, fun _ _ _ _ _ _ _ _ => ⟨rx_ifN _, fun _ h => h⟩⟩
theorem rx_k_iinc {i nL : Nat} {n m : Int} (hn : n = m) (hL : M.2.2.1 = nL) (hd : decode M.2.1 pc = .ok (.iinc i n, 3)) : rx_entOK (rx_xh xt sl ln im) T lw M pc (.inl (fun _ => rx_h_iinc nL i m)) := by
  subst hL; subst hn
  exact ⟨_, _, hd, fun _ _ _ _ _ _ _ _ => ⟨rx_ifN _, fun _ h => h⟩⟩
theorem rx_k_iadd (hd : decode M.2.1 pc = .ok (.iadd, 1)) : rx_entOK (rx_xh xt sl ln im) T lw M pc (.inl (fun _ => rx_h_bin 0)) := ⟨_, _, hd, fun _ _ _ _ _ _ _ _ => ⟨rx_ifN _, fun _ h => h⟩⟩
theorem rx_k_isub (hd : decode M.2.1 pc = .ok (.isub, 1)) : rx_entOK (rx_xh xt sl ln im) T lw M pc (.inl (fun _ => rx_h_bin 1)) := ⟨_, _, hd, fun _ _ _ _ _ _ _ _ => ⟨rx_ifN _, fun _ h => h⟩⟩
theorem rx_k_imul (hd : decode M.2.1 pc = .ok (.imul, 1)) : rx_entOK (rx_xh xt sl ln im) T lw M pc (.inl (fun _ => rx_h_bin 2)) := ⟨_, _, hd, fun _ _ _ _ _ _ _ _ => ⟨rx_ifN _, fun _ h => h⟩⟩
theorem rx_k_iand (hd : decode M.2.1 pc = .ok (.iand, 1)) : rx_entOK (rx_xh xt sl ln im) T lw M pc (.inl (fun _ => rx_h_bin 5)) := ⟨_, _, hd, fun _ _ _ _ _ _ _ _ => ⟨rx_ifN _, fun _ h => h⟩⟩
theorem rx_k_ior (hd : decode M.2.1 pc = .ok (.ior, 1)) : rx_entOK (rx_xh xt sl ln im) T lw M pc (.inl (fun _ => rx_h_bin 6)) := ⟨_, _, hd, fun _ _ _ _ _ _ _ _ => ⟨rx_ifN _, fun _ h => h⟩⟩
theorem rx_k_ixor (hd : decode M.2.1 pc = .ok (.ixor, 1)) : rx_entOK (rx_xh xt sl ln im) T lw M pc (.inl (fun _ => rx_h_bin 7)) := ⟨_, _, hd, fun _ _ _ _ _ _ _ _ => ⟨rx_ifN _, fun _ h => h⟩⟩
theorem rx_k_ishl (hd : decode M.2.1 pc = .ok (.ishl, 1)) : rx_entOK (rx_xh xt sl ln im) T lw M pc (.inl (fun _ => rx_h_bin 8)) := ⟨_, _, hd, fun _ _ _ _ _ _ _ _ => ⟨rx_ifN _, fun _ h => h⟩⟩
theorem rx_k_ishr (hd : decode M.2.1 pc = .ok (.ishr, 1)) : rx_entOK (rx_xh xt sl ln im) T lw M pc (.inl (fun _ => rx_h_bin 9)) := ⟨_, _, hd, fun _ _ _ _ _ _ _ _ => ⟨rx_ifN _, fun _ h => h⟩⟩
theorem rx_k_iushr (hd : decode M.2.1 pc = .ok (.iushr, 1)) : rx_entOK (rx_xh xt sl ln im) T lw M pc (.inl (fun _ => rx_h_bin 10)) := ⟨_, _, hd, fun _ _ _ _ _ _ _ _ => ⟨rx_ifN _, fun _ h => h⟩⟩
theorem rx_k_idiv (hd : decode M.2.1 pc = .ok (.idiv, 1)) : rx_entOK (rx_xh xt sl ln im) T lw M pc (.inl (fun _ => rx_h_div 3)) := ⟨_, _, hd, fun _ _ _ _ _ _ _ _ => ⟨rx_ifN _, fun _ h => h⟩⟩
theorem rx_k_irem (hd : decode M.2.1 pc = .ok (.irem, 1)) : rx_entOK (rx_xh xt sl ln im) T lw M pc (.inl (fun _ => rx_h_div 4)) := ⟨_, _, hd, fun _ _ _ _ _ _ _ _ => ⟨rx_ifN _, fun _ h => h⟩⟩
theorem rx_k_ineg (hd : decode M.2.1 pc = .ok (.ineg, 1)) : rx_entOK (rx_xh xt sl ln im) T lw M pc (.inl (fun _ => rx_h_ineg)) := ⟨_, _, hd, fun _ _ _ _ _ _ _ _ => ⟨rx_ifN _, fun _ h => h⟩⟩
theorem rx_k_ladd (hd : decode M.2.1 pc = .ok (.ladd, 1)) : rx_entOK (rx_xh xt sl ln im) T lw M pc (.inl (fun _ => rx_h_binL 0)) := ⟨_, _, hd, fun _ _ _ _ _ _ _ _ => ⟨rx_ifN _, fun _ h => h⟩⟩
theorem rx_k_lsub (hd : decode M.2.1 pc = .ok (.lsub, 1)) : rx_entOK (rx_xh xt sl ln im) T lw M pc (.inl (fun _ => rx_h_binL 1)) := ⟨_, _, hd, fun _ _ _ _ _ _ _ _ => ⟨rx_ifN _, fun _ h => h⟩⟩
theorem rx_k_lmul (hd : decode M.2.1 pc = .ok (.lmul, 1)) : rx_entOK (rx_xh xt sl ln im) T lw M pc (.inl (fun _ => rx_h_binL 2)) := ⟨_, _, hd, fun _ _ _ _ _ _ _ _ => ⟨rx_ifN _, fun _ h => h⟩⟩
theorem rx_k_ldiv (hd : decode M.2.1 pc = .ok (.ldiv, 1)) : rx_entOK (rx_xh xt sl ln im) T lw M pc (.inl (fun _ => rx_h_divL 3)) := ⟨_, _, hd, fun _ _ _ _ _ _ _ _ => ⟨rx_ifN _, fun _ h => h⟩⟩
theorem rx_k_lrem (hd : decode M.2.1 pc = .ok (.lrem, 1)) : rx_entOK (rx_xh xt sl ln im) T lw M pc (.inl (fun _ => rx_h_divL 4)) := ⟨_, _, hd, fun _ _ _ _ _ _ _ _ => ⟨rx_ifN _, fun _ h => h⟩⟩
theorem rx_k_i2l (hd : decode M.2.1 pc = .ok (.i2l, 1)) : rx_entOK (rx_xh xt sl ln im) T lw M pc (.inl (fun _ => rx_h_i2l)) := ⟨_, _, hd, fun _ _ _ _ _ _ _ _ => ⟨rx_ifN _, fun _ h => h⟩⟩
theorem rx_k_dup (hd : decode M.2.1 pc = .ok (.dup, 1)) : rx_entOK (rx_xh xt sl ln im) T lw M pc (.inl (fun _ => rx_h_dup)) := ⟨_, _, hd, fun _ _ _ _ _ _ _ _ => ⟨rx_ifN _, fun _ h => h⟩⟩
theorem rx_k_dup2 (hd : decode M.2.1 pc = .ok (.dup2, 1)) : rx_entOK (rx_xh xt sl ln im) T lw M pc (.inl (fun _ => rx_h_dup2)) := ⟨_, _, hd, fun _ _ _ _ _ _ _ _ => ⟨rx_ifN _, fun _ h => h⟩⟩
theorem rx_k_pop (hd : decode M.2.1 pc = .ok (.pop, 1)) : rx_entOK (rx_xh xt sl ln im) T lw M pc (.inl (fun _ => rx_h_pop)) := ⟨_, _, hd, fun _ _ _ _ _ _ _ _ => ⟨rx_ifN _, fun _ h => h⟩⟩
theorem rx_k_tableswitch {dflt lo hi : Int} {offs : Array Int} {len : Nat} (hd : decode M.2.1 pc = .ok (.tableswitch dflt lo hi offs, len)) : rx_entOK (rx_xh xt sl ln im) T lw M pc (.inl (fun _ => rx_h_table dflt lo hi offs)) := ⟨_, _, hd, fun _ _ _ _ _ _ _ _ => ⟨rx_ifN _, fun _ h => h⟩⟩
theorem rx_k_alenT (hw : lw = true) (hd : decode M.2.1 pc = .ok (.arraylength, 1)) : rx_entOK (rx_xh xt sl ln im) T lw M pc (.inl (fun _ => rx_h_alen)) := by
  subst hw
  exact ⟨_, _, hd, fun _ _ _ _ _ _ _ _ => ⟨rx_ifN _, fun _ h => h⟩⟩
theorem rx_k_alen (hw : lw = false) (hd : decode M.2.1 pc = .ok (.arraylength, 1)) : rx_entOK (rx_xh xt sl ln im) T lw M pc (.inl (fun _ => rx_q_alen)) := by
  subst hw
  exact ⟨_, _, hd, fun _ _ _ _ _ _ _ _ => ⟨rx_ifN _, fun zs h => rx_q_alen_eq _ zs h⟩⟩
noncomputable def rx_q_sld (z : rx_Z) : Option (List rx_Z) := rx_or (rx_q_ald (rx_isTc 0) z) (rx_h_sld z)
theorem rx_k_sld (hw : lw = true) (hd : decode M.2.1 pc = .ok (.iaload, 1)) : rx_entOK (rx_xh xt sl ln im) T lw M pc (.inl (fun _ => rx_q_sld)) := by
  subst hw
  refine ⟨_, _, hd, fun d I F ht c s lv st => ⟨rx_ifN _, fun zs h => ?_⟩⟩
  dsimp only at h
  unfold rx_q_sld at h
  rw [rx_q_ald_eq] at h
  exact h
theorem rx_k_iaload (hd : decode M.2.1 pc = .ok (.iaload, 1)) : rx_entOK (rx_xh xt sl ln im) T lw M pc (.inl (fun _ => rx_q_ald (rx_isTc 0))) := by
  refine ⟨_, _, hd, fun d I F ht c s lv st => ⟨rx_ifN _, fun zs h => ?_⟩⟩
  show rx_or (rx_h_ald (rx_isTc 0) (I, F, ht, c, s, pc, lv, st)) _ = some zs
  dsimp only at h
  rw [rx_q_ald_eq] at h
  rw [h]
  rfl
theorem rx_k_baload (hd : decode M.2.1 pc = .ok (.baload, 1)) : rx_entOK (rx_xh xt sl ln im) T lw M pc (.inl (fun _ => rx_q_ald (rx_isTc 1))) := by
  refine ⟨_, _, hd, fun d I F ht c s lv st => ⟨rx_ifN _, fun zs h => ?_⟩⟩
  try dsimp only at h
  rw [rx_q_ald_eq] at h
  exact h
theorem rx_k_laload (hd : decode M.2.1 pc = .ok (.laload, 1)) : rx_entOK (rx_xh xt sl ln im) T lw M pc (.inl (fun _ => rx_q_ald (rx_isTc 2))) := by
  refine ⟨_, _, hd, fun d I F ht c s lv st => ⟨rx_ifN _, fun zs h => ?_⟩⟩
  try dsimp only at h
  rw [rx_q_ald_eq] at h
  exact h
theorem rx_k_aaload (hd : decode M.2.1 pc = .ok (.aaload, 1)) : rx_entOK (rx_xh xt sl ln im) T lw M pc (.inl (fun _ => rx_q_ald rx_isRef)) := by
  refine ⟨_, _, hd, fun d I F ht c s lv st => ⟨rx_ifN _, fun zs h => ?_⟩⟩
  try dsimp only at h
  rw [rx_q_ald_eq] at h
  exact h
theorem rx_k_iastore (hd : decode M.2.1 pc = .ok (.iastore, 1)) : rx_entOK (rx_xh xt sl ln im) T lw M pc (.inl (fun _ => rx_q_ast (rx_isTc 0) (fun I _ _ v => rx_fit I 0 v))) := by
  refine ⟨_, _, hd, fun d I F ht c s lv st => ⟨rx_ifN _, fun zs h => ?_⟩⟩
  try dsimp only at h
  rw [rx_q_ast_eq] at h
  exact h
theorem rx_k_bastore (hd : decode M.2.1 pc = .ok (.bastore, 1)) : rx_entOK (rx_xh xt sl ln im) T lw M pc (.inl (fun _ => rx_q_ast (rx_isTc 1) (fun I _ _ v => rx_fit I 1 v))) := by
  refine ⟨_, _, hd, fun d I F ht c s lv st => ⟨rx_ifN _, fun zs h => ?_⟩⟩
  try dsimp only at h
  rw [rx_q_ast_eq] at h
  exact h
theorem rx_k_lastore (hd : decode M.2.1 pc = .ok (.lastore, 1)) : rx_entOK (rx_xh xt sl ln im) T lw M pc (.inl (fun _ => rx_q_ast (rx_isTc 2) (fun I _ _ v => rx_fit I 2 v))) := by
  refine ⟨_, _, hd, fun d I F ht c s lv st => ⟨rx_ifN _, fun zs h => ?_⟩⟩
  try dsimp only at h
  rw [rx_q_ast_eq] at h
  exact h
theorem rx_k_aastore (hd : decode M.2.1 pc = .ok (.aastore, 1)) : rx_entOK (rx_xh xt sl ln im) T lw M pc (.inl (fun _ => rx_q_ast rx_isRef rx_fitA)) := by
  refine ⟨_, _, hd, fun d I F ht c s lv st => ⟨rx_ifN _, fun zs h => ?_⟩⟩
  try dsimp only at h
  rw [rx_q_ast_eq] at h
  exact h
theorem rx_k_newarray {a : ArrayType} {mc ms tc : Nat} (ha : rx_atc a = some tc) (h1 : M.2.2.2.2.2.2.1 = mc) (h2 : M.2.2.2.2.2.2.2 = ms) (hd : decode M.2.1 pc = .ok (.newarray a, 2)) : rx_entOK (rx_xh xt sl ln im) T lw M pc (.inl (fun _ => rx_q_newa mc ms tc)) := by
  subst h1; subst h2
  refine ⟨_, _, hd, fun d I F ht c s lv st => ⟨rx_ifN _, fun zs h => ?_⟩⟩
  dsimp only at h
  rw [rx_q_newa_eq ha] at h
  exact h
theorem rx_k_ldc {idx : Nat} {v : Int} (hv : T.2.2.2.1 M.1 idx = some (.inr (0, (0, v)))) (hs : sl M.1 idx = none) (hd : decode M.2.1 pc = .ok (.ldc idx, 2)) : rx_entOK (rx_xh xt sl ln im) T lw M pc (.inl (fun _ => rx_h_push (rx_n v) 2)) := by
  refine ⟨_, _, hd, fun d I F ht c s lv st => ⟨rx_ifN _, fun zs h => ?_⟩⟩
  show rx_or (rx_x_str sl M.1 idx _) (rx_h_const T.2.2.2.1 M.1 idx 0 2 _) = some zs
  unfold rx_x_str rx_h_const
  rw [hv, hs]
  exact h
theorem rx_k_ldcw {idx : Nat} {v : Int} (hv : T.2.2.2.1 M.1 idx = some (.inr (0, (0, v)))) (hd : decode M.2.1 pc = .ok (.ldc_w idx, 3)) : rx_entOK (rx_xh xt sl ln im) T lw M pc (.inl (fun _ => rx_h_push (rx_n v) 3)) := by
  refine ⟨_, _, hd, fun d I F ht c s lv st => ⟨rx_ifN _, fun zs h => ?_⟩⟩
  show rx_h_const T.2.2.2.1 M.1 idx 0 3 _ = some zs
  unfold rx_h_const
  rw [hv]
  exact h
theorem rx_k_ldc2 {idx : Nat} {v : Int} (hv : T.2.2.2.1 M.1 idx = some (.inr (1, (0, v)))) (hd : decode M.2.1 pc = .ok (.ldc2_w idx, 3)) : rx_entOK (rx_xh xt sl ln im) T lw M pc (.inl (fun _ => rx_h_push (.inr (1, (0, v))) 3)) := by
  refine ⟨_, _, hd, fun d I F ht c s lv st => ⟨rx_ifN _, fun zs h => ?_⟩⟩
  show rx_h_const T.2.2.2.1 M.1 idx 1 3 _ = some zs
  unfold rx_h_const
  rw [hv]
  exact h
theorem rx_k_ldcS {idx n : Nat} (hs : sl M.1 idx = some n) (hd : decode M.2.1 pc = .ok (.ldc idx, 2)) : rx_entOK (rx_xh xt sl ln im) T lw M pc (.inl (fun _ => rx_h_push (.inr (2, (0, (n : Int)))) 2)) := by
  refine ⟨_, _, hd, fun d I F ht c s lv st => ⟨rx_ifN _, fun zs h => ?_⟩⟩
  show rx_or (rx_x_str sl M.1 idx _) _ = some zs
  unfold rx_x_str
  rw [hs]
  exact h
theorem rx_k_sipush {n m : Int} (hn : (Int16.ofInt n).toInt32.toInt = m) (hi : im M n pc = false) (hd : decode M.2.1 pc = .ok (.sipush n, 3)) : rx_entOK (rx_xh xt sl ln im) T lw M pc (.inl (fun _ => rx_h_push (rx_n m) 3)) := by
  subst hn
  refine ⟨_, _, hd, fun d I F ht c s lv st => ⟨rx_ifN _, fun zs h => ?_⟩⟩
  show rx_or (rx_if (im M n pc) (rx_x_image _)) _ = some zs
  rw [hi]
  exact h
theorem rx_k_image {n : Int} (hi : im M n pc = true) (hd : decode M.2.1 pc = .ok (.sipush n, 3)) : rx_entOK (rx_xh xt sl ln im) T lw M pc (.inl (fun _ => rx_x_image)) := by
  refine ⟨_, _, hd, fun d I F ht c s lv st => ⟨rx_ifN _, fun zs h => ?_⟩⟩
  show rx_or (rx_if (im M n pc) (rx_x_image _)) _ = some zs
  rw [hi]
  show rx_or (rx_x_image (I, F, ht, c, s, pc, lv, st)) _ = some zs
  try dsimp only at h
  rw [h]
  rfl
theorem rx_k_init {idx : Nat} (hx : xt M.1 idx = some 10) (hd : decode M.2.1 pc = .ok (.invokespecial idx, 3)) : rx_entOK (rx_xh xt sl ln im) T lw M pc (.inl rx_x_init) := by
  refine ⟨_, _, hd, fun d I F ht c s lv st => ⟨rx_ifN _, fun zs h => ?_⟩⟩
  show rx_or (rx_if (3 == 3 && xt M.1 idx == some 10) (rx_x_init d _)) _ = some zs
  rw [hx]
  show rx_or (rx_x_init d (I, F, ht, c, s, pc, lv, st)) _ = some zs
  rw [h]
  rfl
theorem rx_k_slen {idx mc ms : Nat} (h1 : M.2.2.2.2.2.2.1 = mc) (h2 : M.2.2.2.2.2.2.2 = ms) (hx : xt M.1 idx = some 14) (hd : decode M.2.1 pc = .ok (.invokevirtual idx, 3)) : rx_entOK (rx_xh xt sl ln im) T lw M pc (.inl (fun d z => rx_if (rx_q_mc mc ms z) (rx_x_slen ln d z))) := by
  refine ⟨_, _, hd, fun d I F ht c s lv st => ⟨rx_ifN _, fun zs h => ?_⟩⟩
  show rx_or (rx_if (3 == 3 && xt M.1 idx == some 14) (rx_if (rx_xm M (I, F, ht, c, s, pc, lv, st)) (rx_x_slen ln d _))) _ = some zs
  rw [hx]
  show rx_or (rx_if (rx_xm M (I, F, ht, c, s, pc, lv, st)) (rx_x_slen ln d (I, F, ht, c, s, pc, lv, st))) _ = some zs
  dsimp only at h
  rw [← rx_xm_eq h1 h2] at h
  rw [h]
  rfl
theorem rx_k_copy {idx : Nat} (hx : xt M.1 idx = some 11) (hd : decode M.2.1 pc = .ok (.invokestatic idx, 3)) : rx_entOK (rx_xh xt sl ln im) T lw M pc (.inl rx_q_copy) := by
  refine ⟨_, _, hd, fun d I F ht c s lv st => ⟨rx_ifN _, fun zs h => ?_⟩⟩
  have e : rx_xh xt sl ln im d M (.invokestatic idx) 3 (I, F, ht, c, s, pc, lv, st) = rx_x_copy d (I, F, ht, c, s, pc, lv, st) := by
    show (match xt M.1 idx with
      | some 11 => rx_x_copy d (I, F, ht, c, s, pc, lv, st)
      | some 12 => rx_if (rx_xm M (I, F, ht, c, s, pc, lv, st)) (rx_x_fill d (I, F, ht, c, s, pc, lv, st))
      | some 13 => rx_if (rx_xm M (I, F, ht, c, s, pc, lv, st)) (rx_x_min d (I, F, ht, c, s, pc, lv, st))
      | _ => none) = _
    rw [hx]
    try rfl
  rw [rx_q_copy_eq] at h
  rw [e, h]
  rfl
theorem rx_k_fill {idx mc ms : Nat} (h1 : M.2.2.2.2.2.2.1 = mc) (h2 : M.2.2.2.2.2.2.2 = ms) (hx : xt M.1 idx = some 12) (hd : decode M.2.1 pc = .ok (.invokestatic idx, 3)) : rx_entOK (rx_xh xt sl ln im) T lw M pc (.inl (fun d z => rx_if (rx_q_mc mc ms z) (rx_q_fill d z))) := by
  refine ⟨_, _, hd, fun d I F ht c s lv st => ⟨rx_ifN _, fun zs h => ?_⟩⟩
  have e : rx_xh xt sl ln im d M (.invokestatic idx) 3 (I, F, ht, c, s, pc, lv, st) = rx_if (rx_xm M (I, F, ht, c, s, pc, lv, st)) (rx_x_fill d (I, F, ht, c, s, pc, lv, st)) := by
    show (match xt M.1 idx with
      | some 11 => rx_x_copy d (I, F, ht, c, s, pc, lv, st)
      | some 12 => rx_if (rx_xm M (I, F, ht, c, s, pc, lv, st)) (rx_x_fill d (I, F, ht, c, s, pc, lv, st))
      | some 13 => rx_if (rx_xm M (I, F, ht, c, s, pc, lv, st)) (rx_x_min d (I, F, ht, c, s, pc, lv, st))
      | _ => none) = _
    rw [hx]
    try rfl
  dsimp only at h
  rw [rx_q_fill_eq, ← rx_xm_eq h1 h2] at h
  rw [e, h]
  rfl
theorem rx_k_min {idx mc ms : Nat} (h1 : M.2.2.2.2.2.2.1 = mc) (h2 : M.2.2.2.2.2.2.2 = ms) (hx : xt M.1 idx = some 13) (hd : decode M.2.1 pc = .ok (.invokestatic idx, 3)) : rx_entOK (rx_xh xt sl ln im) T lw M pc (.inl (fun d z => rx_if (rx_q_mc mc ms z) (rx_x_min d z))) := by
  refine ⟨_, _, hd, fun d I F ht c s lv st => ⟨rx_ifN _, fun zs h => ?_⟩⟩
  have e : rx_xh xt sl ln im d M (.invokestatic idx) 3 (I, F, ht, c, s, pc, lv, st) = rx_if (rx_xm M (I, F, ht, c, s, pc, lv, st)) (rx_x_min d (I, F, ht, c, s, pc, lv, st)) := by
    show (match xt M.1 idx with
      | some 11 => rx_x_copy d (I, F, ht, c, s, pc, lv, st)
      | some 12 => rx_if (rx_xm M (I, F, ht, c, s, pc, lv, st)) (rx_x_fill d (I, F, ht, c, s, pc, lv, st))
      | some 13 => rx_if (rx_xm M (I, F, ht, c, s, pc, lv, st)) (rx_x_min d (I, F, ht, c, s, pc, lv, st))
      | _ => none) = _
    rw [hx]
    try rfl
  dsimp only at h
  rw [← rx_xm_eq h1 h2] at h
  rw [e, h]
  rfl
theorem rx_k_if {cnd : Jvm.ClassFile.Cond} {off : Int} {tgt nx : Nat} (ho : rx_off pc off = some tgt) (hn : pc + 3 = nx) (hd : decode M.2.1 pc = .ok (.ifCond cnd off, 3)) : rx_entOK (rx_xh xt sl ln im) T lw M pc (.inl (fun _ => rx_q_if cnd tgt nx)) := by
  subst hn
  refine ⟨_, _, hd, fun d I F ht c s lv st => ⟨rx_ifN _, fun zs h => ?_⟩⟩
  show rx_h_if cnd off (I, F, ht, c, s, pc, lv, st) = some zs
  have ho2 : rx_off (rx_zpc (I, F, ht, c, s, pc, lv, st)) off = some tgt := ho
  have h : rx_q_if cnd tgt (pc + 3) (I, F, ht, c, s, pc, lv, st) = some zs := h
  unfold rx_q_if at h
  unfold rx_h_if
  rw [ho2]
  split at h
  · rename_i e
    rw [e]
    exact h
  · cases h
theorem rx_k_icmp {cnd : Jvm.ClassFile.Cond} {off : Int} {tgt nx : Nat} (ho : rx_off pc off = some tgt) (hn : pc + 3 = nx) (hd : decode M.2.1 pc = .ok (.if_icmp cnd off, 3)) : rx_entOK (rx_xh xt sl ln im) T lw M pc (.inl (fun _ => rx_q_icmp cnd tgt nx)) := by
  subst hn
  refine ⟨_, _, hd, fun d I F ht c s lv st => ⟨rx_ifN _, fun zs h => ?_⟩⟩
  show rx_h_icmp cnd off (I, F, ht, c, s, pc, lv, st) = some zs
  have ho2 : rx_off (rx_zpc (I, F, ht, c, s, pc, lv, st)) off = some tgt := ho
  have h : rx_q_icmp cnd tgt (pc + 3) (I, F, ht, c, s, pc, lv, st) = some zs := h
  unfold rx_q_icmp at h
  unfold rx_h_icmp
  rw [ho2]
  split at h
  · rename_i e
    rw [e]
    exact h
  · cases h
theorem rx_k_lcmp {cnd : Jvm.ClassFile.Cond} {off : Int} {tgt nx : Nat} (ho : rx_off (pc + 1) off = some tgt) (hn : pc + 4 = nx) (hd2 : decode M.2.1 (pc + 1) = .ok (.ifCond cnd off, 3)) (hd : decode M.2.1 pc = .ok (.lcmp, 1)) : rx_entOK (rx_xh xt sl ln im) T lw M pc (.inl (fun _ => rx_q_lcmp cnd tgt nx)) := by
  subst hn
  refine ⟨_, _, hd, fun d I F ht c s lv st => ⟨rx_ifN _, fun zs h => ?_⟩⟩
  show rx_h_lcmp (decode M.2.1 (pc + 1)) (I, F, ht, c, s, pc, lv, st) = some zs
  have h : rx_q_lcmp cnd tgt (pc + 4) (I, F, ht, c, s, pc, lv, st) = some zs := h
  unfold rx_q_lcmp at h
  unfold rx_h_lcmp
  rw [hd2]
  split at h
  · rename_i b t e
    rw [e]
    dsimp only
    split at h
    · rename_i a t2 e2
      rw [e2]
      show (match rx_off (pc + 1) off with
        | some tgt => if rx_okL I a && rx_okL I b then some (rx_fork (I, F, ht, c, s, pc, lv, st) cnd a b tgt (pc + 4) t2) else none
        | none => none) = some zs
      rw [ho]
      exact h
    · cases h
  · cases h
theorem rx_k_goto {off : Int} {tgt : Nat} (ho : rx_off pc off = some tgt) (hd : decode M.2.1 pc = .ok (.goto off, 3)) : rx_entOK (rx_xh xt sl ln im) T lw M pc (.inl (fun _ => rx_q_goto tgt)) := by
  refine ⟨_, _, hd, fun d I F ht c s lv st => ⟨rx_ifN _, fun zs h => ?_⟩⟩
  show rx_h_goto off (I, F, ht, c, s, pc, lv, st) = some zs
  have ho2 : rx_off (rx_zpc (I, F, ht, c, s, pc, lv, st)) off = some tgt := ho
  unfold rx_h_goto
  rw [ho2]
  exact h
theorem rx_k_get {idx : Nat} {q : rx_Q} (hq : T.1 M.1 idx = some q) (hd : decode M.2.1 pc = .ok (.getfield idx, 3)) : rx_entOK (rx_xh xt sl ln im) T lw M pc (.inl (fun _ => rx_q_get q)) := by
  refine ⟨_, _, hd, fun d I F ht c s lv st => ⟨rx_ifN _, fun zs h => ?_⟩⟩
  dsimp only at h
  rw [rx_q_get_eq hq] at h
  exact h
theorem rx_k_put {idx : Nat} {q : rx_Q} {ini : Bool} (hq : T.1 M.1 idx = some q) (hi : M.2.2.2.2.2.1 = ini) (hd : decode M.2.1 pc = .ok (.putfield idx, 3)) : rx_entOK (rx_xh xt sl ln im) T lw M pc (.inl (fun _ => rx_q_put q ini)) := by
  subst hi
  refine ⟨_, _, hd, fun d I F ht c s lv st => ⟨rx_ifN _, fun zs h => ?_⟩⟩
  dsimp only at h
  rw [rx_q_put_eq hq] at h
  exact h
theorem rx_k_new {idx mc ms : Nat} {q : Nat × List Nat} (hq : T.2.1 M.1 idx = some q) (h1 : M.2.2.2.2.2.2.1 = mc) (h2 : M.2.2.2.2.2.2.2 = ms) (hd : decode M.2.1 pc = .ok (.new idx, 3)) : rx_entOK (rx_xh xt sl ln im) T lw M pc (.inl (fun _ => rx_q_new q mc ms)) := by
  subst h1; subst h2
  refine ⟨_, _, hd, fun d I F ht c s lv st => ⟨rx_ifN _, fun zs h => ?_⟩⟩
  dsimp only at h
  rw [rx_q_new_eq hq] at h
  exact h
theorem rx_k_newq {idx ci mc ms : Nat} (hq : T.2.2.1 M.1 idx = some ci) (h1 : M.2.2.2.2.2.2.1 = mc) (h2 : M.2.2.2.2.2.2.2 = ms) (hd : decode M.2.1 pc = .ok (.anewarray idx, 3)) : rx_entOK (rx_xh xt sl ln im) T lw M pc (.inl (fun _ => rx_q_newq ci mc ms)) := by
  subst h1; subst h2
  refine ⟨_, _, hd, fun d I F ht c s lv st => ⟨rx_ifN _, fun zs h => ?_⟩⟩
  dsimp only at h
  rw [rx_q_newq_eq hq] at h
  exact h
theorem rx_k_reti {mc ms : Nat} (h1 : M.2.2.2.2.2.2.1 = mc) (h2 : M.2.2.2.2.2.2.2 = ms) (hr : M.2.2.2.1 = some .int) (hd : decode M.2.1 pc = .ok (.ireturn, 1)) : rx_entOK (rx_xh xt sl ln im) T lw M pc (.inr (.inl (rx_q_reti mc ms))) := by
  refine ⟨_, _, hd, fun I F ht c s lv st E h => ?_⟩
  unfold rx_retk
  rw [hr, rx_q_may h1 h2]
  exact h
theorem rx_k_retz {mc ms : Nat} (h1 : M.2.2.2.2.2.2.1 = mc) (h2 : M.2.2.2.2.2.2.2 = ms) (hr : M.2.2.2.1 = some .boolean) (hd : decode M.2.1 pc = .ok (.ireturn, 1)) : rx_entOK (rx_xh xt sl ln im) T lw M pc (.inr (.inl (rx_q_retz mc ms))) := by
  refine ⟨_, _, hd, fun I F ht c s lv st E h => ?_⟩
  unfold rx_retk
  rw [hr, rx_q_may h1 h2]
  exact h
theorem rx_k_retl {mc ms : Nat} (h1 : M.2.2.2.2.2.2.1 = mc) (h2 : M.2.2.2.2.2.2.2 = ms) (hr : M.2.2.2.1 = some .long) (hd : decode M.2.1 pc = .ok (.lreturn, 1)) : rx_entOK (rx_xh xt sl ln im) T lw M pc (.inr (.inl (rx_q_retl mc ms))) := by
  refine ⟨_, _, hd, fun I F ht c s lv st E h => ?_⟩
  unfold rx_retk
  rw [hr, rx_q_may h1 h2]
  exact h
theorem rx_k_retv {mc ms : Nat} (h1 : M.2.2.2.2.2.2.1 = mc) (h2 : M.2.2.2.2.2.2.2 = ms) (hr : M.2.2.2.1 = none) (hd : decode M.2.1 pc = .ok (.return_, 1)) : rx_entOK (rx_xh xt sl ln im) T lw M pc (.inr (.inl (rx_q_retv mc ms))) := by
  refine ⟨_, _, hd, fun I F ht c s lv st E h => ?_⟩
  unfold rx_retk
  rw [hr, rx_q_may h1 h2]
  exact h
theorem rx_k_reta {mc ms : Nat} (h1 : M.2.2.2.2.2.2.1 = mc) (h2 : M.2.2.2.2.2.2.2 = ms) (hr : (∃ n, M.2.2.2.1 = some (.object n)) ∨ ∃ n, M.2.2.2.1 = some (.array n)) (hd : decode M.2.1 pc = .ok (.areturn, 1)) : rx_entOK (rx_xh xt sl ln im) T lw M pc (.inr (.inl (rx_q_reta mc ms))) := by
  refine ⟨_, _, hd, fun I F ht c s lv st E h => ?_⟩
  unfold rx_retk
  rcases hr with ⟨n, hr⟩ | ⟨n, hr⟩
  all_goals
    rw [hr, rx_q_may h1 h2]
    exact h
theorem rx_k_call0 {idx how n ci j' : Nat} {M' : rx_Mt} (hq : T.2.2.2.2.1 M.1 idx = some (how, n, ci, j')) (hM : T.2.2.2.2.2 j' = some M') (hw : (how % 3 == 0 && decide (how < 6)) = true) (hx : xt M.1 idx = none) (hd : decode M.2.1 pc = .ok (.invokevirtual idx, 3)) : rx_entOK (rx_xh xt sl ln im) T lw M pc (.inr (.inr (j', M', rx_q_vcall M M' n ci))) := by
  refine ⟨_, _, hd, hM, fun d I F ht c s lv st => ⟨rfl, ?_, fun as t h => ⟨(how, n, ci, j'), ?_⟩⟩⟩
  · show rx_or (rx_if (3 == 3 && xt M.1 idx == some 14) _) _ = none
    rw [hx]
    rfl
  · unfold rx_prep rx_cidx
    unfold rx_q_vcall at h
    dsimp only at h ⊢
    rw [hq]
    dsimp only
    rw [hM]
    split at h
    · rename_i as2 t2 e
      rw [e]
      dsimp only
      rw [hw]
      split at h
      · rename_i k t3 e2
        obtain ⟨h1, h2⟩ := rx_if_ok h
        cases h2
        have hne : ¬ ((0 : Nat) = 1) := by decide
        rw [rx_q_rcv_eq] at e2
        rw [if_neg hne, e2]
        dsimp only
        rw [h1]
        rfl
      · cases h
    · cases h
theorem rx_k_call1 {idx how n ci j' : Nat} {M' : rx_Mt} (hq : T.2.2.2.2.1 M.1 idx = some (how, n, ci, j')) (hM : T.2.2.2.2.2 j' = some M') (hw : (how % 3 == 1 && decide (how < 6)) = true) (hx : xt M.1 idx = none) (hd : decode M.2.1 pc = .ok (.invokestatic idx, 3)) : rx_entOK (rx_xh xt sl ln im) T lw M pc (.inr (.inr (j', M', rx_q_scall M M' n))) := by
  refine ⟨_, _, hd, hM, fun d I F ht c s lv st => ⟨rfl, ?_, fun as t h => ⟨(how, n, ci, j'), ?_⟩⟩⟩
  · have e : rx_xh xt sl ln im d M (.invokestatic idx) 3 (I, F, ht, c, s, pc, lv, st) = none := by
      show (match xt M.1 idx with
        | some 11 => rx_x_copy d (I, F, ht, c, s, pc, lv, st)
        | some 12 => rx_if (rx_xm M (I, F, ht, c, s, pc, lv, st)) (rx_x_fill d (I, F, ht, c, s, pc, lv, st))
        | some 13 => rx_if (rx_xm M (I, F, ht, c, s, pc, lv, st)) (rx_x_min d (I, F, ht, c, s, pc, lv, st))
        | _ => none) = _
      rw [hx]
      try rfl
    rw [e]
    rfl
  · unfold rx_prep rx_cidx
    unfold rx_q_scall at h
    dsimp only at h ⊢
    rw [hq]
    dsimp only
    rw [hM]
    split at h
    · rename_i as2 t2 e
      rw [e]
      dsimp only
      rw [hw]
      obtain ⟨h1, h2⟩ := rx_if_ok h
      cases h2
      rw [h1]
      rfl
    · cases h
theorem rx_k_call2 {idx how n ci j' : Nat} {M' : rx_Mt} (hq : T.2.2.2.2.1 M.1 idx = some (how, n, ci, j')) (hM : T.2.2.2.2.2 j' = some M') (hw : (how % 3 == 2 && decide (how < 6)) = true) (hx : xt M.1 idx = none) (hd : decode M.2.1 pc = .ok (.invokespecial idx, 3)) : rx_entOK (rx_xh xt sl ln im) T lw M pc (.inr (.inr (j', M', rx_q_vcall M M' n ci))) := by
  refine ⟨_, _, hd, hM, fun d I F ht c s lv st => ⟨rfl, ?_, fun as t h => ⟨(how, n, ci, j'), ?_⟩⟩⟩
  · show rx_or (rx_if (3 == 3 && xt M.1 idx == some 10) _) _ = none
    rw [hx]
    rfl
  · unfold rx_prep rx_cidx
    unfold rx_q_vcall at h
    dsimp only at h ⊢
    rw [hq]
    dsimp only
    rw [hM]
    split at h
    · rename_i as2 t2 e
      rw [e]
      dsimp only
      rw [hw]
      split at h
      · rename_i k t3 e2
        obtain ⟨h1, h2⟩ := rx_if_ok h
        cases h2
        have hne : ¬ ((2 : Nat) = 1) := by decide
        rw [rx_q_rcv_eq] at e2
        rw [if_neg hne, e2]
        dsimp only
        rw [h1]
        rfl
      · cases h
    · cases h
end RXK
end
section
/-! THE INTRINSICS ARE SOUND -/
section RXX
variable {G NW : List Jvm.Cond} {AO : List String} {cl : List vw_C} {nm : Nat → String} {A : Nat → Prop} {xa : Nat → Nat} {PX : State → Prop} {l : Launch} {D : va_G}
variable {p : Program} {e : Env} {R : Room} {s : State} {m : MethodId} {args : Array Value} {below : List Frame} {meth : Method} {c : Code} {Q : State → Prop} {H0 H : Heap} {locs : List Loc} {ls : Array Slot} {r : Nat → Int} {ad : Nat → Nat}
variable {M : rx_Mt} {z : rx_Z} {zs : List rx_Z} {d idx : Nat}
theorem rx_x_init_ok (hF : rx_Fr G NW AO PX p s m args meth c M) (hn : nm M.1 = M.2.2.2.2.1.cls) (hd : d ≤ R.frames) (hdl : d * 40 ≤ R.locals) (hw : Jvm.Cond.methodLink (nm M.1) idx Lib.objectInit ∈ G ∧ Jvm.Cond.instanceMethod Lib.objectInit ∈ G ∧ Jvm.Cond.code Lib.objectInit ⟨#[0xb1]⟩ 1 none ∈ G)
    (hdg : decode M.2.1 (rx_zpc z) = .ok (.invokespecial idx, 3)) (hR : rx_R D cl A s xa M.2.2.1 H0 z r ad H locs ls) (hz : rx_x_init d z = some zs) (K : ∀ z' ∈ zs, rx_G p l e R s m args below meth c Q D cl A xa M.2.2.1 H0 z.1.length z.2.2.1.length r ad z') :
    W p l e R s m args below meth c H locs z.2.2.2.1 z.2.2.2.2.1 Q (F0 m (rx_zpc z) ls ((rx_zst z).map (rx_iv r ad xa))) := by
  unfold rx_x_init at hz
  split at hz
  · rename_i k t hp
    obtain ⟨h1, hz⟩ := rx_if_ok hz
    rw [Bool.and_eq_true, decide_eq_true_eq, decide_eq_true_eq] at h1
    cases hz
    have he := rx_pr_ok hp
    have hst := rx_stsc hR
    rw [he] at hst ⊢
    obtain ⟨hx, hb, hr, hml, hown, hlk, hts, -⟩ := id hF
    rw [hn] at hw
    refine W.objInit hx hb hown (hts _ hw.1) (hts _ hw.2.1) (hts _ hw.2.2) (g := F0 m (rx_zpc z) ls _) rfl (by show ls.size = c.maxLocals; rw [hml]; exact (rx_lvh hR).1) rfl hdg (Nat.le_trans h1.1 hd) ?_ ?_
    · show 2 * 0 + ((t.map (rx_iv r ad xa)).map fun v => v.category).sum + 12 ≤ R.locals
      rw [rx_cats_sum]
      omega
    · exact rx_at (K _ List.mem_cons_self) rx_same.rf rx_sameA.rf (rx_R_nx hR (fun v hv => hst v (List.mem_cons_of_mem _ hv))) rfl rfl rfl rfl
  · cases hz
theorem rx_pt_ok {n : rx_E} {x : Int} (hs : rx_sat z.1 r) (h : rx_pt z n = some x) : Int32.ofInt (rx_ev r n) = Int32.ofInt x ∧ (Int32.ofInt x).toInt = x := by
  unfold rx_pt at h
  split at h
  · rename_i lo hi hb
    split at h
    · rename_i e
      have h' : lo = x := Option.some.inj h
      obtain ⟨h1, h2, h3, -⟩ := rx_bi_ok hs hb
      have e2 : rx_ev r n = x := by omega
      rw [e2] at h3 ⊢
      exact ⟨rfl, h3⟩
    · cases h
  · cases h
theorem rx_x_min_ok (hF : rx_Fr G NW AO PX p s m args meth c M) (hn : nm M.1 = M.2.2.2.2.1.cls) (hd : d ≤ R.frames) (hdl : d * 40 ≤ R.locals) (hmc : z.2.2.2.1 ≤ R.cells) (hms : z.2.2.2.2.1 ≤ R.slots) (hw : Jvm.Cond.methodLink (nm M.1) idx Lib.Math.min.name ∈ G ∧ Jvm.Cond.static Lib.Math.min.name ∈ G ∧ Jvm.Cond.initialized "java/lang/Math" ∈ G ∧ Jvm.Cond.code Lib.Math.min.name Lib.Math.min.code 2 (some .int) ∈ G)
    (hdg : decode M.2.1 (rx_zpc z) = .ok (.invokestatic idx, 3)) (hR : rx_R D cl A s xa M.2.2.1 H0 z r ad H locs ls) (hz : rx_x_min d z = some zs) (K : ∀ z' ∈ zs, rx_G p l e R s m args below meth c Q D cl A xa M.2.2.1 H0 z.1.length z.2.2.1.length r ad z') :
    W p l e R s m args below meth c H locs z.2.2.2.1 z.2.2.2.2.1 Q (F0 m (rx_zpc z) ls ((rx_zst z).map (rx_iv r ad xa))) := by
  unfold rx_x_min at hz
  split at hz
  · rename_i bb t hp
    split at hz
    · rename_i aa t2 hp2
      split at hz
      · rename_i x y hx1 hy1
        obtain ⟨h1, hz⟩ := rx_if_ok hz
        rw [Bool.and_eq_true, decide_eq_true_eq, decide_eq_true_eq] at h1
        cases hz
        have he := rx_pi_ok hp
        have he2 := rx_pi_ok hp2
        subst he2
        have hst := rx_stsc hR
        rw [he] at hst ⊢
        obtain ⟨hx, hb, hr, hml, hown, hlk, hts, -⟩ := id hF
        rw [hn] at hw
        obtain ⟨a1, a2⟩ := rx_pt_ok (r := r) hR.1 hx1
        obtain ⟨b1, b2⟩ := rx_pt_ok (r := r) hR.1 hy1
        show W p l e R s m args below meth c H locs z.2.2.2.1 z.2.2.2.2.1 Q (F0 m (rx_zpc z) ls (.int (Int32.ofInt (rx_ev r bb)) :: .int (Int32.ofInt (rx_ev r aa)) :: t2.map (rx_iv r ad xa)))
        rw [a1, b1]
        refine va_mmin hx hb (by rw [hml]; exact (rx_lvh hR).1.symm) hown (hts _ hw.1) (hts _ hw.2.1) (hts _ hw.2.2.1) (hts _ hw.2.2.2) (Nat.le_trans h1.1 hd) ?_ hmc hms hdg ?_
        · rw [rx_cats_sum]
          omega
        · refine rx_at (K _ List.mem_cons_self) rx_same.rf rx_sameA.rf (rx_R_nx hR (fun v hv => ?_)) rfl rfl rfl ?_
          · rcases List.mem_cons.mp hv with h | h
            · subst h
              exact rx_sc0 hR 0 _
            · exact hst v (List.mem_cons_of_mem _ (List.mem_cons_of_mem _ h))
          · show rx_iv r ad xa (rx_n (if x < y then x else y)) :: t2.map (rx_iv r ad xa) = _
            rw [rx_n_iv hR.1]
            congr 2
            by_cases hyx : Int32.ofInt y < Int32.ofInt x
            · have h2 : y < x := by
                rw [Int32.lt_iff_toInt_lt, a2, b2] at hyx
                exact hyx
              rw [if_pos hyx, if_neg (by omega)]
            · have h2 : ¬ y < x := by
                rw [Int32.lt_iff_toInt_lt, a2, b2] at hyx
                exact hyx
              rw [if_neg hyx]
              by_cases hxy : x < y
              · rw [if_pos hxy]
              · rw [if_neg hxy, show y = x by omega]
      · cases hz
    · cases hz
  · cases hz
end RXX
end
